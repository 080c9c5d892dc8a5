section
-- ===== PART A: goes FIRST, ahead of the names: the tables' words, and 'selects' of the private methods out of them =====
/-- a private method of a class that the tables say can be made, by its rows of tables_1 -/
def lw_okq (q : MethodName × Nat) : Prop := (q.1.cls ≠ "java/lang/invoke/MethodHandle" ∧ q.1.cls ≠ "java/lang/invoke/VarHandle") ∧ Cond.instantiable q.1.cls q.2 ∈ tables_1 ∧ Cond.privateMethod q.1 ∈ tables_1 ∧ Cond.instanceMethod q.1 ∈ tables_1
theorem lw_p0 : lw_okq (⟨"StackLab", "recordChange", "()V"⟩, 15) := ⟨⟨by decide +kernel, by decide +kernel⟩, List.mem_of_getElem? (i := 16) (by decide +kernel), List.mem_of_getElem? (i := 390) (by decide +kernel), List.mem_of_getElem? (i := 391) (by decide +kernel)⟩
theorem lw_p1 : lw_okq (⟨"StackLab$History", "dropOldest", "()V"⟩, 2) := ⟨⟨by decide +kernel, by decide +kernel⟩, List.mem_of_getElem? (i := 63) (by decide +kernel), List.mem_of_getElem? (i := 398) (by decide +kernel), List.mem_of_getElem? (i := 399) (by decide +kernel)⟩
theorem lw_p2 : lw_okq (⟨"StackLab", "forgetAnswers", "()V"⟩, 15) := ⟨⟨by decide +kernel, by decide +kernel⟩, List.mem_of_getElem? (i := 16) (by decide +kernel), List.mem_of_getElem? (i := 409) (by decide +kernel), List.mem_of_getElem? (i := 410) (by decide +kernel)⟩
theorem lw_p3 : lw_okq (⟨"StackLab", "isState", "(I)Z"⟩, 15) := ⟨⟨by decide +kernel, by decide +kernel⟩, List.mem_of_getElem? (i := 16) (by decide +kernel), List.mem_of_getElem? (i := 425) (by decide +kernel), List.mem_of_getElem? (i := 426) (by decide +kernel)⟩
theorem lw_p4 : lw_okq (⟨"StackLab", "isSymbol", "(I)Z"⟩, 15) := ⟨⟨by decide +kernel, by decide +kernel⟩, List.mem_of_getElem? (i := 16) (by decide +kernel), List.mem_of_getElem? (i := 429) (by decide +kernel), List.mem_of_getElem? (i := 430) (by decide +kernel)⟩
theorem lw_p5 : lw_okq (⟨"StackLab", "isWord", "(III)Z"⟩, 15) := ⟨⟨by decide +kernel, by decide +kernel⟩, List.mem_of_getElem? (i := 16) (by decide +kernel), List.mem_of_getElem? (i := 433) (by decide +kernel), List.mem_of_getElem? (i := 434) (by decide +kernel)⟩
theorem lw_p6 : lw_okq (⟨"StackLab", "isRule", "(I)Z"⟩, 15) := ⟨⟨by decide +kernel, by decide +kernel⟩, List.mem_of_getElem? (i := 16) (by decide +kernel), List.mem_of_getElem? (i := 463) (by decide +kernel), List.mem_of_getElem? (i := 464) (by decide +kernel)⟩
theorem lw_p7 : lw_okq (⟨"StackLab", "isAsked", "(II)Z"⟩, 15) := ⟨⟨by decide +kernel, by decide +kernel⟩, List.mem_of_getElem? (i := 16) (by decide +kernel), List.mem_of_getElem? (i := 510) (by decide +kernel), List.mem_of_getElem? (i := 511) (by decide +kernel)⟩
theorem lw_p8 : lw_okq (⟨"StackLab", "costTo", "(I)J"⟩, 15) := ⟨⟨by decide +kernel, by decide +kernel⟩, List.mem_of_getElem? (i := 16) (by decide +kernel), List.mem_of_getElem? (i := 514) (by decide +kernel), List.mem_of_getElem? (i := 515) (by decide +kernel)⟩
theorem lw_p9 : lw_okq (⟨"StackLab", "makePlan", "()V"⟩, 15) := ⟨⟨by decide +kernel, by decide +kernel⟩, List.mem_of_getElem? (i := 16) (by decide +kernel), List.mem_of_getElem? (i := 518) (by decide +kernel), List.mem_of_getElem? (i := 519) (by decide +kernel)⟩
theorem lw_p10 : lw_okq (⟨"StackLab$Plan", "takeRule", "(LStackLab$Setup;I)V"⟩, 10) := ⟨⟨by decide +kernel, by decide +kernel⟩, List.mem_of_getElem? (i := 115) (by decide +kernel), List.mem_of_getElem? (i := 527) (by decide +kernel), List.mem_of_getElem? (i := 528) (by decide +kernel)⟩
theorem lw_p11 : lw_okq (⟨"StackLab$Summary", "lowerPricesBy", "(I)Z"⟩, 3) := ⟨⟨by decide +kernel, by decide +kernel⟩, List.mem_of_getElem? (i := 187) (by decide +kernel), List.mem_of_getElem? (i := 547) (by decide +kernel), List.mem_of_getElem? (i := 548) (by decide +kernel)⟩
theorem lw_p12 : lw_okq (⟨"StackLab$Summary", "lowerPricesThrough", "(IIJ)Z"⟩, 3) := ⟨⟨by decide +kernel, by decide +kernel⟩, List.mem_of_getElem? (i := 187) (by decide +kernel), List.mem_of_getElem? (i := 554) (by decide +kernel), List.mem_of_getElem? (i := 555) (by decide +kernel)⟩
theorem lw_p13 : lw_okq (⟨"StackLab$Search", "fillLevel", "(I)V"⟩, 13) := ⟨⟨by decide +kernel, by decide +kernel⟩, List.mem_of_getElem? (i := 204) (by decide +kernel), List.mem_of_getElem? (i := 574) (by decide +kernel), List.mem_of_getElem? (i := 575) (by decide +kernel)⟩
theorem lw_p14 : lw_okq (⟨"StackLab$Search", "pushOnto", "(I)V"⟩, 13) := ⟨⟨by decide +kernel, by decide +kernel⟩, List.mem_of_getElem? (i := 204) (by decide +kernel), List.mem_of_getElem? (i := 580) (by decide +kernel), List.mem_of_getElem? (i := 581) (by decide +kernel)⟩
theorem lw_p15 : lw_okq (⟨"StackLab$Summary", "gatherBy", "(I[J)Z"⟩, 3) := ⟨⟨by decide +kernel, by decide +kernel⟩, List.mem_of_getElem? (i := 187) (by decide +kernel), List.mem_of_getElem? (i := 589) (by decide +kernel), List.mem_of_getElem? (i := 590) (by decide +kernel)⟩
def lw_privs_1 : List (MethodName × Nat) := [(⟨"StackLab", "recordChange", "()V"⟩, 15), (⟨"StackLab$History", "dropOldest", "()V"⟩, 2), (⟨"StackLab", "forgetAnswers", "()V"⟩, 15), (⟨"StackLab", "isState", "(I)Z"⟩, 15), (⟨"StackLab", "isSymbol", "(I)Z"⟩, 15), (⟨"StackLab", "isWord", "(III)Z"⟩, 15), (⟨"StackLab", "isRule", "(I)Z"⟩, 15), (⟨"StackLab", "isAsked", "(II)Z"⟩, 15), (⟨"StackLab", "costTo", "(I)J"⟩, 15), (⟨"StackLab", "makePlan", "()V"⟩, 15), (⟨"StackLab$Plan", "takeRule", "(LStackLab$Setup;I)V"⟩, 10), (⟨"StackLab$Summary", "lowerPricesBy", "(I)Z"⟩, 3), (⟨"StackLab$Summary", "lowerPricesThrough", "(IIJ)Z"⟩, 3), (⟨"StackLab$Search", "fillLevel", "(I)V"⟩, 13), (⟨"StackLab$Search", "pushOnto", "(I)V"⟩, 13), (⟨"StackLab$Summary", "gatherBy", "(I[J)Z"⟩, 3)]
theorem lw_r1 : ∀ q ∈ lw_privs_1, lw_okq q := List.forall_mem_cons.mpr ⟨lw_p0, List.forall_mem_cons.mpr ⟨lw_p1, List.forall_mem_cons.mpr ⟨lw_p2, List.forall_mem_cons.mpr ⟨lw_p3, List.forall_mem_cons.mpr ⟨lw_p4, List.forall_mem_cons.mpr ⟨lw_p5, List.forall_mem_cons.mpr ⟨lw_p6, List.forall_mem_cons.mpr ⟨lw_p7, List.forall_mem_cons.mpr ⟨lw_p8, List.forall_mem_cons.mpr ⟨lw_p9, List.forall_mem_cons.mpr ⟨lw_p10, List.forall_mem_cons.mpr ⟨lw_p11, List.forall_mem_cons.mpr ⟨lw_p12, List.forall_mem_cons.mpr ⟨lw_p13, List.forall_mem_cons.mpr ⟨lw_p14, List.forall_mem_cons.mpr ⟨lw_p15, fun _ h => absurd h List.not_mem_nil⟩⟩⟩⟩⟩⟩⟩⟩⟩⟩⟩⟩⟩⟩⟩⟩
theorem lw_p16 : lw_okq (⟨"StackLab$Search", "put", "(I)V"⟩, 13) := ⟨⟨by decide +kernel, by decide +kernel⟩, List.mem_of_getElem? (i := 204) (by decide +kernel), List.mem_of_getElem? (i := 597) (by decide +kernel), List.mem_of_getElem? (i := 598) (by decide +kernel)⟩
theorem lw_p17 : lw_okq (⟨"StackLab$Search", "costWithTop", "(II)J"⟩, 13) := ⟨⟨by decide +kernel, by decide +kernel⟩, List.mem_of_getElem? (i := 204) (by decide +kernel), List.mem_of_getElem? (i := 601) (by decide +kernel), List.mem_of_getElem? (i := 602) (by decide +kernel)⟩
theorem lw_p18 : lw_okq (⟨"StackLab$Search", "costAfter", "(I)J"⟩, 13) := ⟨⟨by decide +kernel, by decide +kernel⟩, List.mem_of_getElem? (i := 204) (by decide +kernel), List.mem_of_getElem? (i := 642) (by decide +kernel), List.mem_of_getElem? (i := 643) (by decide +kernel)⟩
theorem lw_p19 : lw_okq (⟨"StackLab$Search", "apply", "(I)V"⟩, 13) := ⟨⟨by decide +kernel, by decide +kernel⟩, List.mem_of_getElem? (i := 204) (by decide +kernel), List.mem_of_getElem? (i := 646) (by decide +kernel), List.mem_of_getElem? (i := 647) (by decide +kernel)⟩
theorem lw_p20 : lw_okq (⟨"StackLab", "buildMachine", "()V"⟩, 15) := ⟨⟨by decide +kernel, by decide +kernel⟩, List.mem_of_getElem? (i := 16) (by decide +kernel), List.mem_of_getElem? (i := 664) (by decide +kernel), List.mem_of_getElem? (i := 665) (by decide +kernel)⟩
theorem lw_p21 : lw_okq (⟨"StackLab$Machine", "readStartStack", "()V"⟩, 13) := ⟨⟨by decide +kernel, by decide +kernel⟩, List.mem_of_getElem? (i := 291) (by decide +kernel), List.mem_of_getElem? (i := 677) (by decide +kernel), List.mem_of_getElem? (i := 678) (by decide +kernel)⟩
theorem lw_p22 : lw_okq (⟨"StackLab$Machine", "keepLeast", "(IIIJ)V"⟩, 13) := ⟨⟨by decide +kernel, by decide +kernel⟩, List.mem_of_getElem? (i := 291) (by decide +kernel), List.mem_of_getElem? (i := 682) (by decide +kernel), List.mem_of_getElem? (i := 683) (by decide +kernel)⟩
theorem lw_p23 : lw_okq (⟨"StackLab$Machine", "readOnFrom", "(II)V"⟩, 13) := ⟨⟨by decide +kernel, by decide +kernel⟩, List.mem_of_getElem? (i := 291) (by decide +kernel), List.mem_of_getElem? (i := 687) (by decide +kernel), List.mem_of_getElem? (i := 688) (by decide +kernel)⟩
theorem lw_p24 : lw_okq (⟨"StackLab$Machine", "addArcsTo", "(I)V"⟩, 13) := ⟨⟨by decide +kernel, by decide +kernel⟩, List.mem_of_getElem? (i := 291) (by decide +kernel), List.mem_of_getElem? (i := 696) (by decide +kernel), List.mem_of_getElem? (i := 697) (by decide +kernel)⟩
theorem lw_p25 : lw_okq (⟨"StackLab$Summary", "spreadBy", "(I[J)Z"⟩, 3) := ⟨⟨by decide +kernel, by decide +kernel⟩, List.mem_of_getElem? (i := 187) (by decide +kernel), List.mem_of_getElem? (i := 704) (by decide +kernel), List.mem_of_getElem? (i := 705) (by decide +kernel)⟩
theorem lw_p26 : lw_okq (⟨"StackLab$Machine", "addArcsBy", "(IIJ)V"⟩, 13) := ⟨⟨by decide +kernel, by decide +kernel⟩, List.mem_of_getElem? (i := 291) (by decide +kernel), List.mem_of_getElem? (i := 708) (by decide +kernel), List.mem_of_getElem? (i := 709) (by decide +kernel)⟩
theorem lw_p27 : lw_okq (⟨"StackLab$Machine", "openHead", "(I)V"⟩, 13) := ⟨⟨by decide +kernel, by decide +kernel⟩, List.mem_of_getElem? (i := 291) (by decide +kernel), List.mem_of_getElem? (i := 712) (by decide +kernel), List.mem_of_getElem? (i := 713) (by decide +kernel)⟩
theorem lw_p28 : lw_okq (⟨"StackLab$Machine", "readFromHead", "(I)V"⟩, 13) := ⟨⟨by decide +kernel, by decide +kernel⟩, List.mem_of_getElem? (i := 291) (by decide +kernel), List.mem_of_getElem? (i := 716) (by decide +kernel), List.mem_of_getElem? (i := 717) (by decide +kernel)⟩
theorem lw_p29 : lw_okq (⟨"StackLab$Machine", "listArcs", "()V"⟩, 13) := ⟨⟨by decide +kernel, by decide +kernel⟩, List.mem_of_getElem? (i := 291) (by decide +kernel), List.mem_of_getElem? (i := 720) (by decide +kernel), List.mem_of_getElem? (i := 721) (by decide +kernel)⟩
theorem lw_p30 : lw_okq (⟨"StackLab$Machine", "findWaysHome", "()V"⟩, 13) := ⟨⟨by decide +kernel, by decide +kernel⟩, List.mem_of_getElem? (i := 291) (by decide +kernel), List.mem_of_getElem? (i := 724) (by decide +kernel), List.mem_of_getElem? (i := 725) (by decide +kernel)⟩
theorem lw_p31 : lw_okq (⟨"StackLab$Machine", "costOverArc", "(I)J"⟩, 13) := ⟨⟨by decide +kernel, by decide +kernel⟩, List.mem_of_getElem? (i := 291) (by decide +kernel), List.mem_of_getElem? (i := 728) (by decide +kernel), List.mem_of_getElem? (i := 729) (by decide +kernel)⟩
def lw_privs_2 : List (MethodName × Nat) := [(⟨"StackLab$Search", "put", "(I)V"⟩, 13), (⟨"StackLab$Search", "costWithTop", "(II)J"⟩, 13), (⟨"StackLab$Search", "costAfter", "(I)J"⟩, 13), (⟨"StackLab$Search", "apply", "(I)V"⟩, 13), (⟨"StackLab", "buildMachine", "()V"⟩, 15), (⟨"StackLab$Machine", "readStartStack", "()V"⟩, 13), (⟨"StackLab$Machine", "keepLeast", "(IIIJ)V"⟩, 13), (⟨"StackLab$Machine", "readOnFrom", "(II)V"⟩, 13), (⟨"StackLab$Machine", "addArcsTo", "(I)V"⟩, 13), (⟨"StackLab$Summary", "spreadBy", "(I[J)Z"⟩, 3), (⟨"StackLab$Machine", "addArcsBy", "(IIJ)V"⟩, 13), (⟨"StackLab$Machine", "openHead", "(I)V"⟩, 13), (⟨"StackLab$Machine", "readFromHead", "(I)V"⟩, 13), (⟨"StackLab$Machine", "listArcs", "()V"⟩, 13), (⟨"StackLab$Machine", "findWaysHome", "()V"⟩, 13), (⟨"StackLab$Machine", "costOverArc", "(I)J"⟩, 13)]
theorem lw_r2 : ∀ q ∈ lw_privs_2, lw_okq q := List.forall_mem_cons.mpr ⟨lw_p16, List.forall_mem_cons.mpr ⟨lw_p17, List.forall_mem_cons.mpr ⟨lw_p18, List.forall_mem_cons.mpr ⟨lw_p19, List.forall_mem_cons.mpr ⟨lw_p20, List.forall_mem_cons.mpr ⟨lw_p21, List.forall_mem_cons.mpr ⟨lw_p22, List.forall_mem_cons.mpr ⟨lw_p23, List.forall_mem_cons.mpr ⟨lw_p24, List.forall_mem_cons.mpr ⟨lw_p25, List.forall_mem_cons.mpr ⟨lw_p26, List.forall_mem_cons.mpr ⟨lw_p27, List.forall_mem_cons.mpr ⟨lw_p28, List.forall_mem_cons.mpr ⟨lw_p29, List.forall_mem_cons.mpr ⟨lw_p30, List.forall_mem_cons.mpr ⟨lw_p31, fun _ h => absurd h List.not_mem_nil⟩⟩⟩⟩⟩⟩⟩⟩⟩⟩⟩⟩⟩⟩⟩⟩
theorem lw_p32 : lw_okq (⟨"StackLab$Machine", "weightOfArc", "(I)I"⟩, 13) := ⟨⟨by decide +kernel, by decide +kernel⟩, List.mem_of_getElem? (i := 291) (by decide +kernel), List.mem_of_getElem? (i := 732) (by decide +kernel), List.mem_of_getElem? (i := 733) (by decide +kernel)⟩
theorem lw_p33 : lw_okq (⟨"StackLab$Machine", "costThrough", "(II)J"⟩, 13) := ⟨⟨by decide +kernel, by decide +kernel⟩, List.mem_of_getElem? (i := 291) (by decide +kernel), List.mem_of_getElem? (i := 742) (by decide +kernel), List.mem_of_getElem? (i := 743) (by decide +kernel)⟩
theorem lw_p34 : lw_okq (⟨"StackLab$Machine", "leastLabel", "(I)I"⟩, 13) := ⟨⟨by decide +kernel, by decide +kernel⟩, List.mem_of_getElem? (i := 291) (by decide +kernel), List.mem_of_getElem? (i := 757) (by decide +kernel), List.mem_of_getElem? (i := 758) (by decide +kernel)⟩
theorem lw_p35 : lw_okq (⟨"StackLab$Machine", "isBestFrom", "(II)Z"⟩, 13) := ⟨⟨by decide +kernel, by decide +kernel⟩, List.mem_of_getElem? (i := 291) (by decide +kernel), List.mem_of_getElem? (i := 761) (by decide +kernel), List.mem_of_getElem? (i := 762) (by decide +kernel)⟩
theorem lw_p36 : lw_okq (⟨"StackLab$Machine", "endsAfter", "(II)I"⟩, 13) := ⟨⟨by decide +kernel, by decide +kernel⟩, List.mem_of_getElem? (i := 291) (by decide +kernel), List.mem_of_getElem? (i := 765) (by decide +kernel), List.mem_of_getElem? (i := 766) (by decide +kernel)⟩
theorem lw_p37 : lw_okq (⟨"StackLab", "costWithout", "(II)J"⟩, 15) := ⟨⟨by decide +kernel, by decide +kernel⟩, List.mem_of_getElem? (i := 16) (by decide +kernel), List.mem_of_getElem? (i := 809) (by decide +kernel), List.mem_of_getElem? (i := 810) (by decide +kernel)⟩
theorem lw_p38 : lw_okq (⟨"StackLab", "rulesOfWitness", "()I"⟩, 15) := ⟨⟨by decide +kernel, by decide +kernel⟩, List.mem_of_getElem? (i := 16) (by decide +kernel), List.mem_of_getElem? (i := 817) (by decide +kernel), List.mem_of_getElem? (i := 818) (by decide +kernel)⟩
theorem lw_p39 : lw_okq (⟨"StackLab", "readText", "()I"⟩, 15) := ⟨⟨by decide +kernel, by decide +kernel⟩, List.mem_of_getElem? (i := 16) (by decide +kernel), List.mem_of_getElem? (i := 841) (by decide +kernel), List.mem_of_getElem? (i := 842) (by decide +kernel)⟩
theorem lw_p40 : lw_okq (⟨"StackLab$Text", "parseItem", "(LStackLab$Setup;)I"⟩, 3) := ⟨⟨by decide +kernel, by decide +kernel⟩, List.mem_of_getElem? (i := 80) (by decide +kernel), List.mem_of_getElem? (i := 850) (by decide +kernel), List.mem_of_getElem? (i := 851) (by decide +kernel)⟩
theorem lw_p41 : lw_okq (⟨"StackLab$Text", "takeOneOf", "(II)I"⟩, 3) := ⟨⟨by decide +kernel, by decide +kernel⟩, List.mem_of_getElem? (i := 80) (by decide +kernel), List.mem_of_getElem? (i := 854) (by decide +kernel), List.mem_of_getElem? (i := 855) (by decide +kernel)⟩
theorem lw_p42 : lw_okq (⟨"StackLab$Text", "takeWord", "(I)I"⟩, 3) := ⟨⟨by decide +kernel, by decide +kernel⟩, List.mem_of_getElem? (i := 80) (by decide +kernel), List.mem_of_getElem? (i := 858) (by decide +kernel), List.mem_of_getElem? (i := 859) (by decide +kernel)⟩
theorem lw_p43 : lw_okq (⟨"StackLab$Text", "takeWeight", "()I"⟩, 3) := ⟨⟨by decide +kernel, by decide +kernel⟩, List.mem_of_getElem? (i := 80) (by decide +kernel), List.mem_of_getElem? (i := 862) (by decide +kernel), List.mem_of_getElem? (i := 863) (by decide +kernel)⟩
theorem lw_p44 : lw_okq (⟨"StackLabModel", "keep", "()V"⟩, 20) := ⟨⟨by decide +kernel, by decide +kernel⟩, List.mem_of_getElem? (i := 873) (by decide +kernel), List.mem_of_getElem? (i := 947) (by decide +kernel), List.mem_of_getElem? (i := 948) (by decide +kernel)⟩
theorem lw_p45 : lw_okq (⟨"StackLabModel", "isState", "(I)Z"⟩, 20) := ⟨⟨by decide +kernel, by decide +kernel⟩, List.mem_of_getElem? (i := 873) (by decide +kernel), List.mem_of_getElem? (i := 955) (by decide +kernel), List.mem_of_getElem? (i := 956) (by decide +kernel)⟩
theorem lw_p46 : lw_okq (⟨"StackLabModel", "isSymbol", "(I)Z"⟩, 20) := ⟨⟨by decide +kernel, by decide +kernel⟩, List.mem_of_getElem? (i := 873) (by decide +kernel), List.mem_of_getElem? (i := 959) (by decide +kernel), List.mem_of_getElem? (i := 960) (by decide +kernel)⟩
theorem lw_p47 : lw_okq (⟨"StackLabModel", "isWord", "(III)Z"⟩, 20) := ⟨⟨by decide +kernel, by decide +kernel⟩, List.mem_of_getElem? (i := 873) (by decide +kernel), List.mem_of_getElem? (i := 963) (by decide +kernel), List.mem_of_getElem? (i := 964) (by decide +kernel)⟩
def lw_privs_3 : List (MethodName × Nat) := [(⟨"StackLab$Machine", "weightOfArc", "(I)I"⟩, 13), (⟨"StackLab$Machine", "costThrough", "(II)J"⟩, 13), (⟨"StackLab$Machine", "leastLabel", "(I)I"⟩, 13), (⟨"StackLab$Machine", "isBestFrom", "(II)Z"⟩, 13), (⟨"StackLab$Machine", "endsAfter", "(II)I"⟩, 13), (⟨"StackLab", "costWithout", "(II)J"⟩, 15), (⟨"StackLab", "rulesOfWitness", "()I"⟩, 15), (⟨"StackLab", "readText", "()I"⟩, 15), (⟨"StackLab$Text", "parseItem", "(LStackLab$Setup;)I"⟩, 3), (⟨"StackLab$Text", "takeOneOf", "(II)I"⟩, 3), (⟨"StackLab$Text", "takeWord", "(I)I"⟩, 3), (⟨"StackLab$Text", "takeWeight", "()I"⟩, 3), (⟨"StackLabModel", "keep", "()V"⟩, 20), (⟨"StackLabModel", "isState", "(I)Z"⟩, 20), (⟨"StackLabModel", "isSymbol", "(I)Z"⟩, 20), (⟨"StackLabModel", "isWord", "(III)Z"⟩, 20)]
theorem lw_r3 : ∀ q ∈ lw_privs_3, lw_okq q := List.forall_mem_cons.mpr ⟨lw_p32, List.forall_mem_cons.mpr ⟨lw_p33, List.forall_mem_cons.mpr ⟨lw_p34, List.forall_mem_cons.mpr ⟨lw_p35, List.forall_mem_cons.mpr ⟨lw_p36, List.forall_mem_cons.mpr ⟨lw_p37, List.forall_mem_cons.mpr ⟨lw_p38, List.forall_mem_cons.mpr ⟨lw_p39, List.forall_mem_cons.mpr ⟨lw_p40, List.forall_mem_cons.mpr ⟨lw_p41, List.forall_mem_cons.mpr ⟨lw_p42, List.forall_mem_cons.mpr ⟨lw_p43, List.forall_mem_cons.mpr ⟨lw_p44, List.forall_mem_cons.mpr ⟨lw_p45, List.forall_mem_cons.mpr ⟨lw_p46, List.forall_mem_cons.mpr ⟨lw_p47, fun _ h => absurd h List.not_mem_nil⟩⟩⟩⟩⟩⟩⟩⟩⟩⟩⟩⟩⟩⟩⟩⟩
theorem lw_p48 : lw_okq (⟨"StackLabModel", "isThere", "(IIII)Z"⟩, 20) := ⟨⟨by decide +kernel, by decide +kernel⟩, List.mem_of_getElem? (i := 873) (by decide +kernel), List.mem_of_getElem? (i := 970) (by decide +kernel), List.mem_of_getElem? (i := 971) (by decide +kernel)⟩
theorem lw_p49 : lw_okq (⟨"StackLabModel", "of", "(II)I"⟩, 20) := ⟨⟨by decide +kernel, by decide +kernel⟩, List.mem_of_getElem? (i := 873) (by decide +kernel), List.mem_of_getElem? (i := 974) (by decide +kernel), List.mem_of_getElem? (i := 975) (by decide +kernel)⟩
theorem lw_p50 : lw_okq (⟨"StackLabModel", "lay", "(IIIIII)V"⟩, 20) := ⟨⟨by decide +kernel, by decide +kernel⟩, List.mem_of_getElem? (i := 873) (by decide +kernel), List.mem_of_getElem? (i := 978) (by decide +kernel), List.mem_of_getElem? (i := 979) (by decide +kernel)⟩
theorem lw_p51 : lw_okq (⟨"StackLabModel", "isRule", "(I)Z"⟩, 20) := ⟨⟨by decide +kernel, by decide +kernel⟩, List.mem_of_getElem? (i := 873) (by decide +kernel), List.mem_of_getElem? (i := 986) (by decide +kernel), List.mem_of_getElem? (i := 987) (by decide +kernel)⟩
theorem lw_p52 : lw_okq (⟨"StackLabModel", "rulesBy", "(I)I"⟩, 20) := ⟨⟨by decide +kernel, by decide +kernel⟩, List.mem_of_getElem? (i := 873) (by decide +kernel), List.mem_of_getElem? (i := 1006) (by decide +kernel), List.mem_of_getElem? (i := 1007) (by decide +kernel)⟩
theorem lw_p53 : lw_okq (⟨"StackLabModel", "isAsked", "(II)Z"⟩, 20) := ⟨⟨by decide +kernel, by decide +kernel⟩, List.mem_of_getElem? (i := 873) (by decide +kernel), List.mem_of_getElem? (i := 1018) (by decide +kernel), List.mem_of_getElem? (i := 1019) (by decide +kernel)⟩
theorem lw_p54 : lw_okq (⟨"StackLabModel", "distanceTo", "(III)I"⟩, 20) := ⟨⟨by decide +kernel, by decide +kernel⟩, List.mem_of_getElem? (i := 873) (by decide +kernel), List.mem_of_getElem? (i := 1022) (by decide +kernel), List.mem_of_getElem? (i := 1023) (by decide +kernel)⟩
theorem lw_p55 : lw_okq (⟨"StackLabModel", "costTo", "(III)J"⟩, 20) := ⟨⟨by decide +kernel, by decide +kernel⟩, List.mem_of_getElem? (i := 873) (by decide +kernel), List.mem_of_getElem? (i := 1026) (by decide +kernel), List.mem_of_getElem? (i := 1027) (by decide +kernel)⟩
theorem lw_p56 : lw_okq (⟨"StackLabModel", "aim", "(III)V"⟩, 20) := ⟨⟨by decide +kernel, by decide +kernel⟩, List.mem_of_getElem? (i := 873) (by decide +kernel), List.mem_of_getElem? (i := 1030) (by decide +kernel), List.mem_of_getElem? (i := 1031) (by decide +kernel)⟩
theorem lw_p57 : lw_okq (⟨"StackLabModel", "improve", "(IIIJ)Z"⟩, 20) := ⟨⟨by decide +kernel, by decide +kernel⟩, List.mem_of_getElem? (i := 873) (by decide +kernel), List.mem_of_getElem? (i := 1038) (by decide +kernel), List.mem_of_getElem? (i := 1039) (by decide +kernel)⟩
theorem lw_p58 : lw_okq (⟨"StackLabModel", "follow", "(I)Z"⟩, 20) := ⟨⟨by decide +kernel, by decide +kernel⟩, List.mem_of_getElem? (i := 873) (by decide +kernel), List.mem_of_getElem? (i := 1042) (by decide +kernel), List.mem_of_getElem? (i := 1043) (by decide +kernel)⟩
theorem lw_p59 : lw_okq (⟨"StackLabModel", "way", "(III)J"⟩, 20) := ⟨⟨by decide +kernel, by decide +kernel⟩, List.mem_of_getElem? (i := 873) (by decide +kernel), List.mem_of_getElem? (i := 1046) (by decide +kernel), List.mem_of_getElem? (i := 1047) (by decide +kernel)⟩
theorem lw_p60 : lw_okq (⟨"StackLabModel", "cost", "(I)J"⟩, 20) := ⟨⟨by decide +kernel, by decide +kernel⟩, List.mem_of_getElem? (i := 873) (by decide +kernel), List.mem_of_getElem? (i := 1050) (by decide +kernel), List.mem_of_getElem? (i := 1051) (by decide +kernel)⟩
theorem lw_p61 : lw_okq (⟨"StackLabModel", "start", "()J"⟩, 20) := ⟨⟨by decide +kernel, by decide +kernel⟩, List.mem_of_getElem? (i := 873) (by decide +kernel), List.mem_of_getElem? (i := 1055) (by decide +kernel), List.mem_of_getElem? (i := 1056) (by decide +kernel)⟩
theorem lw_p62 : lw_okq (⟨"StackLabModel", "pushWord", "(I)V"⟩, 20) := ⟨⟨by decide +kernel, by decide +kernel⟩, List.mem_of_getElem? (i := 873) (by decide +kernel), List.mem_of_getElem? (i := 1059) (by decide +kernel), List.mem_of_getElem? (i := 1060) (by decide +kernel)⟩
theorem lw_p63 : lw_okq (⟨"StackLabModel", "push", "(I)V"⟩, 20) := ⟨⟨by decide +kernel, by decide +kernel⟩, List.mem_of_getElem? (i := 873) (by decide +kernel), List.mem_of_getElem? (i := 1063) (by decide +kernel), List.mem_of_getElem? (i := 1064) (by decide +kernel)⟩
def lw_privs_4 : List (MethodName × Nat) := [(⟨"StackLabModel", "isThere", "(IIII)Z"⟩, 20), (⟨"StackLabModel", "of", "(II)I"⟩, 20), (⟨"StackLabModel", "lay", "(IIIIII)V"⟩, 20), (⟨"StackLabModel", "isRule", "(I)Z"⟩, 20), (⟨"StackLabModel", "rulesBy", "(I)I"⟩, 20), (⟨"StackLabModel", "isAsked", "(II)Z"⟩, 20), (⟨"StackLabModel", "distanceTo", "(III)I"⟩, 20), (⟨"StackLabModel", "costTo", "(III)J"⟩, 20), (⟨"StackLabModel", "aim", "(III)V"⟩, 20), (⟨"StackLabModel", "improve", "(IIIJ)Z"⟩, 20), (⟨"StackLabModel", "follow", "(I)Z"⟩, 20), (⟨"StackLabModel", "way", "(III)J"⟩, 20), (⟨"StackLabModel", "cost", "(I)J"⟩, 20), (⟨"StackLabModel", "start", "()J"⟩, 20), (⟨"StackLabModel", "pushWord", "(I)V"⟩, 20), (⟨"StackLabModel", "push", "(I)V"⟩, 20)]
theorem lw_r4 : ∀ q ∈ lw_privs_4, lw_okq q := List.forall_mem_cons.mpr ⟨lw_p48, List.forall_mem_cons.mpr ⟨lw_p49, List.forall_mem_cons.mpr ⟨lw_p50, List.forall_mem_cons.mpr ⟨lw_p51, List.forall_mem_cons.mpr ⟨lw_p52, List.forall_mem_cons.mpr ⟨lw_p53, List.forall_mem_cons.mpr ⟨lw_p54, List.forall_mem_cons.mpr ⟨lw_p55, List.forall_mem_cons.mpr ⟨lw_p56, List.forall_mem_cons.mpr ⟨lw_p57, List.forall_mem_cons.mpr ⟨lw_p58, List.forall_mem_cons.mpr ⟨lw_p59, List.forall_mem_cons.mpr ⟨lw_p60, List.forall_mem_cons.mpr ⟨lw_p61, List.forall_mem_cons.mpr ⟨lw_p62, List.forall_mem_cons.mpr ⟨lw_p63, fun _ h => absurd h List.not_mem_nil⟩⟩⟩⟩⟩⟩⟩⟩⟩⟩⟩⟩⟩⟩⟩⟩
theorem lw_p64 : lw_okq (⟨"StackLabModel", "firstOf", "(IJZ)I"⟩, 20) := ⟨⟨by decide +kernel, by decide +kernel⟩, List.mem_of_getElem? (i := 873) (by decide +kernel), List.mem_of_getElem? (i := 1076) (by decide +kernel), List.mem_of_getElem? (i := 1077) (by decide +kernel)⟩
theorem lw_p65 : lw_okq (⟨"StackLabModel", "priceOf", "(III)I"⟩, 20) := ⟨⟨by decide +kernel, by decide +kernel⟩, List.mem_of_getElem? (i := 873) (by decide +kernel), List.mem_of_getElem? (i := 1090) (by decide +kernel), List.mem_of_getElem? (i := 1091) (by decide +kernel)⟩
theorem lw_p66 : lw_okq (⟨"StackLabModel", "isHead", "(II)Z"⟩, 20) := ⟨⟨by decide +kernel, by decide +kernel⟩, List.mem_of_getElem? (i := 873) (by decide +kernel), List.mem_of_getElem? (i := 1102) (by decide +kernel), List.mem_of_getElem? (i := 1103) (by decide +kernel)⟩
theorem lw_p67 : lw_okq (⟨"StackLabModel", "layMachine", "()V"⟩, 20) := ⟨⟨by decide +kernel, by decide +kernel⟩, List.mem_of_getElem? (i := 873) (by decide +kernel), List.mem_of_getElem? (i := 1106) (by decide +kernel), List.mem_of_getElem? (i := 1107) (by decide +kernel)⟩
theorem lw_p68 : lw_okq (⟨"StackLabModel", "lessen", "(IIII)Z"⟩, 20) := ⟨⟨by decide +kernel, by decide +kernel⟩, List.mem_of_getElem? (i := 873) (by decide +kernel), List.mem_of_getElem? (i := 1111) (by decide +kernel), List.mem_of_getElem? (i := 1112) (by decide +kernel)⟩
theorem lw_p69 : lw_okq (⟨"StackLabModel", "extend", "(I)Z"⟩, 20) := ⟨⟨by decide +kernel, by decide +kernel⟩, List.mem_of_getElem? (i := 873) (by decide +kernel), List.mem_of_getElem? (i := 1119) (by decide +kernel), List.mem_of_getElem? (i := 1120) (by decide +kernel)⟩
theorem lw_p70 : lw_okq (⟨"StackLabModel", "reads", "(III)I"⟩, 20) := ⟨⟨by decide +kernel, by decide +kernel⟩, List.mem_of_getElem? (i := 873) (by decide +kernel), List.mem_of_getElem? (i := 1123) (by decide +kernel), List.mem_of_getElem? (i := 1124) (by decide +kernel)⟩
theorem lw_p71 : lw_okq (⟨"StackLabModel", "layRests", "()V"⟩, 20) := ⟨⟨by decide +kernel, by decide +kernel⟩, List.mem_of_getElem? (i := 873) (by decide +kernel), List.mem_of_getElem? (i := 1130) (by decide +kernel), List.mem_of_getElem? (i := 1131) (by decide +kernel)⟩
theorem lw_p72 : lw_okq (⟨"StackLabModel", "throughOne", "(II)I"⟩, 20) := ⟨⟨by decide +kernel, by decide +kernel⟩, List.mem_of_getElem? (i := 873) (by decide +kernel), List.mem_of_getElem? (i := 1134) (by decide +kernel), List.mem_of_getElem? (i := 1135) (by decide +kernel)⟩
theorem lw_p73 : lw_okq (⟨"StackLabModel", "restOf", "(II)I"⟩, 20) := ⟨⟨by decide +kernel, by decide +kernel⟩, List.mem_of_getElem? (i := 873) (by decide +kernel), List.mem_of_getElem? (i := 1138) (by decide +kernel), List.mem_of_getElem? (i := 1139) (by decide +kernel)⟩
theorem lw_p74 : lw_okq (⟨"StackLabModel", "headOf", "(II)I"⟩, 20) := ⟨⟨by decide +kernel, by decide +kernel⟩, List.mem_of_getElem? (i := 873) (by decide +kernel), List.mem_of_getElem? (i := 1142) (by decide +kernel), List.mem_of_getElem? (i := 1143) (by decide +kernel)⟩
theorem lw_p75 : lw_okq (⟨"StackLabModel", "layFront", "(II)V"⟩, 20) := ⟨⟨by decide +kernel, by decide +kernel⟩, List.mem_of_getElem? (i := 873) (by decide +kernel), List.mem_of_getElem? (i := 1146) (by decide +kernel), List.mem_of_getElem? (i := 1147) (by decide +kernel)⟩
theorem lw_p76 : lw_okq (⟨"StackLabModel", "meet", "([II)I"⟩, 20) := ⟨⟨by decide +kernel, by decide +kernel⟩, List.mem_of_getElem? (i := 873) (by decide +kernel), List.mem_of_getElem? (i := 1150) (by decide +kernel), List.mem_of_getElem? (i := 1151) (by decide +kernel)⟩
theorem lw_p77 : lw_okq (⟨"StackLabModel", "readFront", "(I)V"⟩, 20) := ⟨⟨by decide +kernel, by decide +kernel⟩, List.mem_of_getElem? (i := 873) (by decide +kernel), List.mem_of_getElem? (i := 1158) (by decide +kernel), List.mem_of_getElem? (i := 1159) (by decide +kernel)⟩
theorem lw_p78 : lw_okq (⟨"StackLabModel", "readItem", "()V"⟩, 20) := ⟨⟨by decide +kernel, by decide +kernel⟩, List.mem_of_getElem? (i := 873) (by decide +kernel), List.mem_of_getElem? (i := 1202) (by decide +kernel), List.mem_of_getElem? (i := 1203) (by decide +kernel)⟩
theorem lw_p79 : lw_okq (⟨"StackLabModel", "fails", "(I)V"⟩, 20) := ⟨⟨by decide +kernel, by decide +kernel⟩, List.mem_of_getElem? (i := 873) (by decide +kernel), List.mem_of_getElem? (i := 1206) (by decide +kernel), List.mem_of_getElem? (i := 1207) (by decide +kernel)⟩
def lw_privs_5 : List (MethodName × Nat) := [(⟨"StackLabModel", "firstOf", "(IJZ)I"⟩, 20), (⟨"StackLabModel", "priceOf", "(III)I"⟩, 20), (⟨"StackLabModel", "isHead", "(II)Z"⟩, 20), (⟨"StackLabModel", "layMachine", "()V"⟩, 20), (⟨"StackLabModel", "lessen", "(IIII)Z"⟩, 20), (⟨"StackLabModel", "extend", "(I)Z"⟩, 20), (⟨"StackLabModel", "reads", "(III)I"⟩, 20), (⟨"StackLabModel", "layRests", "()V"⟩, 20), (⟨"StackLabModel", "throughOne", "(II)I"⟩, 20), (⟨"StackLabModel", "restOf", "(II)I"⟩, 20), (⟨"StackLabModel", "headOf", "(II)I"⟩, 20), (⟨"StackLabModel", "layFront", "(II)V"⟩, 20), (⟨"StackLabModel", "meet", "([II)I"⟩, 20), (⟨"StackLabModel", "readFront", "(I)V"⟩, 20), (⟨"StackLabModel", "readItem", "()V"⟩, 20), (⟨"StackLabModel", "fails", "(I)V"⟩, 20)]
theorem lw_r5 : ∀ q ∈ lw_privs_5, lw_okq q := List.forall_mem_cons.mpr ⟨lw_p64, List.forall_mem_cons.mpr ⟨lw_p65, List.forall_mem_cons.mpr ⟨lw_p66, List.forall_mem_cons.mpr ⟨lw_p67, List.forall_mem_cons.mpr ⟨lw_p68, List.forall_mem_cons.mpr ⟨lw_p69, List.forall_mem_cons.mpr ⟨lw_p70, List.forall_mem_cons.mpr ⟨lw_p71, List.forall_mem_cons.mpr ⟨lw_p72, List.forall_mem_cons.mpr ⟨lw_p73, List.forall_mem_cons.mpr ⟨lw_p74, List.forall_mem_cons.mpr ⟨lw_p75, List.forall_mem_cons.mpr ⟨lw_p76, List.forall_mem_cons.mpr ⟨lw_p77, List.forall_mem_cons.mpr ⟨lw_p78, List.forall_mem_cons.mpr ⟨lw_p79, fun _ h => absurd h List.not_mem_nil⟩⟩⟩⟩⟩⟩⟩⟩⟩⟩⟩⟩⟩⟩⟩⟩
theorem lw_p80 : lw_okq (⟨"StackLabModel", "take", "(II)I"⟩, 20) := ⟨⟨by decide +kernel, by decide +kernel⟩, List.mem_of_getElem? (i := 873) (by decide +kernel), List.mem_of_getElem? (i := 1210) (by decide +kernel), List.mem_of_getElem? (i := 1211) (by decide +kernel)⟩
theorem lw_p81 : lw_okq (⟨"StackLabModel", "here", "()I"⟩, 20) := ⟨⟨by decide +kernel, by decide +kernel⟩, List.mem_of_getElem? (i := 873) (by decide +kernel), List.mem_of_getElem? (i := 1214) (by decide +kernel), List.mem_of_getElem? (i := 1215) (by decide +kernel)⟩
def lw_privs_6 : List (MethodName × Nat) := [(⟨"StackLabModel", "take", "(II)I"⟩, 20), (⟨"StackLabModel", "here", "()I"⟩, 20)]
theorem lw_r6 : ∀ q ∈ lw_privs_6, lw_okq q := List.forall_mem_cons.mpr ⟨lw_p80, List.forall_mem_cons.mpr ⟨lw_p81, fun _ h => absurd h List.not_mem_nil⟩⟩
def lw_privs : List (MethodName × Nat) := lw_privs_1 ++ (lw_privs_2 ++ (lw_privs_3 ++ (lw_privs_4 ++ (lw_privs_5 ++ (lw_privs_6)))))
def lw_tbl : List Cond := k2_sels lw_privs ++ tables_1
theorem lw_privs_ok : ∀ q ∈ lw_privs, lw_okq q := by
  show ∀ q ∈ lw_privs_1 ++ (lw_privs_2 ++ (lw_privs_3 ++ (lw_privs_4 ++ (lw_privs_5 ++ (lw_privs_6))))), lw_okq q
  exact List.forall_mem_append.mpr ⟨lw_r1, List.forall_mem_append.mpr ⟨lw_r2, List.forall_mem_append.mpr ⟨lw_r3, List.forall_mem_append.mpr ⟨lw_r4, List.forall_mem_append.mpr ⟨lw_r5, lw_r6⟩⟩⟩⟩⟩
/-- the streams that the claim lets the run draw from -/
abbrev lw_cs : List Choice := [Jvm.Choice.named "NaN.bits"]
theorem lw_bits : nanBits ∈ lw_cs := by first | decide | exact List.mem_cons_self | simp [lw_cs, nanBits]
end
section
/-! ===== BEGIN words of one list among another's, by their places ===== -/
theorem goodIn_r {big : List Cond} (ws : List Cond) (ps : List Nat) (hp : ws = ps.filterMap (fun i => big[i]?)) (h : ws.all goodWord = true) : GoodIn big ws := by
  intro w hw
  have h1 := List.all_eq_true.mp h w hw
  rw [hp] at hw
  obtain ⟨i, -, hi⟩ := List.mem_filterMap.mp hw
  have hm : w ∈ big := by first | exact List.mem_of_getElem? hi | exact List.getElem?_mem hi
  exact ⟨hm, good_of_word h1⟩
theorem goodIn_app {big a b : List Cond} (ha : GoodIn big a) (hb : GoodIn big b) : GoodIn big (a ++ b) := fun w h => (List.mem_append.mp h).elim (ha w) (hb w)
theorem goodIn_ca {big a b : List Cond} {c : Cond} (ha : GoodIn big (c :: a)) (hb : GoodIn big b) : GoodIn big (c :: (a ++ b)) := fun w h => (List.mem_cons.mp h).elim (fun e => ha w (List.mem_cons.mpr (Or.inl e))) (fun h => (List.mem_append.mp h).elim (fun h => ha w (List.mem_cons.mpr (Or.inr h))) (hb w))
theorem goodIn_sub {big ws : List Cond} (hm : ∀ w ∈ ws, w ∈ big) (h : ws.all goodWord = true) : GoodIn big ws := fun w hw => ⟨hm w hw, good_of_word (List.all_eq_true.mp h w hw)⟩
/-! ===== END ===== -/

def RX0 : String := "StackLab$History"
def TX0 : u_T := fun k => match k with
  | 0 => ("StackLab$History", "kept", "I", false)
  | _ => ("StackLab$History", "past", "[LStackLab$Setup;", true)
def tyX0 : Nat → FieldType := fun k => match k with
  | 0 => .int
  | _ => .array (.object "StackLab$Setup")
abbrev wsX00 : List Cond := u_ws RX0 TX0 2
theorem nmX0 : ∀ a, a < 2 → ∀ b, b < 2 → a ≠ b → (TX0 a).2.1 ≠ (TX0 b).2.1 := by decide +kernel
theorem tyX0_ok : ∀ k, k < 2 → parseFieldDescriptor (TX0 k).2.2.1 = some (tyX0 k) := by decide +kernel
abbrev cX0_init : ByteArray := prog_2_method_1_code
def yX0_init : MethodName := ⟨RX0, "<init>", "()V"⟩
abbrev cX0_record : ByteArray := prog_2_method_2_code
def yX0_record : MethodName := ⟨RX0, "record", "(LStackLab$Setup;)V"⟩
abbrev cX0_dropOldest : ByteArray := prog_2_method_3_code
def yX0_dropOldest : MethodName := ⟨RX0, "dropOldest", "()V"⟩
abbrev cX0_restore : ByteArray := prog_2_method_4_code
def yX0_restore : MethodName := ⟨RX0, "restore", "(LStackLab$Setup;)V"⟩
def RX1 : String := "StackLab$Machine"
def TX1 : u_T := fun k => match k with
  | 0 => ("StackLab$Machine", "built", "Z", false)
  | 1 => ("StackLab$Machine", "count", "I", false)
  | 2 => ("StackLab$Machine", "plan", "LStackLab$Plan;", true)
  | 3 => ("StackLab$Machine", "summary", "LStackLab$Summary;", true)
  | 4 => ("StackLab$Machine", "weights", "[I", true)
  | 5 => ("StackLab$Machine", "reads", "[[J", true)
  | 6 => ("StackLab$Machine", "home", "[J", true)
  | 7 => ("StackLab$Machine", "open", "[Z", true)
  | 8 => ("StackLab$Machine", "opened", "[I", true)
  | 9 => ("StackLab$Machine", "openCount", "I", false)
  | 10 => ("StackLab$Machine", "sources", "[I", true)
  | 11 => ("StackLab$Machine", "labels", "[I", true)
  | _ => ("StackLab$Machine", "ends", "[I", true)
def tyX1 : Nat → FieldType := fun k => match k with
  | 0 => .boolean
  | 1 => .int
  | 2 => .object "StackLab$Plan"
  | 3 => .object "StackLab$Summary"
  | 4 => .array .int
  | 5 => .array (.array .long)
  | 6 => .array .long
  | 7 => .array .boolean
  | 8 => .array .int
  | 9 => .int
  | 10 => .array .int
  | 11 => .array .int
  | _ => .array .int
abbrev wsX10 : List Cond := u_ws RX1 TX1 13
theorem nmX1 : ∀ a, a < 13 → ∀ b, b < 13 → a ≠ b → (TX1 a).2.1 ≠ (TX1 b).2.1 := by decide +kernel
theorem tyX1_ok : ∀ k, k < 13 → parseFieldDescriptor (TX1 k).2.2.1 = some (tyX1 k) := by decide +kernel
abbrev cX1_init : ByteArray := prog_3_method_1_code
def yX1_init : MethodName := ⟨RX1, "<init>", "(LStackLab$Plan;LStackLab$Summary;)V"⟩
abbrev cX1_build : ByteArray := prog_3_method_2_code
def yX1_build : MethodName := ⟨RX1, "build", "()V"⟩
abbrev cX1_readStartStack : ByteArray := prog_3_method_3_code
def yX1_readStartStack : MethodName := ⟨RX1, "readStartStack", "()V"⟩
abbrev cX1_readOnFrom : ByteArray := prog_3_method_4_code
def yX1_readOnFrom : MethodName := ⟨RX1, "readOnFrom", "(II)V"⟩
abbrev cX1_readFromHead : ByteArray := prog_3_method_5_code
def yX1_readFromHead : MethodName := ⟨RX1, "readFromHead", "(I)V"⟩
abbrev cX1_addArcsTo : ByteArray := prog_3_method_6_code
def yX1_addArcsTo : MethodName := ⟨RX1, "addArcsTo", "(I)V"⟩
abbrev cX1_addArcsBy : ByteArray := prog_3_method_7_code
def yX1_addArcsBy : MethodName := ⟨RX1, "addArcsBy", "(IIJ)V"⟩
abbrev cX1_openHead : ByteArray := prog_3_method_8_code
def yX1_openHead : MethodName := ⟨RX1, "openHead", "(I)V"⟩
abbrev cX1_keepLeast : ByteArray := prog_3_method_9_code
def yX1_keepLeast : MethodName := ⟨RX1, "keepLeast", "(IIIJ)V"⟩
abbrev cX1_weightAt : ByteArray := prog_3_method_10_code
def yX1_weightAt : MethodName := ⟨RX1, "weightAt", "(III)I"⟩
abbrev cX1_listArcs : ByteArray := prog_3_method_11_code
def yX1_listArcs : MethodName := ⟨RX1, "listArcs", "()V"⟩
abbrev cX1_part : ByteArray := prog_3_method_12_code
def yX1_part : MethodName := ⟨RX1, "part", "(II)I"⟩
abbrev cX1_weightOfArc : ByteArray := prog_3_method_13_code
def yX1_weightOfArc : MethodName := ⟨RX1, "weightOfArc", "(I)I"⟩
abbrev cX1_costOverArc : ByteArray := prog_3_method_14_code
def yX1_costOverArc : MethodName := ⟨RX1, "costOverArc", "(I)J"⟩
abbrev cX1_findWaysHome : ByteArray := prog_3_method_15_code
def yX1_findWaysHome : MethodName := ⟨RX1, "findWaysHome", "()V"⟩
abbrev cX1_costThrough : ByteArray := prog_3_method_16_code
def yX1_costThrough : MethodName := ⟨RX1, "costThrough", "(II)J"⟩
abbrev cX1_costOfHead : ByteArray := prog_3_method_17_code
def yX1_costOfHead : MethodName := ⟨RX1, "costOfHead", "(I)J"⟩
abbrev cX1_leastStack : ByteArray := prog_3_method_18_code
def yX1_leastStack : MethodName := ⟨RX1, "leastStack", "(II)I"⟩
abbrev cX1_isBestFrom : ByteArray := prog_3_method_19_code
def yX1_isBestFrom : MethodName := ⟨RX1, "isBestFrom", "(II)Z"⟩
abbrev cX1_leastLabel : ByteArray := prog_3_method_20_code
def yX1_leastLabel : MethodName := ⟨RX1, "leastLabel", "(I)I"⟩
abbrev cX1_endsAfter : ByteArray := prog_3_method_21_code
def yX1_endsAfter : MethodName := ⟨RX1, "endsAfter", "(II)I"⟩
def RX2 : String := "StackLab$Plan"
def TX2 : u_T := fun k => match k with
  | 0 => ("StackLab$Plan", "states", "I", false)
  | 1 => ("StackLab$Plan", "count", "I", false)
  | 2 => ("StackLab$Plan", "startState", "I", false)
  | 3 => ("StackLab$Plan", "start", "LStackLab$Word;", true)
  | 4 => ("StackLab$Plan", "head", "[I", true)
  | 5 => ("StackLab$Plan", "state", "[I", true)
  | 6 => ("StackLab$Plan", "size", "[I", true)
  | 7 => ("StackLab$Plan", "next", "[I", true)
  | 8 => ("StackLab$Plan", "below", "[I", true)
  | _ => ("StackLab$Plan", "cost", "[J", true)
def tyX2 : Nat → FieldType := fun k => match k with
  | 0 => .int
  | 1 => .int
  | 2 => .int
  | 3 => .object "StackLab$Word"
  | 4 => .array .int
  | 5 => .array .int
  | 6 => .array .int
  | 7 => .array .int
  | 8 => .array .int
  | _ => .array .long
abbrev wsX20 : List Cond := u_ws RX2 TX2 10
theorem nmX2 : ∀ a, a < 10 → ∀ b, b < 10 → a ≠ b → (TX2 a).2.1 ≠ (TX2 b).2.1 := by decide +kernel
theorem tyX2_ok : ∀ k, k < 10 → parseFieldDescriptor (TX2 k).2.2.1 = some (tyX2 k) := by decide +kernel
abbrev cX2_init : ByteArray := prog_4_method_1_code
def yX2_init : MethodName := ⟨RX2, "<init>", "()V"⟩
abbrev cX2_takeFrom : ByteArray := prog_4_method_2_code
def yX2_takeFrom : MethodName := ⟨RX2, "takeFrom", "(LStackLab$Setup;)V"⟩
abbrev cX2_takeRule : ByteArray := prog_4_method_3_code
def yX2_takeRule : MethodName := ⟨RX2, "takeRule", "(LStackLab$Setup;I)V"⟩
def RX3 : String := "StackLab$Search"
def TX3 : u_T := fun k => match k with
  | 0 => ("StackLab$Search", "total", "J", false)
  | 1 => ("StackLab$Search", "height", "I", false)
  | 2 => ("StackLab$Search", "aimed", "Z", false)
  | 3 => ("StackLab$Search", "aimState", "I", false)
  | 4 => ("StackLab$Search", "aimLength", "I", false)
  | 5 => ("StackLab$Search", "aimSymbols", "[I", true)
  | 6 => ("StackLab$Search", "levels", "[[J", true)
  | 7 => ("StackLab$Search", "plan", "LStackLab$Plan;", true)
  | 8 => ("StackLab$Search", "summary", "LStackLab$Summary;", true)
  | 9 => ("StackLab$Search", "capacity", "I", true)
  | 10 => ("StackLab$Search", "stack", "[I", true)
  | 11 => ("StackLab$Search", "costs", "[J", true)
  | _ => ("StackLab$Search", "alike", "[Z", true)
def tyX3 : Nat → FieldType := fun k => match k with
  | 0 => .long
  | 1 => .int
  | 2 => .boolean
  | 3 => .int
  | 4 => .int
  | 5 => .array .int
  | 6 => .array (.array .long)
  | 7 => .object "StackLab$Plan"
  | 8 => .object "StackLab$Summary"
  | 9 => .int
  | 10 => .array .int
  | 11 => .array .long
  | _ => .array .boolean
abbrev wsX30 : List Cond := u_ws RX3 TX3 13
theorem nmX3 : ∀ a, a < 13 → ∀ b, b < 13 → a ≠ b → (TX3 a).2.1 ≠ (TX3 b).2.1 := by decide +kernel
theorem tyX3_ok : ∀ k, k < 13 → parseFieldDescriptor (TX3 k).2.2.1 = some (tyX3 k) := by decide +kernel
abbrev cX3_init : ByteArray := prog_5_method_1_code
def yX3_init : MethodName := ⟨RX3, "<init>", "(LStackLab$Plan;LStackLab$Summary;I)V"⟩
abbrev cX3_isAimedAt : ByteArray := prog_5_method_2_code
def yX3_isAimedAt : MethodName := ⟨RX3, "isAimedAt", "(ILStackLab$Word;)Z"⟩
abbrev cX3_forgetAim : ByteArray := prog_5_method_3_code
def yX3_forgetAim : MethodName := ⟨RX3, "forgetAim", "()V"⟩
abbrev cX3_aimAt : ByteArray := prog_5_method_4_code
def yX3_aimAt : MethodName := ⟨RX3, "aimAt", "(ILStackLab$Word;)V"⟩
abbrev cX3_fillLevel : ByteArray := prog_5_method_5_code
def yX3_fillLevel : MethodName := ⟨RX3, "fillLevel", "(I)V"⟩
abbrev cX3_pushOnto : ByteArray := prog_5_method_6_code
def yX3_pushOnto : MethodName := ⟨RX3, "pushOnto", "(I)V"⟩
abbrev cX3_costFrom : ByteArray := prog_5_method_7_code
def yX3_costFrom : MethodName := ⟨RX3, "costFrom", "(ILStackLab$Word;)J"⟩
abbrev cX3_top : ByteArray := prog_5_method_8_code
def yX3_top : MethodName := ⟨RX3, "top", "()I"⟩
abbrev cX3_put : ByteArray := prog_5_method_9_code
def yX3_put : MethodName := ⟨RX3, "put", "(I)V"⟩
abbrev cX3_costWithTop : ByteArray := prog_5_method_10_code
def yX3_costWithTop : MethodName := ⟨RX3, "costWithTop", "(II)J"⟩
abbrev cX3_advance : ByteArray := prog_5_method_11_code
def yX3_advance : MethodName := ⟨RX3, "advance", "(IJ)I"⟩
abbrev cX3_costAfter : ByteArray := prog_5_method_12_code
def yX3_costAfter : MethodName := ⟨RX3, "costAfter", "(I)J"⟩
abbrev cX3_apply : ByteArray := prog_5_method_13_code
def yX3_apply : MethodName := ⟨RX3, "apply", "(I)V"⟩
def RX4 : String := "StackLab$Setup"
def TX4 : u_T := fun k => match k with
  | 0 => ("StackLab$Setup", "states", "I", false)
  | 1 => ("StackLab$Setup", "symbols", "I", false)
  | 2 => ("StackLab$Setup", "startState", "I", false)
  | 3 => ("StackLab$Setup", "startStack", "I", false)
  | 4 => ("StackLab$Setup", "count", "I", false)
  | _ => ("StackLab$Setup", "parts", "[I", true)
def tyX4 : Nat → FieldType := fun k => match k with
  | 0 => .int
  | 1 => .int
  | 2 => .int
  | 3 => .int
  | 4 => .int
  | _ => .array .int
abbrev wsX40 : List Cond := u_ws RX4 TX4 6
theorem nmX4 : ∀ a, a < 6 → ∀ b, b < 6 → a ≠ b → (TX4 a).2.1 ≠ (TX4 b).2.1 := by decide +kernel
theorem tyX4_ok : ∀ k, k < 6 → parseFieldDescriptor (TX4 k).2.2.1 = some (tyX4 k) := by decide +kernel
abbrev cX4_init : ByteArray := prog_6_method_1_code
def yX4_init : MethodName := ⟨RX4, "<init>", "()V"⟩
abbrev cX4_reset : ByteArray := prog_6_method_2_code
def yX4_reset : MethodName := ⟨RX4, "reset", "(II)V"⟩
abbrev cX4_copyFrom : ByteArray := prog_6_method_3_code
def yX4_copyFrom : MethodName := ⟨RX4, "copyFrom", "(LStackLab$Setup;)V"⟩
abbrev cX4_part : ByteArray := prog_6_method_4_code
def yX4_part : MethodName := ⟨RX4, "part", "(II)I"⟩
abbrev cX4_putWeight : ByteArray := prog_6_method_5_code
def yX4_putWeight : MethodName := ⟨RX4, "putWeight", "(II)V"⟩
abbrev cX4_holds : ByteArray := prog_6_method_6_code
def yX4_holds : MethodName := ⟨RX4, "holds", "(IIII)Z"⟩
abbrev cX4_append : ByteArray := prog_6_method_7_code
def yX4_append : MethodName := ⟨RX4, "append", "(IIIII)V"⟩
abbrev cX4_leaveOut : ByteArray := prog_6_method_8_code
def yX4_leaveOut : MethodName := ⟨RX4, "leaveOut", "(I)V"⟩
abbrev cX4_rulesWithWordOf : ByteArray := prog_6_method_9_code
def yX4_rulesWithWordOf : MethodName := ⟨RX4, "rulesWithWordOf", "(I)I"⟩
def RX5 : String := "StackLab$Summary"
def TX5 : u_T := fun k => match k with
  | 0 => ("StackLab$Summary", "without", "I", false)
  | 1 => ("StackLab$Summary", "plan", "LStackLab$Plan;", true)
  | _ => ("StackLab$Summary", "prices", "[J", true)
def tyX5 : Nat → FieldType := fun k => match k with
  | 0 => .int
  | 1 => .object "StackLab$Plan"
  | _ => .array .long
abbrev wsX50 : List Cond := u_ws RX5 TX5 3
theorem nmX5 : ∀ a, a < 3 → ∀ b, b < 3 → a ≠ b → (TX5 a).2.1 ≠ (TX5 b).2.1 := by decide +kernel
theorem tyX5_ok : ∀ k, k < 3 → parseFieldDescriptor (TX5 k).2.2.1 = some (tyX5 k) := by decide +kernel
abbrev cX5_init : ByteArray := prog_7_method_1_code
def yX5_init : MethodName := ⟨RX5, "<init>", "(LStackLab$Plan;)V"⟩
abbrev cX5_costOfRemoving : ByteArray := prog_7_method_2_code
def yX5_costOfRemoving : MethodName := ⟨RX5, "costOfRemoving", "(II)J"⟩
abbrev cX5_compute : ByteArray := prog_7_method_3_code
def yX5_compute : MethodName := ⟨RX5, "compute", "(I)V"⟩
abbrev cX5_lowerPricesBy : ByteArray := prog_7_method_4_code
def yX5_lowerPricesBy : MethodName := ⟨RX5, "lowerPricesBy", "(I)Z"⟩
abbrev cX5_lowerPricesThrough : ByteArray := prog_7_method_5_code
def yX5_lowerPricesThrough : MethodName := ⟨RX5, "lowerPricesThrough", "(IIJ)Z"⟩
abbrev cX5_spread : ByteArray := prog_7_method_6_code
def yX5_spread : MethodName := ⟨RX5, "spread", "([J)V"⟩
abbrev cX5_spreadBy : ByteArray := prog_7_method_7_code
def yX5_spreadBy : MethodName := ⟨RX5, "spreadBy", "(I[J)Z"⟩
abbrev cX5_gather : ByteArray := prog_7_method_8_code
def yX5_gather : MethodName := ⟨RX5, "gather", "([J)V"⟩
abbrev cX5_gatherBy : ByteArray := prog_7_method_9_code
def yX5_gatherBy : MethodName := ⟨RX5, "gatherBy", "(I[J)Z"⟩
def RX6 : String := "StackLab$Text"
def TX6 : u_T := fun k => match k with
  | 0 => ("StackLab$Text", "length", "I", false)
  | 1 => ("StackLab$Text", "at", "I", false)
  | _ => ("StackLab$Text", "codes", "[I", true)
def tyX6 : Nat → FieldType := fun k => match k with
  | 0 => .int
  | 1 => .int
  | _ => .array .int
abbrev wsX60 : List Cond := u_ws RX6 TX6 3
theorem nmX6 : ∀ a, a < 3 → ∀ b, b < 3 → a ≠ b → (TX6 a).2.1 ≠ (TX6 b).2.1 := by decide +kernel
theorem tyX6_ok : ∀ k, k < 3 → parseFieldDescriptor (TX6 k).2.2.1 = some (tyX6 k) := by decide +kernel
abbrev cX6_init : ByteArray := prog_8_method_1_code
def yX6_init : MethodName := ⟨RX6, "<init>", "()V"⟩
abbrev cX6_append : ByteArray := prog_8_method_2_code
def yX6_append : MethodName := ⟨RX6, "append", "(I)V"⟩
abbrev cX6_parse : ByteArray := prog_8_method_3_code
def yX6_parse : MethodName := ⟨RX6, "parse", "(LStackLab$Setup;)I"⟩
abbrev cX6_parseItem : ByteArray := prog_8_method_4_code
def yX6_parseItem : MethodName := ⟨RX6, "parseItem", "(LStackLab$Setup;)I"⟩
abbrev cX6_takeOneOf : ByteArray := prog_8_method_5_code
def yX6_takeOneOf : MethodName := ⟨RX6, "takeOneOf", "(II)I"⟩
abbrev cX6_takeWord : ByteArray := prog_8_method_6_code
def yX6_takeWord : MethodName := ⟨RX6, "takeWord", "(I)I"⟩
abbrev cX6_takeWeight : ByteArray := prog_8_method_7_code
def yX6_takeWeight : MethodName := ⟨RX6, "takeWeight", "()I"⟩
def RX7 : String := "StackLab$Trace"
def TX7 : u_T := fun k => match k with
  | 0 => ("StackLab$Trace", "followed", "Z", false)
  | 1 => ("StackLab$Trace", "complete", "Z", false)
  | 2 => ("StackLab$Trace", "length", "I", false)
  | 3 => ("StackLab$Trace", "used", "I", false)
  | 4 => ("StackLab$Trace", "rules", "[I", true)
  | 5 => ("StackLab$Trace", "states", "[I", true)
  | 6 => ("StackLab$Trace", "tops", "[I", true)
  | _ => ("StackLab$Trace", "heights", "[I", true)
def tyX7 : Nat → FieldType := fun k => match k with
  | 0 => .boolean
  | 1 => .boolean
  | 2 => .int
  | 3 => .int
  | 4 => .array .int
  | 5 => .array .int
  | 6 => .array .int
  | _ => .array .int
abbrev wsX70 : List Cond := u_ws RX7 TX7 8
theorem nmX7 : ∀ a, a < 8 → ∀ b, b < 8 → a ≠ b → (TX7 a).2.1 ≠ (TX7 b).2.1 := by decide +kernel
theorem tyX7_ok : ∀ k, k < 8 → parseFieldDescriptor (TX7 k).2.2.1 = some (tyX7 k) := by decide +kernel
abbrev cX7_init : ByteArray := prog_9_method_1_code
def yX7_init : MethodName := ⟨RX7, "<init>", "()V"⟩
abbrev cX7_follow : ByteArray := prog_9_method_2_code
def yX7_follow : MethodName := ⟨RX7, "follow", "(LStackLab$Search;LStackLab$Plan;)V"⟩
abbrev cX7_part : ByteArray := prog_9_method_3_code
def yX7_part : MethodName := ⟨RX7, "part", "(II)I"⟩
def RX8 : String := "StackLab$Word"
def TX8 : u_T := fun k => match k with
  | 0 => ("StackLab$Word", "length", "I", false)
  | _ => ("StackLab$Word", "symbols", "[I", true)
def tyX8 : Nat → FieldType := fun k => match k with
  | 0 => .int
  | _ => .array .int
abbrev wsX80 : List Cond := u_ws RX8 TX8 2
theorem nmX8 : ∀ a, a < 2 → ∀ b, b < 2 → a ≠ b → (TX8 a).2.1 ≠ (TX8 b).2.1 := by decide +kernel
theorem tyX8_ok : ∀ k, k < 2 → parseFieldDescriptor (TX8 k).2.2.1 = some (tyX8 k) := by decide +kernel
abbrev cX8_init : ByteArray := prog_10_method_1_code
def yX8_init : MethodName := ⟨RX8, "<init>", "()V"⟩
abbrev cX8_take : ByteArray := prog_10_method_2_code
def yX8_take : MethodName := ⟨RX8, "take", "(II)Z"⟩
def RX9 : String := "StackLab"
def TX9 : u_T := fun k => match k with
  | 0 => ("StackLab", "now", "LStackLab$Setup;", true)
  | 1 => ("StackLab", "draft", "LStackLab$Setup;", true)
  | 2 => ("StackLab", "history", "LStackLab$History;", true)
  | 3 => ("StackLab", "text", "LStackLab$Text;", true)
  | 4 => ("StackLab", "asked", "LStackLab$Word;", true)
  | 5 => ("StackLab", "empty", "LStackLab$Word;", true)
  | 6 => ("StackLab", "plan", "LStackLab$Plan;", true)
  | 7 => ("StackLab", "whole", "LStackLab$Summary;", true)
  | 8 => ("StackLab", "partial", "LStackLab$Summary;", true)
  | 9 => ("StackLab", "search", "LStackLab$Search;", true)
  | 10 => ("StackLab", "emptying", "LStackLab$Search;", true)
  | 11 => ("StackLab", "detour", "LStackLab$Search;", true)
  | 12 => ("StackLab", "trace", "LStackLab$Trace;", true)
  | 13 => ("StackLab", "machine", "LStackLab$Machine;", true)
  | _ => ("StackLab", "planned", "Z", false)
def tyX9 : Nat → FieldType := fun k => match k with
  | 0 => .object "StackLab$Setup"
  | 1 => .object "StackLab$Setup"
  | 2 => .object "StackLab$History"
  | 3 => .object "StackLab$Text"
  | 4 => .object "StackLab$Word"
  | 5 => .object "StackLab$Word"
  | 6 => .object "StackLab$Plan"
  | 7 => .object "StackLab$Summary"
  | 8 => .object "StackLab$Summary"
  | 9 => .object "StackLab$Search"
  | 10 => .object "StackLab$Search"
  | 11 => .object "StackLab$Search"
  | 12 => .object "StackLab$Trace"
  | 13 => .object "StackLab$Machine"
  | _ => .boolean
abbrev wsX90 : List Cond := u_ws RX9 TX9 15
theorem nmX9 : ∀ a, a < 15 → ∀ b, b < 15 → a ≠ b → (TX9 a).2.1 ≠ (TX9 b).2.1 := by decide +kernel
theorem tyX9_ok : ∀ k, k < 15 → parseFieldDescriptor (TX9 k).2.2.1 = some (tyX9 k) := by decide +kernel
abbrev cX9_init : ByteArray := prog_1_method_1_code
def yX9_init : MethodName := ⟨RX9, "<init>", "()V"⟩
abbrev cX9_begin : ByteArray := prog_1_method_2_code
def yX9_begin : MethodName := ⟨RX9, "begin", "(II)I"⟩
abbrev cX9_addRule : ByteArray := prog_1_method_3_code
def yX9_addRule : MethodName := ⟨RX9, "addRule", "(IIIII)I"⟩
abbrev cX9_removeRule : ByteArray := prog_1_method_4_code
def yX9_removeRule : MethodName := ⟨RX9, "removeRule", "(I)I"⟩
abbrev cX9_setWeight : ByteArray := prog_1_method_5_code
def yX9_setWeight : MethodName := ⟨RX9, "setWeight", "(II)I"⟩
abbrev cX9_setStart : ByteArray := prog_1_method_6_code
def yX9_setStart : MethodName := ⟨RX9, "setStart", "(II)I"⟩
abbrev cX9_undo : ByteArray := prog_1_method_7_code
def yX9_undo : MethodName := ⟨RX9, "undo", "()I"⟩
abbrev cX9_told : ByteArray := prog_1_method_8_code
def yX9_told : MethodName := ⟨RX9, "told", "(I)I"⟩
abbrev cX9_rule : ByteArray := prog_1_method_9_code
def yX9_rule : MethodName := ⟨RX9, "rule", "(II)I"⟩
abbrev cX9_distance : ByteArray := prog_1_method_10_code
def yX9_distance : MethodName := ⟨RX9, "distance", "(II)I"⟩
abbrev cX9_steps : ByteArray := prog_1_method_11_code
def yX9_steps : MethodName := ⟨RX9, "steps", "(II)I"⟩
abbrev cX9_witness : ByteArray := prog_1_method_12_code
def yX9_witness : MethodName := ⟨RX9, "witness", "(IIII)I"⟩
abbrev cX9_mean : ByteArray := prog_1_method_13_code
def yX9_mean : MethodName := ⟨RX9, "mean", "(II)F"⟩
abbrev cX9_headDistance : ByteArray := prog_1_method_14_code
def yX9_headDistance : MethodName := ⟨RX9, "headDistance", "(II)I"⟩
abbrev cX9_nearestStack : ByteArray := prog_1_method_15_code
def yX9_nearestStack : MethodName := ⟨RX9, "nearestStack", "(II)I"⟩
abbrev cX9_heads : ByteArray := prog_1_method_16_code
def yX9_heads : MethodName := ⟨RX9, "heads", "()I"⟩
abbrev cX9_price : ByteArray := prog_1_method_17_code
def yX9_price : MethodName := ⟨RX9, "price", "(III)I"⟩
abbrev cX9_wordPrice : ByteArray := prog_1_method_18_code
def yX9_wordPrice : MethodName := ⟨RX9, "wordPrice", "(III)I"⟩
abbrev cX9_arcs : ByteArray := prog_1_method_19_code
def yX9_arcs : MethodName := ⟨RX9, "arcs", "()I"⟩
abbrev cX9_arc : ByteArray := prog_1_method_20_code
def yX9_arc : MethodName := ⟨RX9, "arc", "(II)I"⟩
abbrev cX9_arcWeight : ByteArray := prog_1_method_21_code
def yX9_arcWeight : MethodName := ⟨RX9, "arcWeight", "(III)I"⟩
abbrev cX9_distanceWithout : ByteArray := prog_1_method_22_code
def yX9_distanceWithout : MethodName := ⟨RX9, "distanceWithout", "(III)I"⟩
abbrev cX9_critical : ByteArray := prog_1_method_23_code
def yX9_critical : MethodName := ⟨RX9, "critical", "(II)I"⟩
abbrev cX9_tolerance : ByteArray := prog_1_method_24_code
def yX9_tolerance : MethodName := ⟨RX9, "tolerance", "(III)I"⟩
abbrev cX9_write : ByteArray := prog_1_method_25_code
def yX9_write : MethodName := ⟨RX9, "write", "(I)I"⟩
abbrev cX9_wipe : ByteArray := prog_1_method_26_code
def yX9_wipe : MethodName := ⟨RX9, "wipe", "()I"⟩
abbrev cX9_fault : ByteArray := prog_1_method_27_code
def yX9_fault : MethodName := ⟨RX9, "fault", "()I"⟩
abbrev cX9_load : ByteArray := prog_1_method_28_code
def yX9_load : MethodName := ⟨RX9, "load", "()I"⟩
abbrev cX9_isState : ByteArray := prog_1_method_29_code
def yX9_isState : MethodName := ⟨RX9, "isState", "(I)Z"⟩
abbrev cX9_isSymbol : ByteArray := prog_1_method_30_code
def yX9_isSymbol : MethodName := ⟨RX9, "isSymbol", "(I)Z"⟩
abbrev cX9_isRule : ByteArray := prog_1_method_31_code
def yX9_isRule : MethodName := ⟨RX9, "isRule", "(I)Z"⟩
abbrev cX9_isWeight : ByteArray := prog_1_method_32_code
def yX9_isWeight : MethodName := ⟨RX9, "isWeight", "(I)Z"⟩
abbrev cX9_isWord : ByteArray := prog_1_method_33_code
def yX9_isWord : MethodName := ⟨RX9, "isWord", "(III)Z"⟩
abbrev cX9_isAsked : ByteArray := prog_1_method_34_code
def yX9_isAsked : MethodName := ⟨RX9, "isAsked", "(II)Z"⟩
abbrev cX9_recordChange : ByteArray := prog_1_method_35_code
def yX9_recordChange : MethodName := ⟨RX9, "recordChange", "()V"⟩
abbrev cX9_forgetAnswers : ByteArray := prog_1_method_36_code
def yX9_forgetAnswers : MethodName := ⟨RX9, "forgetAnswers", "()V"⟩
abbrev cX9_makePlan : ByteArray := prog_1_method_37_code
def yX9_makePlan : MethodName := ⟨RX9, "makePlan", "()V"⟩
abbrev cX9_buildMachine : ByteArray := prog_1_method_38_code
def yX9_buildMachine : MethodName := ⟨RX9, "buildMachine", "()V"⟩
abbrev cX9_costTo : ByteArray := prog_1_method_39_code
def yX9_costTo : MethodName := ⟨RX9, "costTo", "(I)J"⟩
abbrev cX9_costWithout : ByteArray := prog_1_method_40_code
def yX9_costWithout : MethodName := ⟨RX9, "costWithout", "(II)J"⟩
abbrev cX9_rulesOfWitness : ByteArray := prog_1_method_41_code
def yX9_rulesOfWitness : MethodName := ⟨RX9, "rulesOfWitness", "()I"⟩
abbrev cX9_readText : ByteArray := prog_1_method_42_code
def yX9_readText : MethodName := ⟨RX9, "readText", "()I"⟩
abbrev cX9_headOf : ByteArray := prog_1_method_43_code
def yX9_headOf : MethodName := ⟨RX9, "headOf", "(II)I"⟩
abbrev cX9_weightOf : ByteArray := prog_1_method_44_code
def yX9_weightOf : MethodName := ⟨RX9, "weightOf", "(J)I"⟩
abbrev cX9_countOf : ByteArray := prog_1_method_45_code
def yX9_countOf : MethodName := ⟨RX9, "countOf", "(J)I"⟩
abbrev cX9_costOfWeight : ByteArray := prog_1_method_46_code
def yX9_costOfWeight : MethodName := ⟨RX9, "costOfWeight", "(I)J"⟩
abbrev cX9_weightOrNone : ByteArray := prog_1_method_47_code
def yX9_weightOrNone : MethodName := ⟨RX9, "weightOrNone", "(J)I"⟩
abbrev cX9_lower : ByteArray := prog_1_method_48_code
def yX9_lower : MethodName := ⟨RX9, "lower", "([JIJ)Z"⟩
abbrev cX9_digitsOf : ByteArray := prog_1_method_49_code
def yX9_digitsOf : MethodName := ⟨RX9, "digitsOf", "(I)I"⟩
abbrev cX9_sourceOf : ByteArray := prog_1_method_50_code
def yX9_sourceOf : MethodName := ⟨RX9, "sourceOf", "(I)I"⟩
abbrev cX9_nodeOf : ByteArray := prog_1_method_51_code
def yX9_nodeOf : MethodName := ⟨RX9, "nodeOf", "(I)I"⟩
def RX10 : String := "StackLabModel"
def TX10 : u_T := fun k => match k with
  | 0 => ("StackLabModel", "w", "[I", true)
  | 1 => ("StackLabModel", "past", "[I", true)
  | 2 => ("StackLabModel", "changes", "I", false)
  | 3 => ("StackLabModel", "isLaid", "Z", false)
  | 4 => ("StackLabModel", "text", "[I", true)
  | 5 => ("StackLabModel", "length", "I", false)
  | 6 => ("StackLabModel", "ways", "[J", true)
  | 7 => ("StackLabModel", "goal", "I", false)
  | 8 => ("StackLabModel", "omitted", "I", false)
  | 9 => ("StackLabModel", "stack", "[I", true)
  | 10 => ("StackLabModel", "below", "[J", true)
  | 11 => ("StackLabModel", "height", "I", false)
  | 12 => ("StackLabModel", "arcs", "[I", true)
  | 13 => ("StackLabModel", "rest", "[I", true)
  | 14 => ("StackLabModel", "front", "[I", true)
  | 15 => ("StackLabModel", "then", "[I", true)
  | 16 => ("StackLabModel", "at", "I", false)
  | 17 => ("StackLabModel", "wrong", "I", false)
  | 18 => ("StackLabModel", "read", "[I", true)
  | _ => ("StackLabModel", "items", "I", false)
def tyX10 : Nat → FieldType := fun k => match k with
  | 0 => .array .int
  | 1 => .array .int
  | 2 => .int
  | 3 => .boolean
  | 4 => .array .int
  | 5 => .int
  | 6 => .array .long
  | 7 => .int
  | 8 => .int
  | 9 => .array .int
  | 10 => .array .long
  | 11 => .int
  | 12 => .array .int
  | 13 => .array .int
  | 14 => .array .int
  | 15 => .array .int
  | 16 => .int
  | 17 => .int
  | 18 => .array .int
  | _ => .int
abbrev wsX100 : List Cond := u_ws RX10 TX10 20
theorem nmX10 : ∀ a, a < 20 → ∀ b, b < 20 → a ≠ b → (TX10 a).2.1 ≠ (TX10 b).2.1 := by decide +kernel
theorem tyX10_ok : ∀ k, k < 20 → parseFieldDescriptor (TX10 k).2.2.1 = some (tyX10 k) := by decide +kernel
abbrev cX10_init : ByteArray := prog_12_method_1_code
def yX10_init : MethodName := ⟨RX10, "<init>", "()V"⟩
abbrev cX10_isIn : ByteArray := prog_12_method_2_code
def yX10_isIn : MethodName := ⟨RX10, "isIn", "(III)Z"⟩
abbrev cX10_isState : ByteArray := prog_12_method_3_code
def yX10_isState : MethodName := ⟨RX10, "isState", "(I)Z"⟩
abbrev cX10_isSymbol : ByteArray := prog_12_method_4_code
def yX10_isSymbol : MethodName := ⟨RX10, "isSymbol", "(I)Z"⟩
abbrev cX10_isRule : ByteArray := prog_12_method_5_code
def yX10_isRule : MethodName := ⟨RX10, "isRule", "(I)Z"⟩
abbrev cX10_sizeOf : ByteArray := prog_12_method_6_code
def yX10_sizeOf : MethodName := ⟨RX10, "sizeOf", "(I)I"⟩
abbrev cX10_isWord : ByteArray := prog_12_method_7_code
def yX10_isWord : MethodName := ⟨RX10, "isWord", "(III)Z"⟩
abbrev cX10_symbolOf : ByteArray := prog_12_method_8_code
def yX10_symbolOf : MethodName := ⟨RX10, "symbolOf", "(III)I"⟩
abbrev cX10_of : ByteArray := prog_12_method_9_code
def yX10_of : MethodName := ⟨RX10, "of", "(II)I"⟩
abbrev cX10_keep : ByteArray := prog_12_method_10_code
def yX10_keep : MethodName := ⟨RX10, "keep", "()V"⟩
abbrev cX10_begin : ByteArray := prog_12_method_11_code
def yX10_begin : MethodName := ⟨RX10, "begin", "(II)I"⟩
abbrev cX10_lay : ByteArray := prog_12_method_12_code
def yX10_lay : MethodName := ⟨RX10, "lay", "(IIIIII)V"⟩
abbrev cX10_isThere : ByteArray := prog_12_method_13_code
def yX10_isThere : MethodName := ⟨RX10, "isThere", "(IIII)Z"⟩
abbrev cX10_addRule : ByteArray := prog_12_method_14_code
def yX10_addRule : MethodName := ⟨RX10, "addRule", "(IIIII)I"⟩
abbrev cX10_removeRule : ByteArray := prog_12_method_15_code
def yX10_removeRule : MethodName := ⟨RX10, "removeRule", "(I)I"⟩
abbrev cX10_setWeight : ByteArray := prog_12_method_16_code
def yX10_setWeight : MethodName := ⟨RX10, "setWeight", "(II)I"⟩
abbrev cX10_setStart : ByteArray := prog_12_method_17_code
def yX10_setStart : MethodName := ⟨RX10, "setStart", "(II)I"⟩
abbrev cX10_undo : ByteArray := prog_12_method_18_code
def yX10_undo : MethodName := ⟨RX10, "undo", "()I"⟩
abbrev cX10_rulesBy : ByteArray := prog_12_method_19_code
def yX10_rulesBy : MethodName := ⟨RX10, "rulesBy", "(I)I"⟩
abbrev cX10_told : ByteArray := prog_12_method_20_code
def yX10_told : MethodName := ⟨RX10, "told", "(I)I"⟩
abbrev cX10_rule : ByteArray := prog_12_method_21_code
def yX10_rule : MethodName := ⟨RX10, "rule", "(II)I"⟩
abbrev cX10_way : ByteArray := prog_12_method_22_code
def yX10_way : MethodName := ⟨RX10, "way", "(III)J"⟩
abbrev cX10_improve : ByteArray := prog_12_method_23_code
def yX10_improve : MethodName := ⟨RX10, "improve", "(IIIJ)Z"⟩
abbrev cX10_cost : ByteArray := prog_12_method_24_code
def yX10_cost : MethodName := ⟨RX10, "cost", "(I)J"⟩
abbrev cX10_follow : ByteArray := prog_12_method_25_code
def yX10_follow : MethodName := ⟨RX10, "follow", "(I)Z"⟩
abbrev cX10_aim : ByteArray := prog_12_method_26_code
def yX10_aim : MethodName := ⟨RX10, "aim", "(III)V"⟩
abbrev cX10_push : ByteArray := prog_12_method_27_code
def yX10_push : MethodName := ⟨RX10, "push", "(I)V"⟩
abbrev cX10_pushWord : ByteArray := prog_12_method_28_code
def yX10_pushWord : MethodName := ⟨RX10, "pushWord", "(I)V"⟩
abbrev cX10_start : ByteArray := prog_12_method_29_code
def yX10_start : MethodName := ⟨RX10, "start", "()J"⟩
abbrev cX10_costTo : ByteArray := prog_12_method_30_code
def yX10_costTo : MethodName := ⟨RX10, "costTo", "(III)J"⟩
abbrev cX10_isAsked : ByteArray := prog_12_method_31_code
def yX10_isAsked : MethodName := ⟨RX10, "isAsked", "(II)Z"⟩
abbrev cX10_distanceTo : ByteArray := prog_12_method_32_code
def yX10_distanceTo : MethodName := ⟨RX10, "distanceTo", "(III)I"⟩
abbrev cX10_distance : ByteArray := prog_12_method_33_code
def yX10_distance : MethodName := ⟨RX10, "distance", "(II)I"⟩
abbrev cX10_steps : ByteArray := prog_12_method_34_code
def yX10_steps : MethodName := ⟨RX10, "steps", "(II)I"⟩
abbrev cX10_firstOf : ByteArray := prog_12_method_35_code
def yX10_firstOf : MethodName := ⟨RX10, "firstOf", "(IJZ)I"⟩
abbrev cX10_witness : ByteArray := prog_12_method_36_code
def yX10_witness : MethodName := ⟨RX10, "witness", "(IIII)I"⟩
abbrev cX10_mean : ByteArray := prog_12_method_37_code
def yX10_mean : MethodName := ⟨RX10, "mean", "(II)F"⟩
abbrev cX10_priceOf : ByteArray := prog_12_method_38_code
def yX10_priceOf : MethodName := ⟨RX10, "priceOf", "(III)I"⟩
abbrev cX10_price : ByteArray := prog_12_method_39_code
def yX10_price : MethodName := ⟨RX10, "price", "(III)I"⟩
abbrev cX10_wordPrice : ByteArray := prog_12_method_40_code
def yX10_wordPrice : MethodName := ⟨RX10, "wordPrice", "(III)I"⟩
abbrev cX10_arcAt : ByteArray := prog_12_method_41_code
def yX10_arcAt : MethodName := ⟨RX10, "arcAt", "(III)I"⟩
abbrev cX10_lessen : ByteArray := prog_12_method_42_code
def yX10_lessen : MethodName := ⟨RX10, "lessen", "(IIII)Z"⟩
abbrev cX10_reads : ByteArray := prog_12_method_43_code
def yX10_reads : MethodName := ⟨RX10, "reads", "(III)I"⟩
abbrev cX10_nodeOf : ByteArray := prog_12_method_44_code
def yX10_nodeOf : MethodName := ⟨RX10, "nodeOf", "(II)I"⟩
abbrev cX10_extend : ByteArray := prog_12_method_45_code
def yX10_extend : MethodName := ⟨RX10, "extend", "(I)Z"⟩
abbrev cX10_layMachine : ByteArray := prog_12_method_46_code
def yX10_layMachine : MethodName := ⟨RX10, "layMachine", "()V"⟩
abbrev cX10_restOf : ByteArray := prog_12_method_47_code
def yX10_restOf : MethodName := ⟨RX10, "restOf", "(II)I"⟩
abbrev cX10_layRests : ByteArray := prog_12_method_48_code
def yX10_layRests : MethodName := ⟨RX10, "layRests", "()V"⟩
abbrev cX10_throughOne : ByteArray := prog_12_method_49_code
def yX10_throughOne : MethodName := ⟨RX10, "throughOne", "(II)I"⟩
abbrev cX10_meet : ByteArray := prog_12_method_50_code
def yX10_meet : MethodName := ⟨RX10, "meet", "([II)I"⟩
abbrev cX10_readFront : ByteArray := prog_12_method_51_code
def yX10_readFront : MethodName := ⟨RX10, "readFront", "(I)V"⟩
abbrev cX10_layFront : ByteArray := prog_12_method_52_code
def yX10_layFront : MethodName := ⟨RX10, "layFront", "(II)V"⟩
abbrev cX10_headOf : ByteArray := prog_12_method_53_code
def yX10_headOf : MethodName := ⟨RX10, "headOf", "(II)I"⟩
abbrev cX10_isHead : ByteArray := prog_12_method_54_code
def yX10_isHead : MethodName := ⟨RX10, "isHead", "(II)Z"⟩
abbrev cX10_headDistance : ByteArray := prog_12_method_55_code
def yX10_headDistance : MethodName := ⟨RX10, "headDistance", "(II)I"⟩
abbrev cX10_nearestStack : ByteArray := prog_12_method_56_code
def yX10_nearestStack : MethodName := ⟨RX10, "nearestStack", "(II)I"⟩
abbrev cX10_heads : ByteArray := prog_12_method_57_code
def yX10_heads : MethodName := ⟨RX10, "heads", "()I"⟩
abbrev cX10_arcs : ByteArray := prog_12_method_58_code
def yX10_arcs : MethodName := ⟨RX10, "arcs", "()I"⟩
abbrev cX10_arc : ByteArray := prog_12_method_59_code
def yX10_arc : MethodName := ⟨RX10, "arc", "(II)I"⟩
abbrev cX10_arcWeight : ByteArray := prog_12_method_60_code
def yX10_arcWeight : MethodName := ⟨RX10, "arcWeight", "(III)I"⟩
abbrev cX10_distanceWithout : ByteArray := prog_12_method_61_code
def yX10_distanceWithout : MethodName := ⟨RX10, "distanceWithout", "(III)I"⟩
abbrev cX10_critical : ByteArray := prog_12_method_62_code
def yX10_critical : MethodName := ⟨RX10, "critical", "(II)I"⟩
abbrev cX10_tolerance : ByteArray := prog_12_method_63_code
def yX10_tolerance : MethodName := ⟨RX10, "tolerance", "(III)I"⟩
abbrev cX10_write : ByteArray := prog_12_method_64_code
def yX10_write : MethodName := ⟨RX10, "write", "(I)I"⟩
abbrev cX10_wipe : ByteArray := prog_12_method_65_code
def yX10_wipe : MethodName := ⟨RX10, "wipe", "()I"⟩
abbrev cX10_here : ByteArray := prog_12_method_66_code
def yX10_here : MethodName := ⟨RX10, "here", "()I"⟩
abbrev cX10_fails : ByteArray := prog_12_method_67_code
def yX10_fails : MethodName := ⟨RX10, "fails", "(I)V"⟩
abbrev cX10_take : ByteArray := prog_12_method_68_code
def yX10_take : MethodName := ⟨RX10, "take", "(II)I"⟩
abbrev cX10_readItem : ByteArray := prog_12_method_69_code
def yX10_readItem : MethodName := ⟨RX10, "readItem", "()V"⟩
abbrev cX10_fault : ByteArray := prog_12_method_70_code
def yX10_fault : MethodName := ⟨RX10, "fault", "()I"⟩
abbrev cX10_load : ByteArray := prog_12_method_71_code
def yX10_load : MethodName := ⟨RX10, "load", "()I"⟩
def RJ9 : String := "java/lang/Math"
abbrev cJ9_min_7cf53 : ByteArray := prog_13_method_69_code
def yJ9_min_7cf53 : MethodName := ⟨RJ9, "min", "(II)I"⟩
abbrev cJ9_min_f86c9 : ByteArray := prog_13_method_70_code
def yJ9_min_f86c9 : MethodName := ⟨RJ9, "min", "(JJ)J"⟩
def RJ10 : String := "java/lang/System"
def RJ7 : String := "java/util/Arrays"
abbrev cJ7_fill_d0a16 : ByteArray := prog_15_method_101_code
def yJ7_fill_d0a16 : MethodName := ⟨RJ7, "fill", "([JJ)V"⟩
abbrev cJ7_fill_53178 : ByteArray := prog_15_method_103_code
def yJ7_fill_53178 : MethodName := ⟨RJ7, "fill", "([II)V"⟩
def RL : String := "StackLabLaw"
abbrev cL_law : ByteArray := code
def yL_law : MethodName := ⟨RL, "law", "([I)Z"⟩
abbrev vwCl : List vw_C := [(RX0, TX0, 2), (RX1, TX1, 13), (RX2, TX2, 10), (RX3, TX3, 13), (RX4, TX4, 6), (RX5, TX5, 3), (RX6, TX6, 3), (RX7, TX7, 8), (RX8, TX8, 2), (RX9, TX9, 15), (RX10, TX10, 20)]
end
section
theorem dX0_init_0 : decode cX0_init 0 = .ok (.aload_n 0, 1) := by decide +kernel
theorem dX0_init_1 : decode cX0_init 1 = .ok (.invokespecial 3, 3) := by decide +kernel
theorem dX0_init_4 : decode cX0_init 4 = .ok (.aload_n 0, 1) := by decide +kernel
theorem dX0_init_5 : decode cX0_init 5 = .ok (.iconst 0, 1) := by decide +kernel
theorem dX0_init_6 : decode cX0_init 6 = .ok (.putfield 9, 3) := by decide +kernel
theorem dX0_init_9 : decode cX0_init 9 = .ok (.aload_n 0, 1) := by decide +kernel
theorem dX0_init_10 : decode cX0_init 10 = .ok (.bipush 8, 2) := by decide +kernel
theorem dX0_init_12 : decode cX0_init 12 = .ok (.anewarray 15, 3) := by decide +kernel
theorem dX0_init_15 : decode cX0_init 15 = .ok (.putfield 17, 3) := by decide +kernel
theorem dX0_init_18 : decode cX0_init 18 = .ok (.iconst 0, 1) := by decide +kernel
theorem dX0_init_19 : decode cX0_init 19 = .ok (.istore_n 1, 1) := by decide +kernel
theorem dX0_init_20 : decode cX0_init 20 = .ok (.iload_n 1, 1) := by decide +kernel
theorem dX0_init_21 : decode cX0_init 21 = .ok (.bipush 8, 2) := by decide +kernel
theorem dX0_init_23 : decode cX0_init 23 = .ok (.if_icmp .ge 22, 3) := by decide +kernel
theorem dX0_init_26 : decode cX0_init 26 = .ok (.aload_n 0, 1) := by decide +kernel
theorem dX0_init_27 : decode cX0_init 27 = .ok (.getfield 17, 3) := by decide +kernel
theorem dX0_init_30 : decode cX0_init 30 = .ok (.iload_n 1, 1) := by decide +kernel
theorem dX0_init_31 : decode cX0_init 31 = .ok (.new 15, 3) := by decide +kernel
theorem dX0_init_34 : decode cX0_init 34 = .ok (.dup, 1) := by decide +kernel
theorem dX0_init_35 : decode cX0_init 35 = .ok (.invokespecial 21, 3) := by decide +kernel
theorem dX0_init_38 : decode cX0_init 38 = .ok (.aastore, 1) := by decide +kernel
theorem dX0_init_39 : decode cX0_init 39 = .ok (.iinc 1 1, 3) := by decide +kernel
theorem dX0_init_42 : decode cX0_init 42 = .ok (.goto (-22), 3) := by decide +kernel
theorem dX0_init_45 : decode cX0_init 45 = .ok (.return_, 1) := by decide +kernel
theorem dX0_record_0 : decode cX0_record 0 = .ok (.aload_n 0, 1) := by decide +kernel
theorem dX0_record_1 : decode cX0_record 1 = .ok (.getfield 9, 3) := by decide +kernel
theorem dX0_record_4 : decode cX0_record 4 = .ok (.bipush 8, 2) := by decide +kernel
theorem dX0_record_6 : decode cX0_record 6 = .ok (.if_icmp .ge 16, 3) := by decide +kernel
theorem dX0_record_9 : decode cX0_record 9 = .ok (.aload_n 0, 1) := by decide +kernel
theorem dX0_record_10 : decode cX0_record 10 = .ok (.dup, 1) := by decide +kernel
theorem dX0_record_11 : decode cX0_record 11 = .ok (.getfield 9, 3) := by decide +kernel
theorem dX0_record_14 : decode cX0_record 14 = .ok (.iconst 1, 1) := by decide +kernel
theorem dX0_record_15 : decode cX0_record 15 = .ok (.iadd, 1) := by decide +kernel
theorem dX0_record_16 : decode cX0_record 16 = .ok (.putfield 9, 3) := by decide +kernel
theorem dX0_record_19 : decode cX0_record 19 = .ok (.goto 7, 3) := by decide +kernel
theorem dX0_record_22 : decode cX0_record 22 = .ok (.aload_n 0, 1) := by decide +kernel
theorem dX0_record_23 : decode cX0_record 23 = .ok (.invokevirtual 22, 3) := by decide +kernel
theorem dX0_record_26 : decode cX0_record 26 = .ok (.aload_n 0, 1) := by decide +kernel
theorem dX0_record_27 : decode cX0_record 27 = .ok (.getfield 17, 3) := by decide +kernel
theorem dX0_record_30 : decode cX0_record 30 = .ok (.aload_n 0, 1) := by decide +kernel
theorem dX0_record_31 : decode cX0_record 31 = .ok (.getfield 9, 3) := by decide +kernel
theorem dX0_record_34 : decode cX0_record 34 = .ok (.iconst 1, 1) := by decide +kernel
theorem dX0_record_35 : decode cX0_record 35 = .ok (.isub, 1) := by decide +kernel
theorem dX0_record_36 : decode cX0_record 36 = .ok (.aaload, 1) := by decide +kernel
theorem dX0_record_37 : decode cX0_record 37 = .ok (.aload_n 1, 1) := by decide +kernel
theorem dX0_record_38 : decode cX0_record 38 = .ok (.invokevirtual 25, 3) := by decide +kernel
theorem dX0_record_41 : decode cX0_record 41 = .ok (.return_, 1) := by decide +kernel
theorem dX0_dropOldest_0 : decode cX0_dropOldest 0 = .ok (.aload_n 0, 1) := by decide +kernel
theorem dX0_dropOldest_1 : decode cX0_dropOldest 1 = .ok (.getfield 17, 3) := by decide +kernel
theorem dX0_dropOldest_4 : decode cX0_dropOldest 4 = .ok (.iconst 0, 1) := by decide +kernel
theorem dX0_dropOldest_5 : decode cX0_dropOldest 5 = .ok (.aaload, 1) := by decide +kernel
theorem dX0_dropOldest_6 : decode cX0_dropOldest 6 = .ok (.astore_n 1, 1) := by decide +kernel
theorem dX0_dropOldest_7 : decode cX0_dropOldest 7 = .ok (.iconst 1, 1) := by decide +kernel
theorem dX0_dropOldest_8 : decode cX0_dropOldest 8 = .ok (.istore_n 2, 1) := by decide +kernel
theorem dX0_dropOldest_9 : decode cX0_dropOldest 9 = .ok (.iload_n 2, 1) := by decide +kernel
theorem dX0_dropOldest_10 : decode cX0_dropOldest 10 = .ok (.bipush 8, 2) := by decide +kernel
theorem dX0_dropOldest_12 : decode cX0_dropOldest 12 = .ok (.if_icmp .ge 23, 3) := by decide +kernel
theorem dX0_dropOldest_15 : decode cX0_dropOldest 15 = .ok (.aload_n 0, 1) := by decide +kernel
theorem dX0_dropOldest_16 : decode cX0_dropOldest 16 = .ok (.getfield 17, 3) := by decide +kernel
theorem dX0_dropOldest_19 : decode cX0_dropOldest 19 = .ok (.iload_n 2, 1) := by decide +kernel
theorem dX0_dropOldest_20 : decode cX0_dropOldest 20 = .ok (.iconst 1, 1) := by decide +kernel
theorem dX0_dropOldest_21 : decode cX0_dropOldest 21 = .ok (.isub, 1) := by decide +kernel
theorem dX0_dropOldest_22 : decode cX0_dropOldest 22 = .ok (.aload_n 0, 1) := by decide +kernel
theorem dX0_dropOldest_23 : decode cX0_dropOldest 23 = .ok (.getfield 17, 3) := by decide +kernel
theorem dX0_dropOldest_26 : decode cX0_dropOldest 26 = .ok (.iload_n 2, 1) := by decide +kernel
theorem dX0_dropOldest_27 : decode cX0_dropOldest 27 = .ok (.aaload, 1) := by decide +kernel
theorem dX0_dropOldest_28 : decode cX0_dropOldest 28 = .ok (.aastore, 1) := by decide +kernel
theorem dX0_dropOldest_29 : decode cX0_dropOldest 29 = .ok (.iinc 2 1, 3) := by decide +kernel
theorem dX0_dropOldest_32 : decode cX0_dropOldest 32 = .ok (.goto (-23), 3) := by decide +kernel
theorem dX0_dropOldest_35 : decode cX0_dropOldest 35 = .ok (.aload_n 0, 1) := by decide +kernel
theorem dX0_dropOldest_36 : decode cX0_dropOldest 36 = .ok (.getfield 17, 3) := by decide +kernel
theorem dX0_dropOldest_39 : decode cX0_dropOldest 39 = .ok (.bipush 7, 2) := by decide +kernel
theorem dX0_dropOldest_41 : decode cX0_dropOldest 41 = .ok (.aload_n 1, 1) := by decide +kernel
theorem dX0_dropOldest_42 : decode cX0_dropOldest 42 = .ok (.aastore, 1) := by decide +kernel
theorem dX0_dropOldest_43 : decode cX0_dropOldest 43 = .ok (.return_, 1) := by decide +kernel
theorem dX0_restore_0 : decode cX0_restore 0 = .ok (.aload_n 0, 1) := by decide +kernel
theorem dX0_restore_1 : decode cX0_restore 1 = .ok (.getfield 9, 3) := by decide +kernel
theorem dX0_restore_4 : decode cX0_restore 4 = .ok (.ifCond .le 26, 3) := by decide +kernel
theorem dX0_restore_7 : decode cX0_restore 7 = .ok (.aload_n 0, 1) := by decide +kernel
theorem dX0_restore_8 : decode cX0_restore 8 = .ok (.dup, 1) := by decide +kernel
theorem dX0_restore_9 : decode cX0_restore 9 = .ok (.getfield 9, 3) := by decide +kernel
theorem dX0_restore_12 : decode cX0_restore 12 = .ok (.iconst 1, 1) := by decide +kernel
theorem dX0_restore_13 : decode cX0_restore 13 = .ok (.isub, 1) := by decide +kernel
theorem dX0_restore_14 : decode cX0_restore 14 = .ok (.putfield 9, 3) := by decide +kernel
theorem dX0_restore_17 : decode cX0_restore 17 = .ok (.aload_n 1, 1) := by decide +kernel
theorem dX0_restore_18 : decode cX0_restore 18 = .ok (.aload_n 0, 1) := by decide +kernel
theorem dX0_restore_19 : decode cX0_restore 19 = .ok (.getfield 17, 3) := by decide +kernel
theorem dX0_restore_22 : decode cX0_restore 22 = .ok (.aload_n 0, 1) := by decide +kernel
theorem dX0_restore_23 : decode cX0_restore 23 = .ok (.getfield 9, 3) := by decide +kernel
theorem dX0_restore_26 : decode cX0_restore 26 = .ok (.aaload, 1) := by decide +kernel
theorem dX0_restore_27 : decode cX0_restore 27 = .ok (.invokevirtual 25, 3) := by decide +kernel
theorem dX0_restore_30 : decode cX0_restore 30 = .ok (.return_, 1) := by decide +kernel
theorem dX1_init_0 : decode cX1_init 0 = .ok (.aload_n 0, 1) := by decide +kernel
theorem dX1_init_1 : decode cX1_init 1 = .ok (.invokespecial 3, 3) := by decide +kernel
theorem dX1_init_4 : decode cX1_init 4 = .ok (.aload_n 0, 1) := by decide +kernel
theorem dX1_init_5 : decode cX1_init 5 = .ok (.iconst 0, 1) := by decide +kernel
theorem dX1_init_6 : decode cX1_init 6 = .ok (.putfield 9, 3) := by decide +kernel
theorem dX1_init_9 : decode cX1_init 9 = .ok (.aload_n 0, 1) := by decide +kernel
theorem dX1_init_10 : decode cX1_init 10 = .ok (.iconst 0, 1) := by decide +kernel
theorem dX1_init_11 : decode cX1_init 11 = .ok (.putfield 15, 3) := by decide +kernel
theorem dX1_init_14 : decode cX1_init 14 = .ok (.aload_n 0, 1) := by decide +kernel
theorem dX1_init_15 : decode cX1_init 15 = .ok (.sipush 4032, 3) := by decide +kernel
theorem dX1_init_18 : decode cX1_init 18 = .ok (.newarray .int, 2) := by decide +kernel
theorem dX1_init_20 : decode cX1_init 20 = .ok (.putfield 19, 3) := by decide +kernel
theorem dX1_init_23 : decode cX1_init 23 = .ok (.aload_n 0, 1) := by decide +kernel
theorem dX1_init_24 : decode cX1_init 24 = .ok (.bipush 24, 2) := by decide +kernel
theorem dX1_init_26 : decode cX1_init 26 = .ok (.bipush 20, 2) := by decide +kernel
theorem dX1_init_28 : decode cX1_init 28 = .ok (.multianewarray 23 2, 4) := by decide +kernel
theorem dX1_init_32 : decode cX1_init 32 = .ok (.putfield 25, 3) := by decide +kernel
theorem dX1_init_35 : decode cX1_init 35 = .ok (.aload_n 0, 1) := by decide +kernel
theorem dX1_init_36 : decode cX1_init 36 = .ok (.bipush 24, 2) := by decide +kernel
theorem dX1_init_38 : decode cX1_init 38 = .ok (.newarray .long, 2) := by decide +kernel
theorem dX1_init_40 : decode cX1_init 40 = .ok (.putfield 28, 3) := by decide +kernel
theorem dX1_init_43 : decode cX1_init 43 = .ok (.aload_n 0, 1) := by decide +kernel
theorem dX1_init_44 : decode cX1_init 44 = .ok (.bipush 20, 2) := by decide +kernel
theorem dX1_init_46 : decode cX1_init 46 = .ok (.newarray .boolean, 2) := by decide +kernel
theorem dX1_init_48 : decode cX1_init 48 = .ok (.putfield 32, 3) := by decide +kernel
theorem dX1_init_51 : decode cX1_init 51 = .ok (.aload_n 0, 1) := by decide +kernel
theorem dX1_init_52 : decode cX1_init 52 = .ok (.bipush 20, 2) := by decide +kernel
theorem dX1_init_54 : decode cX1_init 54 = .ok (.newarray .int, 2) := by decide +kernel
theorem dX1_init_56 : decode cX1_init 56 = .ok (.putfield 36, 3) := by decide +kernel
theorem dX1_init_59 : decode cX1_init 59 = .ok (.aload_n 0, 1) := by decide +kernel
theorem dX1_init_60 : decode cX1_init 60 = .ok (.iconst 0, 1) := by decide +kernel
theorem dX1_init_61 : decode cX1_init 61 = .ok (.putfield 39, 3) := by decide +kernel
theorem dX1_init_64 : decode cX1_init 64 = .ok (.aload_n 0, 1) := by decide +kernel
theorem dX1_init_65 : decode cX1_init 65 = .ok (.sipush 504, 3) := by decide +kernel
theorem dX1_init_68 : decode cX1_init 68 = .ok (.newarray .int, 2) := by decide +kernel
theorem dX1_init_70 : decode cX1_init 70 = .ok (.putfield 42, 3) := by decide +kernel
theorem dX1_init_73 : decode cX1_init 73 = .ok (.aload_n 0, 1) := by decide +kernel
theorem dX1_init_74 : decode cX1_init 74 = .ok (.sipush 504, 3) := by decide +kernel
theorem dX1_init_77 : decode cX1_init 77 = .ok (.newarray .int, 2) := by decide +kernel
theorem dX1_init_79 : decode cX1_init 79 = .ok (.putfield 45, 3) := by decide +kernel
theorem dX1_init_82 : decode cX1_init 82 = .ok (.aload_n 0, 1) := by decide +kernel
theorem dX1_init_83 : decode cX1_init 83 = .ok (.sipush 504, 3) := by decide +kernel
theorem dX1_init_86 : decode cX1_init 86 = .ok (.newarray .int, 2) := by decide +kernel
theorem dX1_init_88 : decode cX1_init 88 = .ok (.putfield 48, 3) := by decide +kernel
theorem dX1_init_91 : decode cX1_init 91 = .ok (.aload_n 0, 1) := by decide +kernel
theorem dX1_init_92 : decode cX1_init 92 = .ok (.aload_n 1, 1) := by decide +kernel
theorem dX1_init_93 : decode cX1_init 93 = .ok (.putfield 51, 3) := by decide +kernel
theorem dX1_init_96 : decode cX1_init 96 = .ok (.aload_n 0, 1) := by decide +kernel
theorem dX1_init_97 : decode cX1_init 97 = .ok (.aload_n 2, 1) := by decide +kernel
theorem dX1_init_98 : decode cX1_init 98 = .ok (.putfield 55, 3) := by decide +kernel
theorem dX1_init_101 : decode cX1_init 101 = .ok (.return_, 1) := by decide +kernel
theorem dX1_build_0 : decode cX1_build 0 = .ok (.aload_n 0, 1) := by decide +kernel
theorem dX1_build_1 : decode cX1_build 1 = .ok (.getfield 9, 3) := by decide +kernel
theorem dX1_build_4 : decode cX1_build 4 = .ok (.ifCond .eq 4, 3) := by decide +kernel
theorem dX1_build_7 : decode cX1_build 7 = .ok (.return_, 1) := by decide +kernel
theorem dX1_build_8 : decode cX1_build 8 = .ok (.aload_n 0, 1) := by decide +kernel
theorem dX1_build_9 : decode cX1_build 9 = .ok (.getfield 19, 3) := by decide +kernel
theorem dX1_build_12 : decode cX1_build 12 = .ok (.bipush (-6), 2) := by decide +kernel
theorem dX1_build_14 : decode cX1_build 14 = .ok (.invokestatic 59, 3) := by decide +kernel
theorem dX1_build_17 : decode cX1_build 17 = .ok (.iconst 0, 1) := by decide +kernel
theorem dX1_build_18 : decode cX1_build 18 = .ok (.istore_n 1, 1) := by decide +kernel
theorem dX1_build_19 : decode cX1_build 19 = .ok (.iload_n 1, 1) := by decide +kernel
theorem dX1_build_20 : decode cX1_build 20 = .ok (.bipush 24, 2) := by decide +kernel
theorem dX1_build_22 : decode cX1_build 22 = .ok (.if_icmp .ge 21, 3) := by decide +kernel
theorem dX1_build_25 : decode cX1_build 25 = .ok (.aload_n 0, 1) := by decide +kernel
theorem dX1_build_26 : decode cX1_build 26 = .ok (.getfield 25, 3) := by decide +kernel
theorem dX1_build_29 : decode cX1_build 29 = .ok (.iload_n 1, 1) := by decide +kernel
theorem dX1_build_30 : decode cX1_build 30 = .ok (.aaload, 1) := by decide +kernel
theorem dX1_build_31 : decode cX1_build 31 = .ok (.ldc2_w 65, 3) := by decide +kernel
theorem dX1_build_34 : decode cX1_build 34 = .ok (.invokestatic 67, 3) := by decide +kernel
theorem dX1_build_37 : decode cX1_build 37 = .ok (.iinc 1 1, 3) := by decide +kernel
theorem dX1_build_40 : decode cX1_build 40 = .ok (.goto (-21), 3) := by decide +kernel
theorem dX1_build_43 : decode cX1_build 43 = .ok (.iconst 0, 1) := by decide +kernel
theorem dX1_build_44 : decode cX1_build 44 = .ok (.istore_n 1, 1) := by decide +kernel
theorem dX1_build_45 : decode cX1_build 45 = .ok (.iload_n 1, 1) := by decide +kernel
theorem dX1_build_46 : decode cX1_build 46 = .ok (.bipush 20, 2) := by decide +kernel
theorem dX1_build_48 : decode cX1_build 48 = .ok (.if_icmp .ge 16, 3) := by decide +kernel
theorem dX1_build_51 : decode cX1_build 51 = .ok (.aload_n 0, 1) := by decide +kernel
theorem dX1_build_52 : decode cX1_build 52 = .ok (.getfield 32, 3) := by decide +kernel
theorem dX1_build_55 : decode cX1_build 55 = .ok (.iload_n 1, 1) := by decide +kernel
theorem dX1_build_56 : decode cX1_build 56 = .ok (.iconst 0, 1) := by decide +kernel
theorem dX1_build_57 : decode cX1_build 57 = .ok (.bastore, 1) := by decide +kernel
theorem dX1_build_58 : decode cX1_build 58 = .ok (.iinc 1 1, 3) := by decide +kernel
theorem dX1_build_61 : decode cX1_build 61 = .ok (.goto (-16), 3) := by decide +kernel
theorem dX1_build_64 : decode cX1_build 64 = .ok (.aload_n 0, 1) := by decide +kernel
theorem dX1_build_65 : decode cX1_build 65 = .ok (.iconst 0, 1) := by decide +kernel
theorem dX1_build_66 : decode cX1_build 66 = .ok (.putfield 39, 3) := by decide +kernel
theorem dX1_build_69 : decode cX1_build 69 = .ok (.aload_n 0, 1) := by decide +kernel
theorem dX1_build_70 : decode cX1_build 70 = .ok (.invokevirtual 70, 3) := by decide +kernel
theorem dX1_build_73 : decode cX1_build 73 = .ok (.iconst 0, 1) := by decide +kernel
theorem dX1_build_74 : decode cX1_build 74 = .ok (.istore_n 1, 1) := by decide +kernel
theorem dX1_build_75 : decode cX1_build 75 = .ok (.iload_n 1, 1) := by decide +kernel
theorem dX1_build_76 : decode cX1_build 76 = .ok (.aload_n 0, 1) := by decide +kernel
theorem dX1_build_77 : decode cX1_build 77 = .ok (.getfield 39, 3) := by decide +kernel
theorem dX1_build_80 : decode cX1_build 80 = .ok (.if_icmp .ge 25, 3) := by decide +kernel
theorem dX1_build_83 : decode cX1_build 83 = .ok (.iload_n 1, 1) := by decide +kernel
theorem dX1_build_84 : decode cX1_build 84 = .ok (.bipush 20, 2) := by decide +kernel
theorem dX1_build_86 : decode cX1_build 86 = .ok (.if_icmp .ge 19, 3) := by decide +kernel
theorem dX1_build_89 : decode cX1_build 89 = .ok (.aload_n 0, 1) := by decide +kernel
theorem dX1_build_90 : decode cX1_build 90 = .ok (.aload_n 0, 1) := by decide +kernel
theorem dX1_build_91 : decode cX1_build 91 = .ok (.getfield 36, 3) := by decide +kernel
theorem dX1_build_94 : decode cX1_build 94 = .ok (.iload_n 1, 1) := by decide +kernel
theorem dX1_build_95 : decode cX1_build 95 = .ok (.iaload, 1) := by decide +kernel
theorem dX1_build_96 : decode cX1_build 96 = .ok (.invokevirtual 73, 3) := by decide +kernel
theorem dX1_build_99 : decode cX1_build 99 = .ok (.iinc 1 1, 3) := by decide +kernel
theorem dX1_build_102 : decode cX1_build 102 = .ok (.goto (-27), 3) := by decide +kernel
theorem dX1_build_105 : decode cX1_build 105 = .ok (.aload_n 0, 1) := by decide +kernel
theorem dX1_build_106 : decode cX1_build 106 = .ok (.invokevirtual 77, 3) := by decide +kernel
theorem dX1_build_109 : decode cX1_build 109 = .ok (.aload_n 0, 1) := by decide +kernel
theorem dX1_build_110 : decode cX1_build 110 = .ok (.invokevirtual 80, 3) := by decide +kernel
theorem dX1_build_113 : decode cX1_build 113 = .ok (.aload_n 0, 1) := by decide +kernel
theorem dX1_build_114 : decode cX1_build 114 = .ok (.iconst 1, 1) := by decide +kernel
theorem dX1_build_115 : decode cX1_build 115 = .ok (.putfield 9, 3) := by decide +kernel
theorem dX1_build_118 : decode cX1_build 118 = .ok (.return_, 1) := by decide +kernel
theorem dX1_readStartStack_0 : decode cX1_readStartStack 0 = .ok (.iconst 0, 1) := by decide +kernel
theorem dX1_readStartStack_1 : decode cX1_readStartStack 1 = .ok (.istore_n 1, 1) := by decide +kernel
theorem dX1_readStartStack_2 : decode cX1_readStartStack 2 = .ok (.iload_n 1, 1) := by decide +kernel
theorem dX1_readStartStack_3 : decode cX1_readStartStack 3 = .ok (.aload_n 0, 1) := by decide +kernel
theorem dX1_readStartStack_4 : decode cX1_readStartStack 4 = .ok (.getfield 51, 3) := by decide +kernel
theorem dX1_readStartStack_7 : decode cX1_readStartStack 7 = .ok (.getfield 83, 3) := by decide +kernel
theorem dX1_readStartStack_10 : decode cX1_readStartStack 10 = .ok (.getfield 89, 3) := by decide +kernel
theorem dX1_readStartStack_13 : decode cX1_readStartStack 13 = .ok (.if_icmp .ge 97, 3) := by decide +kernel
theorem dX1_readStartStack_16 : decode cX1_readStartStack 16 = .ok (.iload_n 1, 1) := by decide +kernel
theorem dX1_readStartStack_17 : decode cX1_readStartStack 17 = .ok (.iconst 4, 1) := by decide +kernel
theorem dX1_readStartStack_18 : decode cX1_readStartStack 18 = .ok (.if_icmp .ge 92, 3) := by decide +kernel
theorem dX1_readStartStack_21 : decode cX1_readStartStack 21 = .ok (.bipush 20, 2) := by decide +kernel
theorem dX1_readStartStack_23 : decode cX1_readStartStack 23 = .ok (.iload_n 1, 1) := by decide +kernel
theorem dX1_readStartStack_24 : decode cX1_readStartStack 24 = .ok (.iadd, 1) := by decide +kernel
theorem dX1_readStartStack_25 : decode cX1_readStartStack 25 = .ok (.istore_n 2, 1) := by decide +kernel
theorem dX1_readStartStack_26 : decode cX1_readStartStack 26 = .ok (.aload_n 0, 1) := by decide +kernel
theorem dX1_readStartStack_27 : decode cX1_readStartStack 27 = .ok (.getfield 51, 3) := by decide +kernel
theorem dX1_readStartStack_30 : decode cX1_readStartStack 30 = .ok (.getfield 83, 3) := by decide +kernel
theorem dX1_readStartStack_33 : decode cX1_readStartStack 33 = .ok (.getfield 94, 3) := by decide +kernel
theorem dX1_readStartStack_36 : decode cX1_readStartStack 36 = .ok (.iload_n 1, 1) := by decide +kernel
theorem dX1_readStartStack_37 : decode cX1_readStartStack 37 = .ok (.iaload, 1) := by decide +kernel
theorem dX1_readStartStack_38 : decode cX1_readStartStack 38 = .ok (.istore_n 3, 1) := by decide +kernel
theorem dX1_readStartStack_39 : decode cX1_readStartStack 39 = .ok (.iload_n 1, 1) := by decide +kernel
theorem dX1_readStartStack_40 : decode cX1_readStartStack 40 = .ok (.ifCond .ne 39, 3) := by decide +kernel
theorem dX1_readStartStack_43 : decode cX1_readStartStack 43 = .ok (.aload_n 0, 1) := by decide +kernel
theorem dX1_readStartStack_44 : decode cX1_readStartStack 44 = .ok (.getfield 25, 3) := by decide +kernel
theorem dX1_readStartStack_47 : decode cX1_readStartStack 47 = .ok (.iload_n 2, 1) := by decide +kernel
theorem dX1_readStartStack_48 : decode cX1_readStartStack 48 = .ok (.aaload, 1) := by decide +kernel
theorem dX1_readStartStack_49 : decode cX1_readStartStack 49 = .ok (.aload_n 0, 1) := by decide +kernel
theorem dX1_readStartStack_50 : decode cX1_readStartStack 50 = .ok (.getfield 51, 3) := by decide +kernel
theorem dX1_readStartStack_53 : decode cX1_readStartStack 53 = .ok (.getfield 97, 3) := by decide +kernel
theorem dX1_readStartStack_56 : decode cX1_readStartStack 56 = .ok (.iload_n 3, 1) := by decide +kernel
theorem dX1_readStartStack_57 : decode cX1_readStartStack 57 = .ok (.invokestatic 100, 3) := by decide +kernel
theorem dX1_readStartStack_60 : decode cX1_readStartStack 60 = .ok (.lconst 0, 1) := by decide +kernel
theorem dX1_readStartStack_61 : decode cX1_readStartStack 61 = .ok (.lastore, 1) := by decide +kernel
theorem dX1_readStartStack_62 : decode cX1_readStartStack 62 = .ok (.aload_n 0, 1) := by decide +kernel
theorem dX1_readStartStack_63 : decode cX1_readStartStack 63 = .ok (.aload_n 0, 1) := by decide +kernel
theorem dX1_readStartStack_64 : decode cX1_readStartStack 64 = .ok (.getfield 51, 3) := by decide +kernel
theorem dX1_readStartStack_67 : decode cX1_readStartStack 67 = .ok (.getfield 97, 3) := by decide +kernel
theorem dX1_readStartStack_70 : decode cX1_readStartStack 70 = .ok (.iload_n 3, 1) := by decide +kernel
theorem dX1_readStartStack_71 : decode cX1_readStartStack 71 = .ok (.iload_n 2, 1) := by decide +kernel
theorem dX1_readStartStack_72 : decode cX1_readStartStack 72 = .ok (.lconst 0, 1) := by decide +kernel
theorem dX1_readStartStack_73 : decode cX1_readStartStack 73 = .ok (.invokevirtual 104, 3) := by decide +kernel
theorem dX1_readStartStack_76 : decode cX1_readStartStack 76 = .ok (.goto 23, 3) := by decide +kernel
theorem dX1_readStartStack_79 : decode cX1_readStartStack 79 = .ok (.aload_n 0, 1) := by decide +kernel
theorem dX1_readStartStack_80 : decode cX1_readStartStack 80 = .ok (.iload_n 2, 1) := by decide +kernel
theorem dX1_readStartStack_81 : decode cX1_readStartStack 81 = .ok (.iconst 1, 1) := by decide +kernel
theorem dX1_readStartStack_82 : decode cX1_readStartStack 82 = .ok (.isub, 1) := by decide +kernel
theorem dX1_readStartStack_83 : decode cX1_readStartStack 83 = .ok (.iload_n 3, 1) := by decide +kernel
theorem dX1_readStartStack_84 : decode cX1_readStartStack 84 = .ok (.invokevirtual 108, 3) := by decide +kernel
theorem dX1_readStartStack_87 : decode cX1_readStartStack 87 = .ok (.aload_n 0, 1) := by decide +kernel
theorem dX1_readStartStack_88 : decode cX1_readStartStack 88 = .ok (.iconst 4, 1) := by decide +kernel
theorem dX1_readStartStack_89 : decode cX1_readStartStack 89 = .ok (.iload_n 2, 1) := by decide +kernel
theorem dX1_readStartStack_90 : decode cX1_readStartStack 90 = .ok (.iadd, 1) := by decide +kernel
theorem dX1_readStartStack_91 : decode cX1_readStartStack 91 = .ok (.iconst 1, 1) := by decide +kernel
theorem dX1_readStartStack_92 : decode cX1_readStartStack 92 = .ok (.isub, 1) := by decide +kernel
theorem dX1_readStartStack_93 : decode cX1_readStartStack 93 = .ok (.iload_n 3, 1) := by decide +kernel
theorem dX1_readStartStack_94 : decode cX1_readStartStack 94 = .ok (.iload_n 2, 1) := by decide +kernel
theorem dX1_readStartStack_95 : decode cX1_readStartStack 95 = .ok (.lconst 0, 1) := by decide +kernel
theorem dX1_readStartStack_96 : decode cX1_readStartStack 96 = .ok (.invokevirtual 104, 3) := by decide +kernel
theorem dX1_readStartStack_99 : decode cX1_readStartStack 99 = .ok (.aload_n 0, 1) := by decide +kernel
theorem dX1_readStartStack_100 : decode cX1_readStartStack 100 = .ok (.iload_n 2, 1) := by decide +kernel
theorem dX1_readStartStack_101 : decode cX1_readStartStack 101 = .ok (.invokevirtual 112, 3) := by decide +kernel
theorem dX1_readStartStack_104 : decode cX1_readStartStack 104 = .ok (.iinc 1 1, 3) := by decide +kernel
theorem dX1_readStartStack_107 : decode cX1_readStartStack 107 = .ok (.goto (-105), 3) := by decide +kernel
theorem dX1_readStartStack_110 : decode cX1_readStartStack 110 = .ok (.return_, 1) := by decide +kernel
theorem dX1_readOnFrom_0 : decode cX1_readOnFrom 0 = .ok (.iconst 0, 1) := by decide +kernel
theorem dX1_readOnFrom_1 : decode cX1_readOnFrom 1 = .ok (.istore_n 3, 1) := by decide +kernel
theorem dX1_readOnFrom_2 : decode cX1_readOnFrom 2 = .ok (.iload_n 3, 1) := by decide +kernel
theorem dX1_readOnFrom_3 : decode cX1_readOnFrom 3 = .ok (.aload_n 0, 1) := by decide +kernel
theorem dX1_readOnFrom_4 : decode cX1_readOnFrom 4 = .ok (.getfield 51, 3) := by decide +kernel
theorem dX1_readOnFrom_7 : decode cX1_readOnFrom 7 = .ok (.getfield 115, 3) := by decide +kernel
theorem dX1_readOnFrom_10 : decode cX1_readOnFrom 10 = .ok (.if_icmp .ge 44, 3) := by decide +kernel
theorem dX1_readOnFrom_13 : decode cX1_readOnFrom 13 = .ok (.aload_n 0, 1) := by decide +kernel
theorem dX1_readOnFrom_14 : decode cX1_readOnFrom 14 = .ok (.iload_n 3, 1) := by decide +kernel
theorem dX1_readOnFrom_15 : decode cX1_readOnFrom 15 = .ok (.iconst 0, 1) := by decide +kernel
theorem dX1_readOnFrom_16 : decode cX1_readOnFrom 16 = .ok (.iload_n 1, 1) := by decide +kernel
theorem dX1_readOnFrom_17 : decode cX1_readOnFrom 17 = .ok (.invokevirtual 118, 3) := by decide +kernel
theorem dX1_readOnFrom_20 : decode cX1_readOnFrom 20 = .ok (.istore 4, 2) := by decide +kernel
theorem dX1_readOnFrom_22 : decode cX1_readOnFrom 22 = .ok (.iload 4, 2) := by decide +kernel
theorem dX1_readOnFrom_24 : decode cX1_readOnFrom 24 = .ok (.bipush (-6), 2) := by decide +kernel
theorem dX1_readOnFrom_26 : decode cX1_readOnFrom 26 = .ok (.if_icmp .eq 22, 3) := by decide +kernel
theorem dX1_readOnFrom_29 : decode cX1_readOnFrom 29 = .ok (.aload_n 0, 1) := by decide +kernel
theorem dX1_readOnFrom_30 : decode cX1_readOnFrom 30 = .ok (.getfield 25, 3) := by decide +kernel
theorem dX1_readOnFrom_33 : decode cX1_readOnFrom 33 = .ok (.iload_n 1, 1) := by decide +kernel
theorem dX1_readOnFrom_34 : decode cX1_readOnFrom 34 = .ok (.iconst 1, 1) := by decide +kernel
theorem dX1_readOnFrom_35 : decode cX1_readOnFrom 35 = .ok (.iadd, 1) := by decide +kernel
theorem dX1_readOnFrom_36 : decode cX1_readOnFrom 36 = .ok (.aaload, 1) := by decide +kernel
theorem dX1_readOnFrom_37 : decode cX1_readOnFrom 37 = .ok (.iload_n 3, 1) := by decide +kernel
theorem dX1_readOnFrom_38 : decode cX1_readOnFrom 38 = .ok (.iload_n 2, 1) := by decide +kernel
theorem dX1_readOnFrom_39 : decode cX1_readOnFrom 39 = .ok (.invokestatic 100, 3) := by decide +kernel
theorem dX1_readOnFrom_42 : decode cX1_readOnFrom 42 = .ok (.iload 4, 2) := by decide +kernel
theorem dX1_readOnFrom_44 : decode cX1_readOnFrom 44 = .ok (.invokestatic 122, 3) := by decide +kernel
theorem dX1_readOnFrom_47 : decode cX1_readOnFrom 47 = .ok (.lastore, 1) := by decide +kernel
theorem dX1_readOnFrom_48 : decode cX1_readOnFrom 48 = .ok (.iinc 3 1, 3) := by decide +kernel
theorem dX1_readOnFrom_51 : decode cX1_readOnFrom 51 = .ok (.goto (-49), 3) := by decide +kernel
theorem dX1_readOnFrom_54 : decode cX1_readOnFrom 54 = .ok (.return_, 1) := by decide +kernel
theorem dX1_readFromHead_0 : decode cX1_readFromHead 0 = .ok (.aload_n 0, 1) := by decide +kernel
theorem dX1_readFromHead_1 : decode cX1_readFromHead 1 = .ok (.getfield 25, 3) := by decide +kernel
theorem dX1_readFromHead_4 : decode cX1_readFromHead 4 = .ok (.iload_n 1, 1) := by decide +kernel
theorem dX1_readFromHead_5 : decode cX1_readFromHead 5 = .ok (.aaload, 1) := by decide +kernel
theorem dX1_readFromHead_6 : decode cX1_readFromHead 6 = .ok (.iload_n 1, 1) := by decide +kernel
theorem dX1_readFromHead_7 : decode cX1_readFromHead 7 = .ok (.lconst 0, 1) := by decide +kernel
theorem dX1_readFromHead_8 : decode cX1_readFromHead 8 = .ok (.lastore, 1) := by decide +kernel
theorem dX1_readFromHead_9 : decode cX1_readFromHead 9 = .ok (.aload_n 0, 1) := by decide +kernel
theorem dX1_readFromHead_10 : decode cX1_readFromHead 10 = .ok (.iload_n 1, 1) := by decide +kernel
theorem dX1_readFromHead_11 : decode cX1_readFromHead 11 = .ok (.iconst 5, 1) := by decide +kernel
theorem dX1_readFromHead_12 : decode cX1_readFromHead 12 = .ok (.idiv, 1) := by decide +kernel
theorem dX1_readFromHead_13 : decode cX1_readFromHead 13 = .ok (.iload_n 1, 1) := by decide +kernel
theorem dX1_readFromHead_14 : decode cX1_readFromHead 14 = .ok (.iconst 5, 1) := by decide +kernel
theorem dX1_readFromHead_15 : decode cX1_readFromHead 15 = .ok (.irem, 1) := by decide +kernel
theorem dX1_readFromHead_16 : decode cX1_readFromHead 16 = .ok (.iconst 1, 1) := by decide +kernel
theorem dX1_readFromHead_17 : decode cX1_readFromHead 17 = .ok (.iadd, 1) := by decide +kernel
theorem dX1_readFromHead_18 : decode cX1_readFromHead 18 = .ok (.iload_n 1, 1) := by decide +kernel
theorem dX1_readFromHead_19 : decode cX1_readFromHead 19 = .ok (.lconst 0, 1) := by decide +kernel
theorem dX1_readFromHead_20 : decode cX1_readFromHead 20 = .ok (.invokevirtual 104, 3) := by decide +kernel
theorem dX1_readFromHead_23 : decode cX1_readFromHead 23 = .ok (.aload_n 0, 1) := by decide +kernel
theorem dX1_readFromHead_24 : decode cX1_readFromHead 24 = .ok (.iload_n 1, 1) := by decide +kernel
theorem dX1_readFromHead_25 : decode cX1_readFromHead 25 = .ok (.invokevirtual 112, 3) := by decide +kernel
theorem dX1_readFromHead_28 : decode cX1_readFromHead 28 = .ok (.return_, 1) := by decide +kernel
theorem dX1_addArcsTo_0 : decode cX1_addArcsTo 0 = .ok (.aload_n 0, 1) := by decide +kernel
theorem dX1_addArcsTo_1 : decode cX1_addArcsTo 1 = .ok (.getfield 25, 3) := by decide +kernel
theorem dX1_addArcsTo_4 : decode cX1_addArcsTo 4 = .ok (.iload_n 1, 1) := by decide +kernel
theorem dX1_addArcsTo_5 : decode cX1_addArcsTo 5 = .ok (.aaload, 1) := by decide +kernel
theorem dX1_addArcsTo_6 : decode cX1_addArcsTo 6 = .ok (.astore_n 2, 1) := by decide +kernel
theorem dX1_addArcsTo_7 : decode cX1_addArcsTo 7 = .ok (.aload_n 0, 1) := by decide +kernel
theorem dX1_addArcsTo_8 : decode cX1_addArcsTo 8 = .ok (.getfield 55, 3) := by decide +kernel
theorem dX1_addArcsTo_11 : decode cX1_addArcsTo 11 = .ok (.aload_n 2, 1) := by decide +kernel
theorem dX1_addArcsTo_12 : decode cX1_addArcsTo 12 = .ok (.invokevirtual 126, 3) := by decide +kernel
theorem dX1_addArcsTo_15 : decode cX1_addArcsTo 15 = .ok (.iconst 0, 1) := by decide +kernel
theorem dX1_addArcsTo_16 : decode cX1_addArcsTo 16 = .ok (.istore_n 3, 1) := by decide +kernel
theorem dX1_addArcsTo_17 : decode cX1_addArcsTo 17 = .ok (.iload_n 3, 1) := by decide +kernel
theorem dX1_addArcsTo_18 : decode cX1_addArcsTo 18 = .ok (.aload_n 0, 1) := by decide +kernel
theorem dX1_addArcsTo_19 : decode cX1_addArcsTo 19 = .ok (.getfield 51, 3) := by decide +kernel
theorem dX1_addArcsTo_22 : decode cX1_addArcsTo 22 = .ok (.getfield 132, 3) := by decide +kernel
theorem dX1_addArcsTo_25 : decode cX1_addArcsTo 25 = .ok (.if_icmp .ge 54, 3) := by decide +kernel
theorem dX1_addArcsTo_28 : decode cX1_addArcsTo 28 = .ok (.aload_n 2, 1) := by decide +kernel
theorem dX1_addArcsTo_29 : decode cX1_addArcsTo 29 = .ok (.aload_n 0, 1) := by decide +kernel
theorem dX1_addArcsTo_30 : decode cX1_addArcsTo 30 = .ok (.getfield 51, 3) := by decide +kernel
theorem dX1_addArcsTo_33 : decode cX1_addArcsTo 33 = .ok (.getfield 133, 3) := by decide +kernel
theorem dX1_addArcsTo_36 : decode cX1_addArcsTo 36 = .ok (.iload_n 3, 1) := by decide +kernel
theorem dX1_addArcsTo_37 : decode cX1_addArcsTo 37 = .ok (.iaload, 1) := by decide +kernel
theorem dX1_addArcsTo_38 : decode cX1_addArcsTo 38 = .ok (.laload, 1) := by decide +kernel
theorem dX1_addArcsTo_39 : decode cX1_addArcsTo 39 = .ok (.ldc2_w 65, 3) := by decide +kernel
theorem dX1_addArcsTo_42 : decode cX1_addArcsTo 42 = .ok (.lcmp, 1) := by decide +kernel
theorem dX1_addArcsTo_43 : decode cX1_addArcsTo 43 = .ok (.ifCond .ge 30, 3) := by decide +kernel
theorem dX1_addArcsTo_46 : decode cX1_addArcsTo 46 = .ok (.aload_n 0, 1) := by decide +kernel
theorem dX1_addArcsTo_47 : decode cX1_addArcsTo 47 = .ok (.iload_n 3, 1) := by decide +kernel
theorem dX1_addArcsTo_48 : decode cX1_addArcsTo 48 = .ok (.iload_n 1, 1) := by decide +kernel
theorem dX1_addArcsTo_49 : decode cX1_addArcsTo 49 = .ok (.aload_n 2, 1) := by decide +kernel
theorem dX1_addArcsTo_50 : decode cX1_addArcsTo 50 = .ok (.aload_n 0, 1) := by decide +kernel
theorem dX1_addArcsTo_51 : decode cX1_addArcsTo 51 = .ok (.getfield 51, 3) := by decide +kernel
theorem dX1_addArcsTo_54 : decode cX1_addArcsTo 54 = .ok (.getfield 133, 3) := by decide +kernel
theorem dX1_addArcsTo_57 : decode cX1_addArcsTo 57 = .ok (.iload_n 3, 1) := by decide +kernel
theorem dX1_addArcsTo_58 : decode cX1_addArcsTo 58 = .ok (.iaload, 1) := by decide +kernel
theorem dX1_addArcsTo_59 : decode cX1_addArcsTo 59 = .ok (.laload, 1) := by decide +kernel
theorem dX1_addArcsTo_60 : decode cX1_addArcsTo 60 = .ok (.aload_n 0, 1) := by decide +kernel
theorem dX1_addArcsTo_61 : decode cX1_addArcsTo 61 = .ok (.getfield 51, 3) := by decide +kernel
theorem dX1_addArcsTo_64 : decode cX1_addArcsTo 64 = .ok (.getfield 136, 3) := by decide +kernel
theorem dX1_addArcsTo_67 : decode cX1_addArcsTo 67 = .ok (.iload_n 3, 1) := by decide +kernel
theorem dX1_addArcsTo_68 : decode cX1_addArcsTo 68 = .ok (.laload, 1) := by decide +kernel
theorem dX1_addArcsTo_69 : decode cX1_addArcsTo 69 = .ok (.ladd, 1) := by decide +kernel
theorem dX1_addArcsTo_70 : decode cX1_addArcsTo 70 = .ok (.invokevirtual 139, 3) := by decide +kernel
theorem dX1_addArcsTo_73 : decode cX1_addArcsTo 73 = .ok (.iinc 3 1, 3) := by decide +kernel
theorem dX1_addArcsTo_76 : decode cX1_addArcsTo 76 = .ok (.goto (-59), 3) := by decide +kernel
theorem dX1_addArcsTo_79 : decode cX1_addArcsTo 79 = .ok (.return_, 1) := by decide +kernel
theorem dX1_addArcsBy_0 : decode cX1_addArcsBy 0 = .ok (.aload_n 0, 1) := by decide +kernel
theorem dX1_addArcsBy_1 : decode cX1_addArcsBy 1 = .ok (.getfield 51, 3) := by decide +kernel
theorem dX1_addArcsBy_4 : decode cX1_addArcsBy 4 = .ok (.getfield 143, 3) := by decide +kernel
theorem dX1_addArcsBy_7 : decode cX1_addArcsBy 7 = .ok (.iload_n 1, 1) := by decide +kernel
theorem dX1_addArcsBy_8 : decode cX1_addArcsBy 8 = .ok (.iaload, 1) := by decide +kernel
theorem dX1_addArcsBy_9 : decode cX1_addArcsBy 9 = .ok (.istore 5, 2) := by decide +kernel
theorem dX1_addArcsBy_11 : decode cX1_addArcsBy 11 = .ok (.aload_n 0, 1) := by decide +kernel
theorem dX1_addArcsBy_12 : decode cX1_addArcsBy 12 = .ok (.getfield 51, 3) := by decide +kernel
theorem dX1_addArcsBy_15 : decode cX1_addArcsBy 15 = .ok (.getfield 146, 3) := by decide +kernel
theorem dX1_addArcsBy_18 : decode cX1_addArcsBy 18 = .ok (.iload_n 1, 1) := by decide +kernel
theorem dX1_addArcsBy_19 : decode cX1_addArcsBy 19 = .ok (.iaload, 1) := by decide +kernel
theorem dX1_addArcsBy_20 : decode cX1_addArcsBy 20 = .ok (.ifCond .ne 22, 3) := by decide +kernel
theorem dX1_addArcsBy_23 : decode cX1_addArcsBy 23 = .ok (.aload_n 0, 1) := by decide +kernel
theorem dX1_addArcsBy_24 : decode cX1_addArcsBy 24 = .ok (.aload_n 0, 1) := by decide +kernel
theorem dX1_addArcsBy_25 : decode cX1_addArcsBy 25 = .ok (.getfield 51, 3) := by decide +kernel
theorem dX1_addArcsBy_28 : decode cX1_addArcsBy 28 = .ok (.getfield 149, 3) := by decide +kernel
theorem dX1_addArcsBy_31 : decode cX1_addArcsBy 31 = .ok (.iload_n 1, 1) := by decide +kernel
theorem dX1_addArcsBy_32 : decode cX1_addArcsBy 32 = .ok (.iaload, 1) := by decide +kernel
theorem dX1_addArcsBy_33 : decode cX1_addArcsBy 33 = .ok (.iconst 0, 1) := by decide +kernel
theorem dX1_addArcsBy_34 : decode cX1_addArcsBy 34 = .ok (.iload_n 2, 1) := by decide +kernel
theorem dX1_addArcsBy_35 : decode cX1_addArcsBy 35 = .ok (.lload_n 3, 1) := by decide +kernel
theorem dX1_addArcsBy_36 : decode cX1_addArcsBy 36 = .ok (.invokevirtual 104, 3) := by decide +kernel
theorem dX1_addArcsBy_39 : decode cX1_addArcsBy 39 = .ok (.goto 65, 3) := by decide +kernel
theorem dX1_addArcsBy_42 : decode cX1_addArcsBy 42 = .ok (.aload_n 0, 1) := by decide +kernel
theorem dX1_addArcsBy_43 : decode cX1_addArcsBy 43 = .ok (.getfield 51, 3) := by decide +kernel
theorem dX1_addArcsBy_46 : decode cX1_addArcsBy 46 = .ok (.getfield 146, 3) := by decide +kernel
theorem dX1_addArcsBy_49 : decode cX1_addArcsBy 49 = .ok (.iload_n 1, 1) := by decide +kernel
theorem dX1_addArcsBy_50 : decode cX1_addArcsBy 50 = .ok (.iaload, 1) := by decide +kernel
theorem dX1_addArcsBy_51 : decode cX1_addArcsBy 51 = .ok (.iconst 1, 1) := by decide +kernel
theorem dX1_addArcsBy_52 : decode cX1_addArcsBy 52 = .ok (.if_icmp .ne 27, 3) := by decide +kernel
theorem dX1_addArcsBy_55 : decode cX1_addArcsBy 55 = .ok (.aload_n 0, 1) := by decide +kernel
theorem dX1_addArcsBy_56 : decode cX1_addArcsBy 56 = .ok (.aload_n 0, 1) := by decide +kernel
theorem dX1_addArcsBy_57 : decode cX1_addArcsBy 57 = .ok (.getfield 51, 3) := by decide +kernel
theorem dX1_addArcsBy_60 : decode cX1_addArcsBy 60 = .ok (.getfield 149, 3) := by decide +kernel
theorem dX1_addArcsBy_63 : decode cX1_addArcsBy 63 = .ok (.iload_n 1, 1) := by decide +kernel
theorem dX1_addArcsBy_64 : decode cX1_addArcsBy 64 = .ok (.iaload, 1) := by decide +kernel
theorem dX1_addArcsBy_65 : decode cX1_addArcsBy 65 = .ok (.iload 5, 2) := by decide +kernel
theorem dX1_addArcsBy_67 : decode cX1_addArcsBy 67 = .ok (.iconst 5, 1) := by decide +kernel
theorem dX1_addArcsBy_68 : decode cX1_addArcsBy 68 = .ok (.irem, 1) := by decide +kernel
theorem dX1_addArcsBy_69 : decode cX1_addArcsBy 69 = .ok (.iconst 1, 1) := by decide +kernel
theorem dX1_addArcsBy_70 : decode cX1_addArcsBy 70 = .ok (.iadd, 1) := by decide +kernel
theorem dX1_addArcsBy_71 : decode cX1_addArcsBy 71 = .ok (.iload_n 2, 1) := by decide +kernel
theorem dX1_addArcsBy_72 : decode cX1_addArcsBy 72 = .ok (.lload_n 3, 1) := by decide +kernel
theorem dX1_addArcsBy_73 : decode cX1_addArcsBy 73 = .ok (.invokevirtual 104, 3) := by decide +kernel
theorem dX1_addArcsBy_76 : decode cX1_addArcsBy 76 = .ok (.goto 28, 3) := by decide +kernel
theorem dX1_addArcsBy_79 : decode cX1_addArcsBy 79 = .ok (.aload_n 0, 1) := by decide +kernel
theorem dX1_addArcsBy_80 : decode cX1_addArcsBy 80 = .ok (.iload 5, 2) := by decide +kernel
theorem dX1_addArcsBy_82 : decode cX1_addArcsBy 82 = .ok (.invokevirtual 152, 3) := by decide +kernel
theorem dX1_addArcsBy_85 : decode cX1_addArcsBy 85 = .ok (.aload_n 0, 1) := by decide +kernel
theorem dX1_addArcsBy_86 : decode cX1_addArcsBy 86 = .ok (.iconst 4, 1) := by decide +kernel
theorem dX1_addArcsBy_87 : decode cX1_addArcsBy 87 = .ok (.iload 5, 2) := by decide +kernel
theorem dX1_addArcsBy_89 : decode cX1_addArcsBy 89 = .ok (.iadd, 1) := by decide +kernel
theorem dX1_addArcsBy_90 : decode cX1_addArcsBy 90 = .ok (.aload_n 0, 1) := by decide +kernel
theorem dX1_addArcsBy_91 : decode cX1_addArcsBy 91 = .ok (.getfield 51, 3) := by decide +kernel
theorem dX1_addArcsBy_94 : decode cX1_addArcsBy 94 = .ok (.getfield 155, 3) := by decide +kernel
theorem dX1_addArcsBy_97 : decode cX1_addArcsBy 97 = .ok (.iload_n 1, 1) := by decide +kernel
theorem dX1_addArcsBy_98 : decode cX1_addArcsBy 98 = .ok (.iaload, 1) := by decide +kernel
theorem dX1_addArcsBy_99 : decode cX1_addArcsBy 99 = .ok (.iload_n 2, 1) := by decide +kernel
theorem dX1_addArcsBy_100 : decode cX1_addArcsBy 100 = .ok (.lload_n 3, 1) := by decide +kernel
theorem dX1_addArcsBy_101 : decode cX1_addArcsBy 101 = .ok (.invokevirtual 104, 3) := by decide +kernel
theorem dX1_addArcsBy_104 : decode cX1_addArcsBy 104 = .ok (.return_, 1) := by decide +kernel
theorem dX1_openHead_0 : decode cX1_openHead 0 = .ok (.aload_n 0, 1) := by decide +kernel
theorem dX1_openHead_1 : decode cX1_openHead 1 = .ok (.getfield 32, 3) := by decide +kernel
theorem dX1_openHead_4 : decode cX1_openHead 4 = .ok (.iload_n 1, 1) := by decide +kernel
theorem dX1_openHead_5 : decode cX1_openHead 5 = .ok (.baload, 1) := by decide +kernel
theorem dX1_openHead_6 : decode cX1_openHead 6 = .ok (.ifCond .ne 39, 3) := by decide +kernel
theorem dX1_openHead_9 : decode cX1_openHead 9 = .ok (.aload_n 0, 1) := by decide +kernel
theorem dX1_openHead_10 : decode cX1_openHead 10 = .ok (.getfield 39, 3) := by decide +kernel
theorem dX1_openHead_13 : decode cX1_openHead 13 = .ok (.bipush 20, 2) := by decide +kernel
theorem dX1_openHead_15 : decode cX1_openHead 15 = .ok (.if_icmp .ge 30, 3) := by decide +kernel
theorem dX1_openHead_18 : decode cX1_openHead 18 = .ok (.aload_n 0, 1) := by decide +kernel
theorem dX1_openHead_19 : decode cX1_openHead 19 = .ok (.getfield 32, 3) := by decide +kernel
theorem dX1_openHead_22 : decode cX1_openHead 22 = .ok (.iload_n 1, 1) := by decide +kernel
theorem dX1_openHead_23 : decode cX1_openHead 23 = .ok (.iconst 1, 1) := by decide +kernel
theorem dX1_openHead_24 : decode cX1_openHead 24 = .ok (.bastore, 1) := by decide +kernel
theorem dX1_openHead_25 : decode cX1_openHead 25 = .ok (.aload_n 0, 1) := by decide +kernel
theorem dX1_openHead_26 : decode cX1_openHead 26 = .ok (.getfield 36, 3) := by decide +kernel
theorem dX1_openHead_29 : decode cX1_openHead 29 = .ok (.aload_n 0, 1) := by decide +kernel
theorem dX1_openHead_30 : decode cX1_openHead 30 = .ok (.getfield 39, 3) := by decide +kernel
theorem dX1_openHead_33 : decode cX1_openHead 33 = .ok (.iload_n 1, 1) := by decide +kernel
theorem dX1_openHead_34 : decode cX1_openHead 34 = .ok (.iastore, 1) := by decide +kernel
theorem dX1_openHead_35 : decode cX1_openHead 35 = .ok (.aload_n 0, 1) := by decide +kernel
theorem dX1_openHead_36 : decode cX1_openHead 36 = .ok (.dup, 1) := by decide +kernel
theorem dX1_openHead_37 : decode cX1_openHead 37 = .ok (.getfield 39, 3) := by decide +kernel
theorem dX1_openHead_40 : decode cX1_openHead 40 = .ok (.iconst 1, 1) := by decide +kernel
theorem dX1_openHead_41 : decode cX1_openHead 41 = .ok (.iadd, 1) := by decide +kernel
theorem dX1_openHead_42 : decode cX1_openHead 42 = .ok (.putfield 39, 3) := by decide +kernel
theorem dX1_openHead_45 : decode cX1_openHead 45 = .ok (.return_, 1) := by decide +kernel
theorem dX1_keepLeast_0 : decode cX1_keepLeast 0 = .ok (.iload_n 1, 1) := by decide +kernel
theorem dX1_keepLeast_1 : decode cX1_keepLeast 1 = .ok (.bipush 6, 2) := by decide +kernel
theorem dX1_keepLeast_3 : decode cX1_keepLeast 3 = .ok (.imul, 1) := by decide +kernel
theorem dX1_keepLeast_4 : decode cX1_keepLeast 4 = .ok (.iload_n 2, 1) := by decide +kernel
theorem dX1_keepLeast_5 : decode cX1_keepLeast 5 = .ok (.iadd, 1) := by decide +kernel
theorem dX1_keepLeast_6 : decode cX1_keepLeast 6 = .ok (.bipush 24, 2) := by decide +kernel
theorem dX1_keepLeast_8 : decode cX1_keepLeast 8 = .ok (.imul, 1) := by decide +kernel
theorem dX1_keepLeast_9 : decode cX1_keepLeast 9 = .ok (.iload_n 3, 1) := by decide +kernel
theorem dX1_keepLeast_10 : decode cX1_keepLeast 10 = .ok (.iadd, 1) := by decide +kernel
theorem dX1_keepLeast_11 : decode cX1_keepLeast 11 = .ok (.istore 6, 2) := by decide +kernel
theorem dX1_keepLeast_13 : decode cX1_keepLeast 13 = .ok (.lload 4, 2) := by decide +kernel
theorem dX1_keepLeast_15 : decode cX1_keepLeast 15 = .ok (.invokestatic 158, 3) := by decide +kernel
theorem dX1_keepLeast_18 : decode cX1_keepLeast 18 = .ok (.istore 7, 2) := by decide +kernel
theorem dX1_keepLeast_20 : decode cX1_keepLeast 20 = .ok (.lload 4, 2) := by decide +kernel
theorem dX1_keepLeast_22 : decode cX1_keepLeast 22 = .ok (.ldc2_w 65, 3) := by decide +kernel
theorem dX1_keepLeast_25 : decode cX1_keepLeast 25 = .ok (.lcmp, 1) := by decide +kernel
theorem dX1_keepLeast_26 : decode cX1_keepLeast 26 = .ok (.ifCond .ge 36, 3) := by decide +kernel
theorem dX1_keepLeast_29 : decode cX1_keepLeast 29 = .ok (.aload_n 0, 1) := by decide +kernel
theorem dX1_keepLeast_30 : decode cX1_keepLeast 30 = .ok (.getfield 19, 3) := by decide +kernel
theorem dX1_keepLeast_33 : decode cX1_keepLeast 33 = .ok (.iload 6, 2) := by decide +kernel
theorem dX1_keepLeast_35 : decode cX1_keepLeast 35 = .ok (.iaload, 1) := by decide +kernel
theorem dX1_keepLeast_36 : decode cX1_keepLeast 36 = .ok (.bipush (-6), 2) := by decide +kernel
theorem dX1_keepLeast_38 : decode cX1_keepLeast 38 = .ok (.if_icmp .eq 15, 3) := by decide +kernel
theorem dX1_keepLeast_41 : decode cX1_keepLeast 41 = .ok (.iload 7, 2) := by decide +kernel
theorem dX1_keepLeast_43 : decode cX1_keepLeast 43 = .ok (.aload_n 0, 1) := by decide +kernel
theorem dX1_keepLeast_44 : decode cX1_keepLeast 44 = .ok (.getfield 19, 3) := by decide +kernel
theorem dX1_keepLeast_47 : decode cX1_keepLeast 47 = .ok (.iload 6, 2) := by decide +kernel
theorem dX1_keepLeast_49 : decode cX1_keepLeast 49 = .ok (.iaload, 1) := by decide +kernel
theorem dX1_keepLeast_50 : decode cX1_keepLeast 50 = .ok (.if_icmp .ge 12, 3) := by decide +kernel
theorem dX1_keepLeast_53 : decode cX1_keepLeast 53 = .ok (.aload_n 0, 1) := by decide +kernel
theorem dX1_keepLeast_54 : decode cX1_keepLeast 54 = .ok (.getfield 19, 3) := by decide +kernel
theorem dX1_keepLeast_57 : decode cX1_keepLeast 57 = .ok (.iload 6, 2) := by decide +kernel
theorem dX1_keepLeast_59 : decode cX1_keepLeast 59 = .ok (.iload 7, 2) := by decide +kernel
theorem dX1_keepLeast_61 : decode cX1_keepLeast 61 = .ok (.iastore, 1) := by decide +kernel
theorem dX1_keepLeast_62 : decode cX1_keepLeast 62 = .ok (.return_, 1) := by decide +kernel
theorem dX1_weightAt_0 : decode cX1_weightAt 0 = .ok (.aload_n 0, 1) := by decide +kernel
theorem dX1_weightAt_1 : decode cX1_weightAt 1 = .ok (.getfield 19, 3) := by decide +kernel
theorem dX1_weightAt_4 : decode cX1_weightAt 4 = .ok (.iload_n 1, 1) := by decide +kernel
theorem dX1_weightAt_5 : decode cX1_weightAt 5 = .ok (.bipush 6, 2) := by decide +kernel
theorem dX1_weightAt_7 : decode cX1_weightAt 7 = .ok (.imul, 1) := by decide +kernel
theorem dX1_weightAt_8 : decode cX1_weightAt 8 = .ok (.iload_n 2, 1) := by decide +kernel
theorem dX1_weightAt_9 : decode cX1_weightAt 9 = .ok (.iadd, 1) := by decide +kernel
theorem dX1_weightAt_10 : decode cX1_weightAt 10 = .ok (.bipush 24, 2) := by decide +kernel
theorem dX1_weightAt_12 : decode cX1_weightAt 12 = .ok (.imul, 1) := by decide +kernel
theorem dX1_weightAt_13 : decode cX1_weightAt 13 = .ok (.iload_n 3, 1) := by decide +kernel
theorem dX1_weightAt_14 : decode cX1_weightAt 14 = .ok (.iadd, 1) := by decide +kernel
theorem dX1_weightAt_15 : decode cX1_weightAt 15 = .ok (.iaload, 1) := by decide +kernel
theorem dX1_weightAt_16 : decode cX1_weightAt 16 = .ok (.ireturn, 1) := by decide +kernel
theorem dX1_listArcs_0 : decode cX1_listArcs 0 = .ok (.aload_n 0, 1) := by decide +kernel
theorem dX1_listArcs_1 : decode cX1_listArcs 1 = .ok (.iconst 0, 1) := by decide +kernel
theorem dX1_listArcs_2 : decode cX1_listArcs 2 = .ok (.putfield 15, 3) := by decide +kernel
theorem dX1_listArcs_5 : decode cX1_listArcs 5 = .ok (.iconst 0, 1) := by decide +kernel
theorem dX1_listArcs_6 : decode cX1_listArcs 6 = .ok (.istore_n 1, 1) := by decide +kernel
theorem dX1_listArcs_7 : decode cX1_listArcs 7 = .ok (.iconst 0, 1) := by decide +kernel
theorem dX1_listArcs_8 : decode cX1_listArcs 8 = .ok (.istore_n 2, 1) := by decide +kernel
theorem dX1_listArcs_9 : decode cX1_listArcs 9 = .ok (.iload_n 2, 1) := by decide +kernel
theorem dX1_listArcs_10 : decode cX1_listArcs 10 = .ok (.bipush 28, 2) := by decide +kernel
theorem dX1_listArcs_12 : decode cX1_listArcs 12 = .ok (.if_icmp .ge 104, 3) := by decide +kernel
theorem dX1_listArcs_15 : decode cX1_listArcs 15 = .ok (.iconst 0, 1) := by decide +kernel
theorem dX1_listArcs_16 : decode cX1_listArcs 16 = .ok (.istore_n 3, 1) := by decide +kernel
theorem dX1_listArcs_17 : decode cX1_listArcs 17 = .ok (.iload_n 3, 1) := by decide +kernel
theorem dX1_listArcs_18 : decode cX1_listArcs 18 = .ok (.bipush 6, 2) := by decide +kernel
theorem dX1_listArcs_20 : decode cX1_listArcs 20 = .ok (.if_icmp .ge 90, 3) := by decide +kernel
theorem dX1_listArcs_23 : decode cX1_listArcs 23 = .ok (.iconst 0, 1) := by decide +kernel
theorem dX1_listArcs_24 : decode cX1_listArcs 24 = .ok (.istore 4, 2) := by decide +kernel
theorem dX1_listArcs_26 : decode cX1_listArcs 26 = .ok (.iload 4, 2) := by decide +kernel
theorem dX1_listArcs_28 : decode cX1_listArcs 28 = .ok (.bipush 24, 2) := by decide +kernel
theorem dX1_listArcs_30 : decode cX1_listArcs 30 = .ok (.if_icmp .ge 74, 3) := by decide +kernel
theorem dX1_listArcs_33 : decode cX1_listArcs 33 = .ok (.aload_n 0, 1) := by decide +kernel
theorem dX1_listArcs_34 : decode cX1_listArcs 34 = .ok (.getfield 19, 3) := by decide +kernel
theorem dX1_listArcs_37 : decode cX1_listArcs 37 = .ok (.iload_n 1, 1) := by decide +kernel
theorem dX1_listArcs_38 : decode cX1_listArcs 38 = .ok (.iaload, 1) := by decide +kernel
theorem dX1_listArcs_39 : decode cX1_listArcs 39 = .ok (.bipush (-6), 2) := by decide +kernel
theorem dX1_listArcs_41 : decode cX1_listArcs 41 = .ok (.if_icmp .eq 54, 3) := by decide +kernel
theorem dX1_listArcs_44 : decode cX1_listArcs 44 = .ok (.aload_n 0, 1) := by decide +kernel
theorem dX1_listArcs_45 : decode cX1_listArcs 45 = .ok (.getfield 15, 3) := by decide +kernel
theorem dX1_listArcs_48 : decode cX1_listArcs 48 = .ok (.sipush 504, 3) := by decide +kernel
theorem dX1_listArcs_51 : decode cX1_listArcs 51 = .ok (.if_icmp .ge 44, 3) := by decide +kernel
theorem dX1_listArcs_54 : decode cX1_listArcs 54 = .ok (.aload_n 0, 1) := by decide +kernel
theorem dX1_listArcs_55 : decode cX1_listArcs 55 = .ok (.getfield 42, 3) := by decide +kernel
theorem dX1_listArcs_58 : decode cX1_listArcs 58 = .ok (.aload_n 0, 1) := by decide +kernel
theorem dX1_listArcs_59 : decode cX1_listArcs 59 = .ok (.getfield 15, 3) := by decide +kernel
theorem dX1_listArcs_62 : decode cX1_listArcs 62 = .ok (.iload_n 2, 1) := by decide +kernel
theorem dX1_listArcs_63 : decode cX1_listArcs 63 = .ok (.iastore, 1) := by decide +kernel
theorem dX1_listArcs_64 : decode cX1_listArcs 64 = .ok (.aload_n 0, 1) := by decide +kernel
theorem dX1_listArcs_65 : decode cX1_listArcs 65 = .ok (.getfield 45, 3) := by decide +kernel
theorem dX1_listArcs_68 : decode cX1_listArcs 68 = .ok (.aload_n 0, 1) := by decide +kernel
theorem dX1_listArcs_69 : decode cX1_listArcs 69 = .ok (.getfield 15, 3) := by decide +kernel
theorem dX1_listArcs_72 : decode cX1_listArcs 72 = .ok (.iload_n 3, 1) := by decide +kernel
theorem dX1_listArcs_73 : decode cX1_listArcs 73 = .ok (.iastore, 1) := by decide +kernel
theorem dX1_listArcs_74 : decode cX1_listArcs 74 = .ok (.aload_n 0, 1) := by decide +kernel
theorem dX1_listArcs_75 : decode cX1_listArcs 75 = .ok (.getfield 48, 3) := by decide +kernel
theorem dX1_listArcs_78 : decode cX1_listArcs 78 = .ok (.aload_n 0, 1) := by decide +kernel
theorem dX1_listArcs_79 : decode cX1_listArcs 79 = .ok (.getfield 15, 3) := by decide +kernel
theorem dX1_listArcs_82 : decode cX1_listArcs 82 = .ok (.iload 4, 2) := by decide +kernel
theorem dX1_listArcs_84 : decode cX1_listArcs 84 = .ok (.iastore, 1) := by decide +kernel
theorem dX1_listArcs_85 : decode cX1_listArcs 85 = .ok (.aload_n 0, 1) := by decide +kernel
theorem dX1_listArcs_86 : decode cX1_listArcs 86 = .ok (.dup, 1) := by decide +kernel
theorem dX1_listArcs_87 : decode cX1_listArcs 87 = .ok (.getfield 15, 3) := by decide +kernel
theorem dX1_listArcs_90 : decode cX1_listArcs 90 = .ok (.iconst 1, 1) := by decide +kernel
theorem dX1_listArcs_91 : decode cX1_listArcs 91 = .ok (.iadd, 1) := by decide +kernel
theorem dX1_listArcs_92 : decode cX1_listArcs 92 = .ok (.putfield 15, 3) := by decide +kernel
theorem dX1_listArcs_95 : decode cX1_listArcs 95 = .ok (.iinc 1 1, 3) := by decide +kernel
theorem dX1_listArcs_98 : decode cX1_listArcs 98 = .ok (.iinc 4 1, 3) := by decide +kernel
theorem dX1_listArcs_101 : decode cX1_listArcs 101 = .ok (.goto (-75), 3) := by decide +kernel
theorem dX1_listArcs_104 : decode cX1_listArcs 104 = .ok (.iinc 3 1, 3) := by decide +kernel
theorem dX1_listArcs_107 : decode cX1_listArcs 107 = .ok (.goto (-90), 3) := by decide +kernel
theorem dX1_listArcs_110 : decode cX1_listArcs 110 = .ok (.iinc 2 1, 3) := by decide +kernel
theorem dX1_listArcs_113 : decode cX1_listArcs 113 = .ok (.goto (-104), 3) := by decide +kernel
theorem dX1_listArcs_116 : decode cX1_listArcs 116 = .ok (.return_, 1) := by decide +kernel
theorem dX1_part_0 : decode cX1_part 0 = .ok (.iload_n 2, 1) := by decide +kernel
theorem dX1_part_1 : decode cX1_part 1 = .ok (.tableswitch 56 0 2 #[27, 37, 44], 27) := by decide +kernel
theorem dX1_part_28 : decode cX1_part 28 = .ok (.aload_n 0, 1) := by decide +kernel
theorem dX1_part_29 : decode cX1_part 29 = .ok (.getfield 42, 3) := by decide +kernel
theorem dX1_part_32 : decode cX1_part 32 = .ok (.iload_n 1, 1) := by decide +kernel
theorem dX1_part_33 : decode cX1_part 33 = .ok (.iaload, 1) := by decide +kernel
theorem dX1_part_34 : decode cX1_part 34 = .ok (.invokestatic 162, 3) := by decide +kernel
theorem dX1_part_37 : decode cX1_part 37 = .ok (.ireturn, 1) := by decide +kernel
theorem dX1_part_38 : decode cX1_part 38 = .ok (.aload_n 0, 1) := by decide +kernel
theorem dX1_part_39 : decode cX1_part 39 = .ok (.getfield 45, 3) := by decide +kernel
theorem dX1_part_42 : decode cX1_part 42 = .ok (.iload_n 1, 1) := by decide +kernel
theorem dX1_part_43 : decode cX1_part 43 = .ok (.iaload, 1) := by decide +kernel
theorem dX1_part_44 : decode cX1_part 44 = .ok (.ireturn, 1) := by decide +kernel
theorem dX1_part_45 : decode cX1_part 45 = .ok (.iconst 4, 1) := by decide +kernel
theorem dX1_part_46 : decode cX1_part 46 = .ok (.aload_n 0, 1) := by decide +kernel
theorem dX1_part_47 : decode cX1_part 47 = .ok (.getfield 48, 3) := by decide +kernel
theorem dX1_part_50 : decode cX1_part 50 = .ok (.iload_n 1, 1) := by decide +kernel
theorem dX1_part_51 : decode cX1_part 51 = .ok (.iaload, 1) := by decide +kernel
theorem dX1_part_52 : decode cX1_part 52 = .ok (.iadd, 1) := by decide +kernel
theorem dX1_part_53 : decode cX1_part 53 = .ok (.invokestatic 162, 3) := by decide +kernel
theorem dX1_part_56 : decode cX1_part 56 = .ok (.ireturn, 1) := by decide +kernel
theorem dX1_part_57 : decode cX1_part 57 = .ok (.aload_n 0, 1) := by decide +kernel
theorem dX1_part_58 : decode cX1_part 58 = .ok (.iload_n 1, 1) := by decide +kernel
theorem dX1_part_59 : decode cX1_part 59 = .ok (.invokevirtual 166, 3) := by decide +kernel
theorem dX1_part_62 : decode cX1_part 62 = .ok (.ireturn, 1) := by decide +kernel
theorem dX1_weightOfArc_0 : decode cX1_weightOfArc 0 = .ok (.aload_n 0, 1) := by decide +kernel
theorem dX1_weightOfArc_1 : decode cX1_weightOfArc 1 = .ok (.aload_n 0, 1) := by decide +kernel
theorem dX1_weightOfArc_2 : decode cX1_weightOfArc 2 = .ok (.getfield 42, 3) := by decide +kernel
theorem dX1_weightOfArc_5 : decode cX1_weightOfArc 5 = .ok (.iload_n 1, 1) := by decide +kernel
theorem dX1_weightOfArc_6 : decode cX1_weightOfArc 6 = .ok (.iaload, 1) := by decide +kernel
theorem dX1_weightOfArc_7 : decode cX1_weightOfArc 7 = .ok (.aload_n 0, 1) := by decide +kernel
theorem dX1_weightOfArc_8 : decode cX1_weightOfArc 8 = .ok (.getfield 45, 3) := by decide +kernel
theorem dX1_weightOfArc_11 : decode cX1_weightOfArc 11 = .ok (.iload_n 1, 1) := by decide +kernel
theorem dX1_weightOfArc_12 : decode cX1_weightOfArc 12 = .ok (.iaload, 1) := by decide +kernel
theorem dX1_weightOfArc_13 : decode cX1_weightOfArc 13 = .ok (.aload_n 0, 1) := by decide +kernel
theorem dX1_weightOfArc_14 : decode cX1_weightOfArc 14 = .ok (.getfield 48, 3) := by decide +kernel
theorem dX1_weightOfArc_17 : decode cX1_weightOfArc 17 = .ok (.iload_n 1, 1) := by decide +kernel
theorem dX1_weightOfArc_18 : decode cX1_weightOfArc 18 = .ok (.iaload, 1) := by decide +kernel
theorem dX1_weightOfArc_19 : decode cX1_weightOfArc 19 = .ok (.invokevirtual 118, 3) := by decide +kernel
theorem dX1_weightOfArc_22 : decode cX1_weightOfArc 22 = .ok (.ireturn, 1) := by decide +kernel
theorem dX1_costOverArc_0 : decode cX1_costOverArc 0 = .ok (.aload_n 0, 1) := by decide +kernel
theorem dX1_costOverArc_1 : decode cX1_costOverArc 1 = .ok (.iload_n 1, 1) := by decide +kernel
theorem dX1_costOverArc_2 : decode cX1_costOverArc 2 = .ok (.invokevirtual 166, 3) := by decide +kernel
theorem dX1_costOverArc_5 : decode cX1_costOverArc 5 = .ok (.invokestatic 122, 3) := by decide +kernel
theorem dX1_costOverArc_8 : decode cX1_costOverArc 8 = .ok (.lconst 1, 1) := by decide +kernel
theorem dX1_costOverArc_9 : decode cX1_costOverArc 9 = .ok (.ladd, 1) := by decide +kernel
theorem dX1_costOverArc_10 : decode cX1_costOverArc 10 = .ok (.aload_n 0, 1) := by decide +kernel
theorem dX1_costOverArc_11 : decode cX1_costOverArc 11 = .ok (.getfield 28, 3) := by decide +kernel
theorem dX1_costOverArc_14 : decode cX1_costOverArc 14 = .ok (.aload_n 0, 1) := by decide +kernel
theorem dX1_costOverArc_15 : decode cX1_costOverArc 15 = .ok (.getfield 48, 3) := by decide +kernel
theorem dX1_costOverArc_18 : decode cX1_costOverArc 18 = .ok (.iload_n 1, 1) := by decide +kernel
theorem dX1_costOverArc_19 : decode cX1_costOverArc 19 = .ok (.iaload, 1) := by decide +kernel
theorem dX1_costOverArc_20 : decode cX1_costOverArc 20 = .ok (.laload, 1) := by decide +kernel
theorem dX1_costOverArc_21 : decode cX1_costOverArc 21 = .ok (.ladd, 1) := by decide +kernel
theorem dX1_costOverArc_22 : decode cX1_costOverArc 22 = .ok (.lreturn, 1) := by decide +kernel
theorem dX1_findWaysHome_0 : decode cX1_findWaysHome 0 = .ok (.aload_n 0, 1) := by decide +kernel
theorem dX1_findWaysHome_1 : decode cX1_findWaysHome 1 = .ok (.getfield 28, 3) := by decide +kernel
theorem dX1_findWaysHome_4 : decode cX1_findWaysHome 4 = .ok (.ldc2_w 65, 3) := by decide +kernel
theorem dX1_findWaysHome_7 : decode cX1_findWaysHome 7 = .ok (.invokestatic 67, 3) := by decide +kernel
theorem dX1_findWaysHome_10 : decode cX1_findWaysHome 10 = .ok (.bipush 20, 2) := by decide +kernel
theorem dX1_findWaysHome_12 : decode cX1_findWaysHome 12 = .ok (.aload_n 0, 1) := by decide +kernel
theorem dX1_findWaysHome_13 : decode cX1_findWaysHome 13 = .ok (.getfield 51, 3) := by decide +kernel
theorem dX1_findWaysHome_16 : decode cX1_findWaysHome 16 = .ok (.getfield 83, 3) := by decide +kernel
theorem dX1_findWaysHome_19 : decode cX1_findWaysHome 19 = .ok (.getfield 89, 3) := by decide +kernel
theorem dX1_findWaysHome_22 : decode cX1_findWaysHome 22 = .ok (.iadd, 1) := by decide +kernel
theorem dX1_findWaysHome_23 : decode cX1_findWaysHome 23 = .ok (.iconst 1, 1) := by decide +kernel
theorem dX1_findWaysHome_24 : decode cX1_findWaysHome 24 = .ok (.isub, 1) := by decide +kernel
theorem dX1_findWaysHome_25 : decode cX1_findWaysHome 25 = .ok (.istore_n 1, 1) := by decide +kernel
theorem dX1_findWaysHome_26 : decode cX1_findWaysHome 26 = .ok (.iload_n 1, 1) := by decide +kernel
theorem dX1_findWaysHome_27 : decode cX1_findWaysHome 27 = .ok (.bipush 20, 2) := by decide +kernel
theorem dX1_findWaysHome_29 : decode cX1_findWaysHome 29 = .ok (.if_icmp .lt 16, 3) := by decide +kernel
theorem dX1_findWaysHome_32 : decode cX1_findWaysHome 32 = .ok (.iload_n 1, 1) := by decide +kernel
theorem dX1_findWaysHome_33 : decode cX1_findWaysHome 33 = .ok (.bipush 24, 2) := by decide +kernel
theorem dX1_findWaysHome_35 : decode cX1_findWaysHome 35 = .ok (.if_icmp .ge 10, 3) := by decide +kernel
theorem dX1_findWaysHome_38 : decode cX1_findWaysHome 38 = .ok (.aload_n 0, 1) := by decide +kernel
theorem dX1_findWaysHome_39 : decode cX1_findWaysHome 39 = .ok (.getfield 28, 3) := by decide +kernel
theorem dX1_findWaysHome_42 : decode cX1_findWaysHome 42 = .ok (.iload_n 1, 1) := by decide +kernel
theorem dX1_findWaysHome_43 : decode cX1_findWaysHome 43 = .ok (.lconst 0, 1) := by decide +kernel
theorem dX1_findWaysHome_44 : decode cX1_findWaysHome 44 = .ok (.lastore, 1) := by decide +kernel
theorem dX1_findWaysHome_45 : decode cX1_findWaysHome 45 = .ok (.iconst 1, 1) := by decide +kernel
theorem dX1_findWaysHome_46 : decode cX1_findWaysHome 46 = .ok (.istore_n 2, 1) := by decide +kernel
theorem dX1_findWaysHome_47 : decode cX1_findWaysHome 47 = .ok (.iconst 0, 1) := by decide +kernel
theorem dX1_findWaysHome_48 : decode cX1_findWaysHome 48 = .ok (.istore_n 3, 1) := by decide +kernel
theorem dX1_findWaysHome_49 : decode cX1_findWaysHome 49 = .ok (.iload_n 2, 1) := by decide +kernel
theorem dX1_findWaysHome_50 : decode cX1_findWaysHome 50 = .ok (.ifCond .eq 71, 3) := by decide +kernel
theorem dX1_findWaysHome_53 : decode cX1_findWaysHome 53 = .ok (.iload_n 3, 1) := by decide +kernel
theorem dX1_findWaysHome_54 : decode cX1_findWaysHome 54 = .ok (.bipush 24, 2) := by decide +kernel
theorem dX1_findWaysHome_56 : decode cX1_findWaysHome 56 = .ok (.if_icmp .gt 65, 3) := by decide +kernel
theorem dX1_findWaysHome_59 : decode cX1_findWaysHome 59 = .ok (.iconst 0, 1) := by decide +kernel
theorem dX1_findWaysHome_60 : decode cX1_findWaysHome 60 = .ok (.istore_n 2, 1) := by decide +kernel
theorem dX1_findWaysHome_61 : decode cX1_findWaysHome 61 = .ok (.iconst 0, 1) := by decide +kernel
theorem dX1_findWaysHome_62 : decode cX1_findWaysHome 62 = .ok (.istore 4, 2) := by decide +kernel
theorem dX1_findWaysHome_64 : decode cX1_findWaysHome 64 = .ok (.iload 4, 2) := by decide +kernel
theorem dX1_findWaysHome_66 : decode cX1_findWaysHome 66 = .ok (.aload_n 0, 1) := by decide +kernel
theorem dX1_findWaysHome_67 : decode cX1_findWaysHome 67 = .ok (.getfield 15, 3) := by decide +kernel
theorem dX1_findWaysHome_70 : decode cX1_findWaysHome 70 = .ok (.if_icmp .ge 45, 3) := by decide +kernel
theorem dX1_findWaysHome_73 : decode cX1_findWaysHome 73 = .ok (.aload_n 0, 1) := by decide +kernel
theorem dX1_findWaysHome_74 : decode cX1_findWaysHome 74 = .ok (.getfield 42, 3) := by decide +kernel
theorem dX1_findWaysHome_77 : decode cX1_findWaysHome 77 = .ok (.iload 4, 2) := by decide +kernel
theorem dX1_findWaysHome_79 : decode cX1_findWaysHome 79 = .ok (.iaload, 1) := by decide +kernel
theorem dX1_findWaysHome_80 : decode cX1_findWaysHome 80 = .ok (.iconst 4, 1) := by decide +kernel
theorem dX1_findWaysHome_81 : decode cX1_findWaysHome 81 = .ok (.isub, 1) := by decide +kernel
theorem dX1_findWaysHome_82 : decode cX1_findWaysHome 82 = .ok (.istore 5, 2) := by decide +kernel
theorem dX1_findWaysHome_84 : decode cX1_findWaysHome 84 = .ok (.iload 5, 2) := by decide +kernel
theorem dX1_findWaysHome_86 : decode cX1_findWaysHome 86 = .ok (.ifCond .lt 23, 3) := by decide +kernel
theorem dX1_findWaysHome_89 : decode cX1_findWaysHome 89 = .ok (.aload_n 0, 1) := by decide +kernel
theorem dX1_findWaysHome_90 : decode cX1_findWaysHome 90 = .ok (.getfield 28, 3) := by decide +kernel
theorem dX1_findWaysHome_93 : decode cX1_findWaysHome 93 = .ok (.iload 5, 2) := by decide +kernel
theorem dX1_findWaysHome_95 : decode cX1_findWaysHome 95 = .ok (.aload_n 0, 1) := by decide +kernel
theorem dX1_findWaysHome_96 : decode cX1_findWaysHome 96 = .ok (.iload 4, 2) := by decide +kernel
theorem dX1_findWaysHome_98 : decode cX1_findWaysHome 98 = .ok (.invokevirtual 169, 3) := by decide +kernel
theorem dX1_findWaysHome_101 : decode cX1_findWaysHome 101 = .ok (.invokestatic 172, 3) := by decide +kernel
theorem dX1_findWaysHome_104 : decode cX1_findWaysHome 104 = .ok (.ifCond .eq 5, 3) := by decide +kernel
theorem dX1_findWaysHome_107 : decode cX1_findWaysHome 107 = .ok (.iconst 1, 1) := by decide +kernel
theorem dX1_findWaysHome_108 : decode cX1_findWaysHome 108 = .ok (.istore_n 2, 1) := by decide +kernel
theorem dX1_findWaysHome_109 : decode cX1_findWaysHome 109 = .ok (.iinc 4 1, 3) := by decide +kernel
theorem dX1_findWaysHome_112 : decode cX1_findWaysHome 112 = .ok (.goto (-48), 3) := by decide +kernel
theorem dX1_findWaysHome_115 : decode cX1_findWaysHome 115 = .ok (.iinc 3 1, 3) := by decide +kernel
theorem dX1_findWaysHome_118 : decode cX1_findWaysHome 118 = .ok (.goto (-69), 3) := by decide +kernel
theorem dX1_findWaysHome_121 : decode cX1_findWaysHome 121 = .ok (.return_, 1) := by decide +kernel
theorem dX1_costThrough_0 : decode cX1_costThrough 0 = .ok (.aload_n 0, 1) := by decide +kernel
theorem dX1_costThrough_1 : decode cX1_costThrough 1 = .ok (.getfield 25, 3) := by decide +kernel
theorem dX1_costThrough_4 : decode cX1_costThrough 4 = .ok (.iload_n 1, 1) := by decide +kernel
theorem dX1_costThrough_5 : decode cX1_costThrough 5 = .ok (.aaload, 1) := by decide +kernel
theorem dX1_costThrough_6 : decode cX1_costThrough 6 = .ok (.iload_n 2, 1) := by decide +kernel
theorem dX1_costThrough_7 : decode cX1_costThrough 7 = .ok (.laload, 1) := by decide +kernel
theorem dX1_costThrough_8 : decode cX1_costThrough 8 = .ok (.lstore_n 3, 1) := by decide +kernel
theorem dX1_costThrough_9 : decode cX1_costThrough 9 = .ok (.lload_n 3, 1) := by decide +kernel
theorem dX1_costThrough_10 : decode cX1_costThrough 10 = .ok (.ldc2_w 65, 3) := by decide +kernel
theorem dX1_costThrough_13 : decode cX1_costThrough 13 = .ok (.lcmp, 1) := by decide +kernel
theorem dX1_costThrough_14 : decode cX1_costThrough 14 = .ok (.ifCond .lt 9, 3) := by decide +kernel
theorem dX1_costThrough_17 : decode cX1_costThrough 17 = .ok (.ldc2_w 65, 3) := by decide +kernel
theorem dX1_costThrough_20 : decode cX1_costThrough 20 = .ok (.goto 19, 3) := by decide +kernel
theorem dX1_costThrough_23 : decode cX1_costThrough 23 = .ok (.lload_n 3, 1) := by decide +kernel
theorem dX1_costThrough_24 : decode cX1_costThrough 24 = .ok (.invokestatic 158, 3) := by decide +kernel
theorem dX1_costThrough_27 : decode cX1_costThrough 27 = .ok (.invokestatic 122, 3) := by decide +kernel
theorem dX1_costThrough_30 : decode cX1_costThrough 30 = .ok (.lconst 1, 1) := by decide +kernel
theorem dX1_costThrough_31 : decode cX1_costThrough 31 = .ok (.ladd, 1) := by decide +kernel
theorem dX1_costThrough_32 : decode cX1_costThrough 32 = .ok (.aload_n 0, 1) := by decide +kernel
theorem dX1_costThrough_33 : decode cX1_costThrough 33 = .ok (.getfield 28, 3) := by decide +kernel
theorem dX1_costThrough_36 : decode cX1_costThrough 36 = .ok (.iload_n 1, 1) := by decide +kernel
theorem dX1_costThrough_37 : decode cX1_costThrough 37 = .ok (.laload, 1) := by decide +kernel
theorem dX1_costThrough_38 : decode cX1_costThrough 38 = .ok (.ladd, 1) := by decide +kernel
theorem dX1_costThrough_39 : decode cX1_costThrough 39 = .ok (.lreturn, 1) := by decide +kernel
theorem dX1_costOfHead_0 : decode cX1_costOfHead 0 = .ok (.ldc2_w 65, 3) := by decide +kernel
theorem dX1_costOfHead_3 : decode cX1_costOfHead 3 = .ok (.lstore_n 2, 1) := by decide +kernel
theorem dX1_costOfHead_4 : decode cX1_costOfHead 4 = .ok (.iconst 0, 1) := by decide +kernel
theorem dX1_costOfHead_5 : decode cX1_costOfHead 5 = .ok (.istore 4, 2) := by decide +kernel
theorem dX1_costOfHead_7 : decode cX1_costOfHead 7 = .ok (.iload 4, 2) := by decide +kernel
theorem dX1_costOfHead_9 : decode cX1_costOfHead 9 = .ok (.bipush 24, 2) := by decide +kernel
theorem dX1_costOfHead_11 : decode cX1_costOfHead 11 = .ok (.if_icmp .ge 21, 3) := by decide +kernel
theorem dX1_costOfHead_14 : decode cX1_costOfHead 14 = .ok (.lload_n 2, 1) := by decide +kernel
theorem dX1_costOfHead_15 : decode cX1_costOfHead 15 = .ok (.aload_n 0, 1) := by decide +kernel
theorem dX1_costOfHead_16 : decode cX1_costOfHead 16 = .ok (.iload 4, 2) := by decide +kernel
theorem dX1_costOfHead_18 : decode cX1_costOfHead 18 = .ok (.iload_n 1, 1) := by decide +kernel
theorem dX1_costOfHead_19 : decode cX1_costOfHead 19 = .ok (.invokevirtual 176, 3) := by decide +kernel
theorem dX1_costOfHead_22 : decode cX1_costOfHead 22 = .ok (.invokestatic 180, 3) := by decide +kernel
theorem dX1_costOfHead_25 : decode cX1_costOfHead 25 = .ok (.lstore_n 2, 1) := by decide +kernel
theorem dX1_costOfHead_26 : decode cX1_costOfHead 26 = .ok (.iinc 4 1, 3) := by decide +kernel
theorem dX1_costOfHead_29 : decode cX1_costOfHead 29 = .ok (.goto (-22), 3) := by decide +kernel
theorem dX1_costOfHead_32 : decode cX1_costOfHead 32 = .ok (.lload_n 2, 1) := by decide +kernel
theorem dX1_costOfHead_33 : decode cX1_costOfHead 33 = .ok (.lreturn, 1) := by decide +kernel
theorem dX1_leastStack_0 : decode cX1_leastStack 0 = .ok (.aload_n 0, 1) := by decide +kernel
theorem dX1_leastStack_1 : decode cX1_leastStack 1 = .ok (.iload_n 1, 1) := by decide +kernel
theorem dX1_leastStack_2 : decode cX1_leastStack 2 = .ok (.invokevirtual 186, 3) := by decide +kernel
theorem dX1_leastStack_5 : decode cX1_leastStack 5 = .ok (.lstore_n 3, 1) := by decide +kernel
theorem dX1_leastStack_6 : decode cX1_leastStack 6 = .ok (.lload_n 3, 1) := by decide +kernel
theorem dX1_leastStack_7 : decode cX1_leastStack 7 = .ok (.ldc2_w 65, 3) := by decide +kernel
theorem dX1_leastStack_10 : decode cX1_leastStack 10 = .ok (.lcmp, 1) := by decide +kernel
theorem dX1_leastStack_11 : decode cX1_leastStack 11 = .ok (.ifCond .ge 12, 3) := by decide +kernel
theorem dX1_leastStack_14 : decode cX1_leastStack 14 = .ok (.lload_n 3, 1) := by decide +kernel
theorem dX1_leastStack_15 : decode cX1_leastStack 15 = .ok (.invokestatic 189, 3) := by decide +kernel
theorem dX1_leastStack_18 : decode cX1_leastStack 18 = .ok (.bipush 6, 2) := by decide +kernel
theorem dX1_leastStack_20 : decode cX1_leastStack 20 = .ok (.if_icmp .le 6, 3) := by decide +kernel
theorem dX1_leastStack_23 : decode cX1_leastStack 23 = .ok (.bipush (-6), 2) := by decide +kernel
theorem dX1_leastStack_25 : decode cX1_leastStack 25 = .ok (.ireturn, 1) := by decide +kernel
theorem dX1_leastStack_26 : decode cX1_leastStack 26 = .ok (.iconst 0, 1) := by decide +kernel
theorem dX1_leastStack_27 : decode cX1_leastStack 27 = .ok (.istore 5, 2) := by decide +kernel
theorem dX1_leastStack_29 : decode cX1_leastStack 29 = .ok (.iconst 0, 1) := by decide +kernel
theorem dX1_leastStack_30 : decode cX1_leastStack 30 = .ok (.istore 6, 2) := by decide +kernel
theorem dX1_leastStack_32 : decode cX1_leastStack 32 = .ok (.iload 6, 2) := by decide +kernel
theorem dX1_leastStack_34 : decode cX1_leastStack 34 = .ok (.bipush 24, 2) := by decide +kernel
theorem dX1_leastStack_36 : decode cX1_leastStack 36 = .ok (.if_icmp .ge 30, 3) := by decide +kernel
theorem dX1_leastStack_39 : decode cX1_leastStack 39 = .ok (.aload_n 0, 1) := by decide +kernel
theorem dX1_leastStack_40 : decode cX1_leastStack 40 = .ok (.iload 6, 2) := by decide +kernel
theorem dX1_leastStack_42 : decode cX1_leastStack 42 = .ok (.iload_n 1, 1) := by decide +kernel
theorem dX1_leastStack_43 : decode cX1_leastStack 43 = .ok (.invokevirtual 176, 3) := by decide +kernel
theorem dX1_leastStack_46 : decode cX1_leastStack 46 = .ok (.lload_n 3, 1) := by decide +kernel
theorem dX1_leastStack_47 : decode cX1_leastStack 47 = .ok (.lcmp, 1) := by decide +kernel
theorem dX1_leastStack_48 : decode cX1_leastStack 48 = .ok (.ifCond .ne 12, 3) := by decide +kernel
theorem dX1_leastStack_51 : decode cX1_leastStack 51 = .ok (.iload 5, 2) := by decide +kernel
theorem dX1_leastStack_53 : decode cX1_leastStack 53 = .ok (.iconst 1, 1) := by decide +kernel
theorem dX1_leastStack_54 : decode cX1_leastStack 54 = .ok (.iload 6, 2) := by decide +kernel
theorem dX1_leastStack_56 : decode cX1_leastStack 56 = .ok (.ishl, 1) := by decide +kernel
theorem dX1_leastStack_57 : decode cX1_leastStack 57 = .ok (.ior, 1) := by decide +kernel
theorem dX1_leastStack_58 : decode cX1_leastStack 58 = .ok (.istore 5, 2) := by decide +kernel
theorem dX1_leastStack_60 : decode cX1_leastStack 60 = .ok (.iinc 6 1, 3) := by decide +kernel
theorem dX1_leastStack_63 : decode cX1_leastStack 63 = .ok (.goto (-31), 3) := by decide +kernel
theorem dX1_leastStack_66 : decode cX1_leastStack 66 = .ok (.iload_n 2, 1) := by decide +kernel
theorem dX1_leastStack_67 : decode cX1_leastStack 67 = .ok (.istore 6, 2) := by decide +kernel
theorem dX1_leastStack_69 : decode cX1_leastStack 69 = .ok (.iconst 1, 1) := by decide +kernel
theorem dX1_leastStack_70 : decode cX1_leastStack 70 = .ok (.istore 7, 2) := by decide +kernel
theorem dX1_leastStack_72 : decode cX1_leastStack 72 = .ok (.iload 7, 2) := by decide +kernel
theorem dX1_leastStack_74 : decode cX1_leastStack 74 = .ok (.lload_n 3, 1) := by decide +kernel
theorem dX1_leastStack_75 : decode cX1_leastStack 75 = .ok (.invokestatic 189, 3) := by decide +kernel
theorem dX1_leastStack_78 : decode cX1_leastStack 78 = .ok (.if_icmp .ge 37, 3) := by decide +kernel
theorem dX1_leastStack_81 : decode cX1_leastStack 81 = .ok (.aload_n 0, 1) := by decide +kernel
theorem dX1_leastStack_82 : decode cX1_leastStack 82 = .ok (.iload 5, 2) := by decide +kernel
theorem dX1_leastStack_84 : decode cX1_leastStack 84 = .ok (.invokevirtual 192, 3) := by decide +kernel
theorem dX1_leastStack_87 : decode cX1_leastStack 87 = .ok (.istore 8, 2) := by decide +kernel
theorem dX1_leastStack_89 : decode cX1_leastStack 89 = .ok (.aload_n 0, 1) := by decide +kernel
theorem dX1_leastStack_90 : decode cX1_leastStack 90 = .ok (.iload 5, 2) := by decide +kernel
theorem dX1_leastStack_92 : decode cX1_leastStack 92 = .ok (.iload 8, 2) := by decide +kernel
theorem dX1_leastStack_94 : decode cX1_leastStack 94 = .ok (.invokevirtual 195, 3) := by decide +kernel
theorem dX1_leastStack_97 : decode cX1_leastStack 97 = .ok (.istore 5, 2) := by decide +kernel
theorem dX1_leastStack_99 : decode cX1_leastStack 99 = .ok (.iload 6, 2) := by decide +kernel
theorem dX1_leastStack_101 : decode cX1_leastStack 101 = .ok (.bipush 10, 2) := by decide +kernel
theorem dX1_leastStack_103 : decode cX1_leastStack 103 = .ok (.imul, 1) := by decide +kernel
theorem dX1_leastStack_104 : decode cX1_leastStack 104 = .ok (.iload 8, 2) := by decide +kernel
theorem dX1_leastStack_106 : decode cX1_leastStack 106 = .ok (.iadd, 1) := by decide +kernel
theorem dX1_leastStack_107 : decode cX1_leastStack 107 = .ok (.istore 6, 2) := by decide +kernel
theorem dX1_leastStack_109 : decode cX1_leastStack 109 = .ok (.iinc 7 1, 3) := by decide +kernel
theorem dX1_leastStack_112 : decode cX1_leastStack 112 = .ok (.goto (-40), 3) := by decide +kernel
theorem dX1_leastStack_115 : decode cX1_leastStack 115 = .ok (.iload 6, 2) := by decide +kernel
theorem dX1_leastStack_117 : decode cX1_leastStack 117 = .ok (.ireturn, 1) := by decide +kernel
theorem dX1_isBestFrom_0 : decode cX1_isBestFrom 0 = .ok (.aload_n 0, 1) := by decide +kernel
theorem dX1_isBestFrom_1 : decode cX1_isBestFrom 1 = .ok (.getfield 42, 3) := by decide +kernel
theorem dX1_isBestFrom_4 : decode cX1_isBestFrom 4 = .ok (.iload_n 2, 1) := by decide +kernel
theorem dX1_isBestFrom_5 : decode cX1_isBestFrom 5 = .ok (.iaload, 1) := by decide +kernel
theorem dX1_isBestFrom_6 : decode cX1_isBestFrom 6 = .ok (.iconst 4, 1) := by decide +kernel
theorem dX1_isBestFrom_7 : decode cX1_isBestFrom 7 = .ok (.isub, 1) := by decide +kernel
theorem dX1_isBestFrom_8 : decode cX1_isBestFrom 8 = .ok (.istore_n 3, 1) := by decide +kernel
theorem dX1_isBestFrom_9 : decode cX1_isBestFrom 9 = .ok (.iload_n 3, 1) := by decide +kernel
theorem dX1_isBestFrom_10 : decode cX1_isBestFrom 10 = .ok (.ifCond .lt 30, 3) := by decide +kernel
theorem dX1_isBestFrom_13 : decode cX1_isBestFrom 13 = .ok (.iload_n 1, 1) := by decide +kernel
theorem dX1_isBestFrom_14 : decode cX1_isBestFrom 14 = .ok (.iload_n 3, 1) := by decide +kernel
theorem dX1_isBestFrom_15 : decode cX1_isBestFrom 15 = .ok (.ishr, 1) := by decide +kernel
theorem dX1_isBestFrom_16 : decode cX1_isBestFrom 16 = .ok (.iconst 1, 1) := by decide +kernel
theorem dX1_isBestFrom_17 : decode cX1_isBestFrom 17 = .ok (.iand, 1) := by decide +kernel
theorem dX1_isBestFrom_18 : decode cX1_isBestFrom 18 = .ok (.ifCond .eq 22, 3) := by decide +kernel
theorem dX1_isBestFrom_21 : decode cX1_isBestFrom 21 = .ok (.aload_n 0, 1) := by decide +kernel
theorem dX1_isBestFrom_22 : decode cX1_isBestFrom 22 = .ok (.iload_n 2, 1) := by decide +kernel
theorem dX1_isBestFrom_23 : decode cX1_isBestFrom 23 = .ok (.invokevirtual 169, 3) := by decide +kernel
theorem dX1_isBestFrom_26 : decode cX1_isBestFrom 26 = .ok (.aload_n 0, 1) := by decide +kernel
theorem dX1_isBestFrom_27 : decode cX1_isBestFrom 27 = .ok (.getfield 28, 3) := by decide +kernel
theorem dX1_isBestFrom_30 : decode cX1_isBestFrom 30 = .ok (.iload_n 3, 1) := by decide +kernel
theorem dX1_isBestFrom_31 : decode cX1_isBestFrom 31 = .ok (.laload, 1) := by decide +kernel
theorem dX1_isBestFrom_32 : decode cX1_isBestFrom 32 = .ok (.lcmp, 1) := by decide +kernel
theorem dX1_isBestFrom_33 : decode cX1_isBestFrom 33 = .ok (.ifCond .ne 7, 3) := by decide +kernel
theorem dX1_isBestFrom_36 : decode cX1_isBestFrom 36 = .ok (.iconst 1, 1) := by decide +kernel
theorem dX1_isBestFrom_37 : decode cX1_isBestFrom 37 = .ok (.goto 4, 3) := by decide +kernel
theorem dX1_isBestFrom_40 : decode cX1_isBestFrom 40 = .ok (.iconst 0, 1) := by decide +kernel
theorem dX1_isBestFrom_41 : decode cX1_isBestFrom 41 = .ok (.ireturn, 1) := by decide +kernel
theorem dX1_leastLabel_0 : decode cX1_leastLabel 0 = .ok (.bipush 6, 2) := by decide +kernel
theorem dX1_leastLabel_2 : decode cX1_leastLabel 2 = .ok (.istore_n 2, 1) := by decide +kernel
theorem dX1_leastLabel_3 : decode cX1_leastLabel 3 = .ok (.iconst 0, 1) := by decide +kernel
theorem dX1_leastLabel_4 : decode cX1_leastLabel 4 = .ok (.istore_n 3, 1) := by decide +kernel
theorem dX1_leastLabel_5 : decode cX1_leastLabel 5 = .ok (.iload_n 3, 1) := by decide +kernel
theorem dX1_leastLabel_6 : decode cX1_leastLabel 6 = .ok (.aload_n 0, 1) := by decide +kernel
theorem dX1_leastLabel_7 : decode cX1_leastLabel 7 = .ok (.getfield 15, 3) := by decide +kernel
theorem dX1_leastLabel_10 : decode cX1_leastLabel 10 = .ok (.if_icmp .ge 35, 3) := by decide +kernel
theorem dX1_leastLabel_13 : decode cX1_leastLabel 13 = .ok (.aload_n 0, 1) := by decide +kernel
theorem dX1_leastLabel_14 : decode cX1_leastLabel 14 = .ok (.getfield 45, 3) := by decide +kernel
theorem dX1_leastLabel_17 : decode cX1_leastLabel 17 = .ok (.iload_n 3, 1) := by decide +kernel
theorem dX1_leastLabel_18 : decode cX1_leastLabel 18 = .ok (.iaload, 1) := by decide +kernel
theorem dX1_leastLabel_19 : decode cX1_leastLabel 19 = .ok (.iload_n 2, 1) := by decide +kernel
theorem dX1_leastLabel_20 : decode cX1_leastLabel 20 = .ok (.if_icmp .ge 19, 3) := by decide +kernel
theorem dX1_leastLabel_23 : decode cX1_leastLabel 23 = .ok (.aload_n 0, 1) := by decide +kernel
theorem dX1_leastLabel_24 : decode cX1_leastLabel 24 = .ok (.iload_n 1, 1) := by decide +kernel
theorem dX1_leastLabel_25 : decode cX1_leastLabel 25 = .ok (.iload_n 3, 1) := by decide +kernel
theorem dX1_leastLabel_26 : decode cX1_leastLabel 26 = .ok (.invokevirtual 198, 3) := by decide +kernel
theorem dX1_leastLabel_29 : decode cX1_leastLabel 29 = .ok (.ifCond .eq 10, 3) := by decide +kernel
theorem dX1_leastLabel_32 : decode cX1_leastLabel 32 = .ok (.aload_n 0, 1) := by decide +kernel
theorem dX1_leastLabel_33 : decode cX1_leastLabel 33 = .ok (.getfield 45, 3) := by decide +kernel
theorem dX1_leastLabel_36 : decode cX1_leastLabel 36 = .ok (.iload_n 3, 1) := by decide +kernel
theorem dX1_leastLabel_37 : decode cX1_leastLabel 37 = .ok (.iaload, 1) := by decide +kernel
theorem dX1_leastLabel_38 : decode cX1_leastLabel 38 = .ok (.istore_n 2, 1) := by decide +kernel
theorem dX1_leastLabel_39 : decode cX1_leastLabel 39 = .ok (.iinc 3 1, 3) := by decide +kernel
theorem dX1_leastLabel_42 : decode cX1_leastLabel 42 = .ok (.goto (-37), 3) := by decide +kernel
theorem dX1_leastLabel_45 : decode cX1_leastLabel 45 = .ok (.iload_n 2, 1) := by decide +kernel
theorem dX1_leastLabel_46 : decode cX1_leastLabel 46 = .ok (.ireturn, 1) := by decide +kernel
theorem dX1_endsAfter_0 : decode cX1_endsAfter 0 = .ok (.iconst 0, 1) := by decide +kernel
theorem dX1_endsAfter_1 : decode cX1_endsAfter 1 = .ok (.istore_n 3, 1) := by decide +kernel
theorem dX1_endsAfter_2 : decode cX1_endsAfter 2 = .ok (.iconst 0, 1) := by decide +kernel
theorem dX1_endsAfter_3 : decode cX1_endsAfter 3 = .ok (.istore 4, 2) := by decide +kernel
theorem dX1_endsAfter_5 : decode cX1_endsAfter 5 = .ok (.iload 4, 2) := by decide +kernel
theorem dX1_endsAfter_7 : decode cX1_endsAfter 7 = .ok (.aload_n 0, 1) := by decide +kernel
theorem dX1_endsAfter_8 : decode cX1_endsAfter 8 = .ok (.getfield 15, 3) := by decide +kernel
theorem dX1_endsAfter_11 : decode cX1_endsAfter 11 = .ok (.if_icmp .ge 42, 3) := by decide +kernel
theorem dX1_endsAfter_14 : decode cX1_endsAfter 14 = .ok (.aload_n 0, 1) := by decide +kernel
theorem dX1_endsAfter_15 : decode cX1_endsAfter 15 = .ok (.getfield 45, 3) := by decide +kernel
theorem dX1_endsAfter_18 : decode cX1_endsAfter 18 = .ok (.iload 4, 2) := by decide +kernel
theorem dX1_endsAfter_20 : decode cX1_endsAfter 20 = .ok (.iaload, 1) := by decide +kernel
theorem dX1_endsAfter_21 : decode cX1_endsAfter 21 = .ok (.iload_n 2, 1) := by decide +kernel
theorem dX1_endsAfter_22 : decode cX1_endsAfter 22 = .ok (.if_icmp .ne 25, 3) := by decide +kernel
theorem dX1_endsAfter_25 : decode cX1_endsAfter 25 = .ok (.aload_n 0, 1) := by decide +kernel
theorem dX1_endsAfter_26 : decode cX1_endsAfter 26 = .ok (.iload_n 1, 1) := by decide +kernel
theorem dX1_endsAfter_27 : decode cX1_endsAfter 27 = .ok (.iload 4, 2) := by decide +kernel
theorem dX1_endsAfter_29 : decode cX1_endsAfter 29 = .ok (.invokevirtual 198, 3) := by decide +kernel
theorem dX1_endsAfter_32 : decode cX1_endsAfter 32 = .ok (.ifCond .eq 15, 3) := by decide +kernel
theorem dX1_endsAfter_35 : decode cX1_endsAfter 35 = .ok (.iload_n 3, 1) := by decide +kernel
theorem dX1_endsAfter_36 : decode cX1_endsAfter 36 = .ok (.iconst 1, 1) := by decide +kernel
theorem dX1_endsAfter_37 : decode cX1_endsAfter 37 = .ok (.aload_n 0, 1) := by decide +kernel
theorem dX1_endsAfter_38 : decode cX1_endsAfter 38 = .ok (.getfield 48, 3) := by decide +kernel
theorem dX1_endsAfter_41 : decode cX1_endsAfter 41 = .ok (.iload 4, 2) := by decide +kernel
theorem dX1_endsAfter_43 : decode cX1_endsAfter 43 = .ok (.iaload, 1) := by decide +kernel
theorem dX1_endsAfter_44 : decode cX1_endsAfter 44 = .ok (.ishl, 1) := by decide +kernel
theorem dX1_endsAfter_45 : decode cX1_endsAfter 45 = .ok (.ior, 1) := by decide +kernel
theorem dX1_endsAfter_46 : decode cX1_endsAfter 46 = .ok (.istore_n 3, 1) := by decide +kernel
theorem dX1_endsAfter_47 : decode cX1_endsAfter 47 = .ok (.iinc 4 1, 3) := by decide +kernel
theorem dX1_endsAfter_50 : decode cX1_endsAfter 50 = .ok (.goto (-45), 3) := by decide +kernel
theorem dX1_endsAfter_53 : decode cX1_endsAfter 53 = .ok (.iload_n 3, 1) := by decide +kernel
theorem dX1_endsAfter_54 : decode cX1_endsAfter 54 = .ok (.ireturn, 1) := by decide +kernel
theorem dX2_init_0 : decode cX2_init 0 = .ok (.aload_n 0, 1) := by decide +kernel
theorem dX2_init_1 : decode cX2_init 1 = .ok (.invokespecial 3, 3) := by decide +kernel
theorem dX2_init_4 : decode cX2_init 4 = .ok (.aload_n 0, 1) := by decide +kernel
theorem dX2_init_5 : decode cX2_init 5 = .ok (.iconst 0, 1) := by decide +kernel
theorem dX2_init_6 : decode cX2_init 6 = .ok (.putfield 9, 3) := by decide +kernel
theorem dX2_init_9 : decode cX2_init 9 = .ok (.aload_n 0, 1) := by decide +kernel
theorem dX2_init_10 : decode cX2_init 10 = .ok (.iconst 0, 1) := by decide +kernel
theorem dX2_init_11 : decode cX2_init 11 = .ok (.putfield 15, 3) := by decide +kernel
theorem dX2_init_14 : decode cX2_init 14 = .ok (.aload_n 0, 1) := by decide +kernel
theorem dX2_init_15 : decode cX2_init 15 = .ok (.iconst 0, 1) := by decide +kernel
theorem dX2_init_16 : decode cX2_init 16 = .ok (.putfield 18, 3) := by decide +kernel
theorem dX2_init_19 : decode cX2_init 19 = .ok (.aload_n 0, 1) := by decide +kernel
theorem dX2_init_20 : decode cX2_init 20 = .ok (.new 21, 3) := by decide +kernel
theorem dX2_init_23 : decode cX2_init 23 = .ok (.dup, 1) := by decide +kernel
theorem dX2_init_24 : decode cX2_init 24 = .ok (.invokespecial 23, 3) := by decide +kernel
theorem dX2_init_27 : decode cX2_init 27 = .ok (.putfield 24, 3) := by decide +kernel
theorem dX2_init_30 : decode cX2_init 30 = .ok (.aload_n 0, 1) := by decide +kernel
theorem dX2_init_31 : decode cX2_init 31 = .ok (.bipush 20, 2) := by decide +kernel
theorem dX2_init_33 : decode cX2_init 33 = .ok (.newarray .int, 2) := by decide +kernel
theorem dX2_init_35 : decode cX2_init 35 = .ok (.putfield 28, 3) := by decide +kernel
theorem dX2_init_38 : decode cX2_init 38 = .ok (.aload_n 0, 1) := by decide +kernel
theorem dX2_init_39 : decode cX2_init 39 = .ok (.bipush 20, 2) := by decide +kernel
theorem dX2_init_41 : decode cX2_init 41 = .ok (.newarray .int, 2) := by decide +kernel
theorem dX2_init_43 : decode cX2_init 43 = .ok (.putfield 32, 3) := by decide +kernel
theorem dX2_init_46 : decode cX2_init 46 = .ok (.aload_n 0, 1) := by decide +kernel
theorem dX2_init_47 : decode cX2_init 47 = .ok (.bipush 20, 2) := by decide +kernel
theorem dX2_init_49 : decode cX2_init 49 = .ok (.newarray .int, 2) := by decide +kernel
theorem dX2_init_51 : decode cX2_init 51 = .ok (.putfield 35, 3) := by decide +kernel
theorem dX2_init_54 : decode cX2_init 54 = .ok (.aload_n 0, 1) := by decide +kernel
theorem dX2_init_55 : decode cX2_init 55 = .ok (.bipush 20, 2) := by decide +kernel
theorem dX2_init_57 : decode cX2_init 57 = .ok (.newarray .int, 2) := by decide +kernel
theorem dX2_init_59 : decode cX2_init 59 = .ok (.putfield 38, 3) := by decide +kernel
theorem dX2_init_62 : decode cX2_init 62 = .ok (.aload_n 0, 1) := by decide +kernel
theorem dX2_init_63 : decode cX2_init 63 = .ok (.bipush 20, 2) := by decide +kernel
theorem dX2_init_65 : decode cX2_init 65 = .ok (.newarray .int, 2) := by decide +kernel
theorem dX2_init_67 : decode cX2_init 67 = .ok (.putfield 41, 3) := by decide +kernel
theorem dX2_init_70 : decode cX2_init 70 = .ok (.aload_n 0, 1) := by decide +kernel
theorem dX2_init_71 : decode cX2_init 71 = .ok (.bipush 20, 2) := by decide +kernel
theorem dX2_init_73 : decode cX2_init 73 = .ok (.newarray .long, 2) := by decide +kernel
theorem dX2_init_75 : decode cX2_init 75 = .ok (.putfield 44, 3) := by decide +kernel
theorem dX2_init_78 : decode cX2_init 78 = .ok (.return_, 1) := by decide +kernel
theorem dX2_takeFrom_0 : decode cX2_takeFrom 0 = .ok (.aload_n 0, 1) := by decide +kernel
theorem dX2_takeFrom_1 : decode cX2_takeFrom 1 = .ok (.aload_n 1, 1) := by decide +kernel
theorem dX2_takeFrom_2 : decode cX2_takeFrom 2 = .ok (.getfield 48, 3) := by decide +kernel
theorem dX2_takeFrom_5 : decode cX2_takeFrom 5 = .ok (.putfield 9, 3) := by decide +kernel
theorem dX2_takeFrom_8 : decode cX2_takeFrom 8 = .ok (.aload_n 0, 1) := by decide +kernel
theorem dX2_takeFrom_9 : decode cX2_takeFrom 9 = .ok (.aload_n 1, 1) := by decide +kernel
theorem dX2_takeFrom_10 : decode cX2_takeFrom 10 = .ok (.getfield 51, 3) := by decide +kernel
theorem dX2_takeFrom_13 : decode cX2_takeFrom 13 = .ok (.putfield 15, 3) := by decide +kernel
theorem dX2_takeFrom_16 : decode cX2_takeFrom 16 = .ok (.aload_n 0, 1) := by decide +kernel
theorem dX2_takeFrom_17 : decode cX2_takeFrom 17 = .ok (.aload_n 1, 1) := by decide +kernel
theorem dX2_takeFrom_18 : decode cX2_takeFrom 18 = .ok (.getfield 52, 3) := by decide +kernel
theorem dX2_takeFrom_21 : decode cX2_takeFrom 21 = .ok (.putfield 18, 3) := by decide +kernel
theorem dX2_takeFrom_24 : decode cX2_takeFrom 24 = .ok (.aload_n 0, 1) := by decide +kernel
theorem dX2_takeFrom_25 : decode cX2_takeFrom 25 = .ok (.getfield 24, 3) := by decide +kernel
theorem dX2_takeFrom_28 : decode cX2_takeFrom 28 = .ok (.aload_n 1, 1) := by decide +kernel
theorem dX2_takeFrom_29 : decode cX2_takeFrom 29 = .ok (.getfield 53, 3) := by decide +kernel
theorem dX2_takeFrom_32 : decode cX2_takeFrom 32 = .ok (.aload_n 1, 1) := by decide +kernel
theorem dX2_takeFrom_33 : decode cX2_takeFrom 33 = .ok (.getfield 56, 3) := by decide +kernel
theorem dX2_takeFrom_36 : decode cX2_takeFrom 36 = .ok (.invokevirtual 59, 3) := by decide +kernel
theorem dX2_takeFrom_39 : decode cX2_takeFrom 39 = .ok (.pop, 1) := by decide +kernel
theorem dX2_takeFrom_40 : decode cX2_takeFrom 40 = .ok (.iconst 0, 1) := by decide +kernel
theorem dX2_takeFrom_41 : decode cX2_takeFrom 41 = .ok (.istore_n 2, 1) := by decide +kernel
theorem dX2_takeFrom_42 : decode cX2_takeFrom 42 = .ok (.iload_n 2, 1) := by decide +kernel
theorem dX2_takeFrom_43 : decode cX2_takeFrom 43 = .ok (.aload_n 0, 1) := by decide +kernel
theorem dX2_takeFrom_44 : decode cX2_takeFrom 44 = .ok (.getfield 15, 3) := by decide +kernel
theorem dX2_takeFrom_47 : decode cX2_takeFrom 47 = .ok (.if_icmp .ge 15, 3) := by decide +kernel
theorem dX2_takeFrom_50 : decode cX2_takeFrom 50 = .ok (.aload_n 0, 1) := by decide +kernel
theorem dX2_takeFrom_51 : decode cX2_takeFrom 51 = .ok (.aload_n 1, 1) := by decide +kernel
theorem dX2_takeFrom_52 : decode cX2_takeFrom 52 = .ok (.iload_n 2, 1) := by decide +kernel
theorem dX2_takeFrom_53 : decode cX2_takeFrom 53 = .ok (.invokevirtual 63, 3) := by decide +kernel
theorem dX2_takeFrom_56 : decode cX2_takeFrom 56 = .ok (.iinc 2 1, 3) := by decide +kernel
theorem dX2_takeFrom_59 : decode cX2_takeFrom 59 = .ok (.goto (-17), 3) := by decide +kernel
theorem dX2_takeFrom_62 : decode cX2_takeFrom 62 = .ok (.return_, 1) := by decide +kernel
theorem dX2_takeRule_0 : decode cX2_takeRule 0 = .ok (.aload_n 1, 1) := by decide +kernel
theorem dX2_takeRule_1 : decode cX2_takeRule 1 = .ok (.iload_n 2, 1) := by decide +kernel
theorem dX2_takeRule_2 : decode cX2_takeRule 2 = .ok (.iconst 3, 1) := by decide +kernel
theorem dX2_takeRule_3 : decode cX2_takeRule 3 = .ok (.invokevirtual 67, 3) := by decide +kernel
theorem dX2_takeRule_6 : decode cX2_takeRule 6 = .ok (.istore_n 3, 1) := by decide +kernel
theorem dX2_takeRule_7 : decode cX2_takeRule 7 = .ok (.aload_n 0, 1) := by decide +kernel
theorem dX2_takeRule_8 : decode cX2_takeRule 8 = .ok (.getfield 28, 3) := by decide +kernel
theorem dX2_takeRule_11 : decode cX2_takeRule 11 = .ok (.iload_n 2, 1) := by decide +kernel
theorem dX2_takeRule_12 : decode cX2_takeRule 12 = .ok (.aload_n 1, 1) := by decide +kernel
theorem dX2_takeRule_13 : decode cX2_takeRule 13 = .ok (.iload_n 2, 1) := by decide +kernel
theorem dX2_takeRule_14 : decode cX2_takeRule 14 = .ok (.iconst 0, 1) := by decide +kernel
theorem dX2_takeRule_15 : decode cX2_takeRule 15 = .ok (.invokevirtual 67, 3) := by decide +kernel
theorem dX2_takeRule_18 : decode cX2_takeRule 18 = .ok (.aload_n 1, 1) := by decide +kernel
theorem dX2_takeRule_19 : decode cX2_takeRule 19 = .ok (.iload_n 2, 1) := by decide +kernel
theorem dX2_takeRule_20 : decode cX2_takeRule 20 = .ok (.iconst 1, 1) := by decide +kernel
theorem dX2_takeRule_21 : decode cX2_takeRule 21 = .ok (.invokevirtual 67, 3) := by decide +kernel
theorem dX2_takeRule_24 : decode cX2_takeRule 24 = .ok (.invokestatic 71, 3) := by decide +kernel
theorem dX2_takeRule_27 : decode cX2_takeRule 27 = .ok (.iastore, 1) := by decide +kernel
theorem dX2_takeRule_28 : decode cX2_takeRule 28 = .ok (.aload_n 0, 1) := by decide +kernel
theorem dX2_takeRule_29 : decode cX2_takeRule 29 = .ok (.getfield 32, 3) := by decide +kernel
theorem dX2_takeRule_32 : decode cX2_takeRule 32 = .ok (.iload_n 2, 1) := by decide +kernel
theorem dX2_takeRule_33 : decode cX2_takeRule 33 = .ok (.aload_n 1, 1) := by decide +kernel
theorem dX2_takeRule_34 : decode cX2_takeRule 34 = .ok (.iload_n 2, 1) := by decide +kernel
theorem dX2_takeRule_35 : decode cX2_takeRule 35 = .ok (.iconst 2, 1) := by decide +kernel
theorem dX2_takeRule_36 : decode cX2_takeRule 36 = .ok (.invokevirtual 67, 3) := by decide +kernel
theorem dX2_takeRule_39 : decode cX2_takeRule 39 = .ok (.iastore, 1) := by decide +kernel
theorem dX2_takeRule_40 : decode cX2_takeRule 40 = .ok (.aload_n 0, 1) := by decide +kernel
theorem dX2_takeRule_41 : decode cX2_takeRule 41 = .ok (.getfield 35, 3) := by decide +kernel
theorem dX2_takeRule_44 : decode cX2_takeRule 44 = .ok (.iload_n 2, 1) := by decide +kernel
theorem dX2_takeRule_45 : decode cX2_takeRule 45 = .ok (.iload_n 3, 1) := by decide +kernel
theorem dX2_takeRule_46 : decode cX2_takeRule 46 = .ok (.invokestatic 74, 3) := by decide +kernel
theorem dX2_takeRule_49 : decode cX2_takeRule 49 = .ok (.iastore, 1) := by decide +kernel
theorem dX2_takeRule_50 : decode cX2_takeRule 50 = .ok (.aload_n 0, 1) := by decide +kernel
theorem dX2_takeRule_51 : decode cX2_takeRule 51 = .ok (.getfield 38, 3) := by decide +kernel
theorem dX2_takeRule_54 : decode cX2_takeRule 54 = .ok (.iload_n 2, 1) := by decide +kernel
theorem dX2_takeRule_55 : decode cX2_takeRule 55 = .ok (.aload_n 0, 1) := by decide +kernel
theorem dX2_takeRule_56 : decode cX2_takeRule 56 = .ok (.getfield 35, 3) := by decide +kernel
theorem dX2_takeRule_59 : decode cX2_takeRule 59 = .ok (.iload_n 2, 1) := by decide +kernel
theorem dX2_takeRule_60 : decode cX2_takeRule 60 = .ok (.iaload, 1) := by decide +kernel
theorem dX2_takeRule_61 : decode cX2_takeRule 61 = .ok (.ifCond .ne 7, 3) := by decide +kernel
theorem dX2_takeRule_64 : decode cX2_takeRule 64 = .ok (.iconst 0, 1) := by decide +kernel
theorem dX2_takeRule_65 : decode cX2_takeRule 65 = .ok (.goto 30, 3) := by decide +kernel
theorem dX2_takeRule_68 : decode cX2_takeRule 68 = .ok (.aload_n 0, 1) := by decide +kernel
theorem dX2_takeRule_69 : decode cX2_takeRule 69 = .ok (.getfield 32, 3) := by decide +kernel
theorem dX2_takeRule_72 : decode cX2_takeRule 72 = .ok (.iload_n 2, 1) := by decide +kernel
theorem dX2_takeRule_73 : decode cX2_takeRule 73 = .ok (.iaload, 1) := by decide +kernel
theorem dX2_takeRule_74 : decode cX2_takeRule 74 = .ok (.aload_n 0, 1) := by decide +kernel
theorem dX2_takeRule_75 : decode cX2_takeRule 75 = .ok (.getfield 35, 3) := by decide +kernel
theorem dX2_takeRule_78 : decode cX2_takeRule 78 = .ok (.iload_n 2, 1) := by decide +kernel
theorem dX2_takeRule_79 : decode cX2_takeRule 79 = .ok (.iaload, 1) := by decide +kernel
theorem dX2_takeRule_80 : decode cX2_takeRule 80 = .ok (.iconst 1, 1) := by decide +kernel
theorem dX2_takeRule_81 : decode cX2_takeRule 81 = .ok (.if_icmp .ne 7, 3) := by decide +kernel
theorem dX2_takeRule_84 : decode cX2_takeRule 84 = .ok (.iload_n 3, 1) := by decide +kernel
theorem dX2_takeRule_85 : decode cX2_takeRule 85 = .ok (.goto 7, 3) := by decide +kernel
theorem dX2_takeRule_88 : decode cX2_takeRule 88 = .ok (.iload_n 3, 1) := by decide +kernel
theorem dX2_takeRule_89 : decode cX2_takeRule 89 = .ok (.bipush 10, 2) := by decide +kernel
theorem dX2_takeRule_91 : decode cX2_takeRule 91 = .ok (.idiv, 1) := by decide +kernel
theorem dX2_takeRule_92 : decode cX2_takeRule 92 = .ok (.invokestatic 71, 3) := by decide +kernel
theorem dX2_takeRule_95 : decode cX2_takeRule 95 = .ok (.iastore, 1) := by decide +kernel
theorem dX2_takeRule_96 : decode cX2_takeRule 96 = .ok (.aload_n 0, 1) := by decide +kernel
theorem dX2_takeRule_97 : decode cX2_takeRule 97 = .ok (.getfield 41, 3) := by decide +kernel
theorem dX2_takeRule_100 : decode cX2_takeRule 100 = .ok (.iload_n 2, 1) := by decide +kernel
theorem dX2_takeRule_101 : decode cX2_takeRule 101 = .ok (.aload_n 0, 1) := by decide +kernel
theorem dX2_takeRule_102 : decode cX2_takeRule 102 = .ok (.getfield 35, 3) := by decide +kernel
theorem dX2_takeRule_105 : decode cX2_takeRule 105 = .ok (.iload_n 2, 1) := by decide +kernel
theorem dX2_takeRule_106 : decode cX2_takeRule 106 = .ok (.iaload, 1) := by decide +kernel
theorem dX2_takeRule_107 : decode cX2_takeRule 107 = .ok (.iconst 2, 1) := by decide +kernel
theorem dX2_takeRule_108 : decode cX2_takeRule 108 = .ok (.if_icmp .ne 10, 3) := by decide +kernel
theorem dX2_takeRule_111 : decode cX2_takeRule 111 = .ok (.iload_n 3, 1) := by decide +kernel
theorem dX2_takeRule_112 : decode cX2_takeRule 112 = .ok (.bipush 10, 2) := by decide +kernel
theorem dX2_takeRule_114 : decode cX2_takeRule 114 = .ok (.irem, 1) := by decide +kernel
theorem dX2_takeRule_115 : decode cX2_takeRule 115 = .ok (.goto 4, 3) := by decide +kernel
theorem dX2_takeRule_118 : decode cX2_takeRule 118 = .ok (.iconst 0, 1) := by decide +kernel
theorem dX2_takeRule_119 : decode cX2_takeRule 119 = .ok (.iastore, 1) := by decide +kernel
theorem dX2_takeRule_120 : decode cX2_takeRule 120 = .ok (.aload_n 0, 1) := by decide +kernel
theorem dX2_takeRule_121 : decode cX2_takeRule 121 = .ok (.getfield 44, 3) := by decide +kernel
theorem dX2_takeRule_124 : decode cX2_takeRule 124 = .ok (.iload_n 2, 1) := by decide +kernel
theorem dX2_takeRule_125 : decode cX2_takeRule 125 = .ok (.aload_n 1, 1) := by decide +kernel
theorem dX2_takeRule_126 : decode cX2_takeRule 126 = .ok (.iload_n 2, 1) := by decide +kernel
theorem dX2_takeRule_127 : decode cX2_takeRule 127 = .ok (.iconst 4, 1) := by decide +kernel
theorem dX2_takeRule_128 : decode cX2_takeRule 128 = .ok (.invokevirtual 67, 3) := by decide +kernel
theorem dX2_takeRule_131 : decode cX2_takeRule 131 = .ok (.invokestatic 78, 3) := by decide +kernel
theorem dX2_takeRule_134 : decode cX2_takeRule 134 = .ok (.lconst 1, 1) := by decide +kernel
theorem dX2_takeRule_135 : decode cX2_takeRule 135 = .ok (.ladd, 1) := by decide +kernel
theorem dX2_takeRule_136 : decode cX2_takeRule 136 = .ok (.lastore, 1) := by decide +kernel
theorem dX2_takeRule_137 : decode cX2_takeRule 137 = .ok (.return_, 1) := by decide +kernel
theorem dX3_init_0 : decode cX3_init 0 = .ok (.aload_n 0, 1) := by decide +kernel
theorem dX3_init_1 : decode cX3_init 1 = .ok (.invokespecial 3, 3) := by decide +kernel
theorem dX3_init_4 : decode cX3_init 4 = .ok (.aload_n 0, 1) := by decide +kernel
theorem dX3_init_5 : decode cX3_init 5 = .ok (.ldc2_w 9, 3) := by decide +kernel
theorem dX3_init_8 : decode cX3_init 8 = .ok (.putfield 11, 3) := by decide +kernel
theorem dX3_init_11 : decode cX3_init 11 = .ok (.aload_n 0, 1) := by decide +kernel
theorem dX3_init_12 : decode cX3_init 12 = .ok (.iconst 0, 1) := by decide +kernel
theorem dX3_init_13 : decode cX3_init 13 = .ok (.putfield 17, 3) := by decide +kernel
theorem dX3_init_16 : decode cX3_init 16 = .ok (.aload_n 0, 1) := by decide +kernel
theorem dX3_init_17 : decode cX3_init 17 = .ok (.iconst 0, 1) := by decide +kernel
theorem dX3_init_18 : decode cX3_init 18 = .ok (.putfield 21, 3) := by decide +kernel
theorem dX3_init_21 : decode cX3_init 21 = .ok (.aload_n 0, 1) := by decide +kernel
theorem dX3_init_22 : decode cX3_init 22 = .ok (.iconst 0, 1) := by decide +kernel
theorem dX3_init_23 : decode cX3_init 23 = .ok (.putfield 25, 3) := by decide +kernel
theorem dX3_init_26 : decode cX3_init 26 = .ok (.aload_n 0, 1) := by decide +kernel
theorem dX3_init_27 : decode cX3_init 27 = .ok (.iconst 0, 1) := by decide +kernel
theorem dX3_init_28 : decode cX3_init 28 = .ok (.putfield 28, 3) := by decide +kernel
theorem dX3_init_31 : decode cX3_init 31 = .ok (.aload_n 0, 1) := by decide +kernel
theorem dX3_init_32 : decode cX3_init 32 = .ok (.bipush 6, 2) := by decide +kernel
theorem dX3_init_34 : decode cX3_init 34 = .ok (.newarray .int, 2) := by decide +kernel
theorem dX3_init_36 : decode cX3_init 36 = .ok (.putfield 31, 3) := by decide +kernel
theorem dX3_init_39 : decode cX3_init 39 = .ok (.aload_n 0, 1) := by decide +kernel
theorem dX3_init_40 : decode cX3_init 40 = .ok (.bipush 6, 2) := by decide +kernel
theorem dX3_init_42 : decode cX3_init 42 = .ok (.bipush 20, 2) := by decide +kernel
theorem dX3_init_44 : decode cX3_init 44 = .ok (.multianewarray 35 2, 4) := by decide +kernel
theorem dX3_init_48 : decode cX3_init 48 = .ok (.putfield 37, 3) := by decide +kernel
theorem dX3_init_51 : decode cX3_init 51 = .ok (.aload_n 0, 1) := by decide +kernel
theorem dX3_init_52 : decode cX3_init 52 = .ok (.aload_n 1, 1) := by decide +kernel
theorem dX3_init_53 : decode cX3_init 53 = .ok (.putfield 40, 3) := by decide +kernel
theorem dX3_init_56 : decode cX3_init 56 = .ok (.aload_n 0, 1) := by decide +kernel
theorem dX3_init_57 : decode cX3_init 57 = .ok (.aload_n 2, 1) := by decide +kernel
theorem dX3_init_58 : decode cX3_init 58 = .ok (.putfield 44, 3) := by decide +kernel
theorem dX3_init_61 : decode cX3_init 61 = .ok (.aload_n 0, 1) := by decide +kernel
theorem dX3_init_62 : decode cX3_init 62 = .ok (.iload_n 3, 1) := by decide +kernel
theorem dX3_init_63 : decode cX3_init 63 = .ok (.bipush 6, 2) := by decide +kernel
theorem dX3_init_65 : decode cX3_init 65 = .ok (.if_icmp .ge 8, 3) := by decide +kernel
theorem dX3_init_68 : decode cX3_init 68 = .ok (.bipush 6, 2) := by decide +kernel
theorem dX3_init_70 : decode cX3_init 70 = .ok (.goto 4, 3) := by decide +kernel
theorem dX3_init_73 : decode cX3_init 73 = .ok (.iload_n 3, 1) := by decide +kernel
theorem dX3_init_74 : decode cX3_init 74 = .ok (.putfield 48, 3) := by decide +kernel
theorem dX3_init_77 : decode cX3_init 77 = .ok (.aload_n 0, 1) := by decide +kernel
theorem dX3_init_78 : decode cX3_init 78 = .ok (.aload_n 0, 1) := by decide +kernel
theorem dX3_init_79 : decode cX3_init 79 = .ok (.getfield 48, 3) := by decide +kernel
theorem dX3_init_82 : decode cX3_init 82 = .ok (.newarray .int, 2) := by decide +kernel
theorem dX3_init_84 : decode cX3_init 84 = .ok (.putfield 51, 3) := by decide +kernel
theorem dX3_init_87 : decode cX3_init 87 = .ok (.aload_n 0, 1) := by decide +kernel
theorem dX3_init_88 : decode cX3_init 88 = .ok (.aload_n 0, 1) := by decide +kernel
theorem dX3_init_89 : decode cX3_init 89 = .ok (.getfield 48, 3) := by decide +kernel
theorem dX3_init_92 : decode cX3_init 92 = .ok (.iconst 1, 1) := by decide +kernel
theorem dX3_init_93 : decode cX3_init 93 = .ok (.iadd, 1) := by decide +kernel
theorem dX3_init_94 : decode cX3_init 94 = .ok (.iconst 4, 1) := by decide +kernel
theorem dX3_init_95 : decode cX3_init 95 = .ok (.imul, 1) := by decide +kernel
theorem dX3_init_96 : decode cX3_init 96 = .ok (.newarray .long, 2) := by decide +kernel
theorem dX3_init_98 : decode cX3_init 98 = .ok (.putfield 54, 3) := by decide +kernel
theorem dX3_init_101 : decode cX3_init 101 = .ok (.aload_n 0, 1) := by decide +kernel
theorem dX3_init_102 : decode cX3_init 102 = .ok (.aload_n 0, 1) := by decide +kernel
theorem dX3_init_103 : decode cX3_init 103 = .ok (.getfield 48, 3) := by decide +kernel
theorem dX3_init_106 : decode cX3_init 106 = .ok (.iconst 1, 1) := by decide +kernel
theorem dX3_init_107 : decode cX3_init 107 = .ok (.iadd, 1) := by decide +kernel
theorem dX3_init_108 : decode cX3_init 108 = .ok (.newarray .boolean, 2) := by decide +kernel
theorem dX3_init_110 : decode cX3_init 110 = .ok (.putfield 58, 3) := by decide +kernel
theorem dX3_init_113 : decode cX3_init 113 = .ok (.return_, 1) := by decide +kernel
theorem dX3_isAimedAt_0 : decode cX3_isAimedAt 0 = .ok (.aload_n 0, 1) := by decide +kernel
theorem dX3_isAimedAt_1 : decode cX3_isAimedAt 1 = .ok (.getfield 21, 3) := by decide +kernel
theorem dX3_isAimedAt_4 : decode cX3_isAimedAt 4 = .ok (.ifCond .eq 22, 3) := by decide +kernel
theorem dX3_isAimedAt_7 : decode cX3_isAimedAt 7 = .ok (.iload_n 1, 1) := by decide +kernel
theorem dX3_isAimedAt_8 : decode cX3_isAimedAt 8 = .ok (.aload_n 0, 1) := by decide +kernel
theorem dX3_isAimedAt_9 : decode cX3_isAimedAt 9 = .ok (.getfield 25, 3) := by decide +kernel
theorem dX3_isAimedAt_12 : decode cX3_isAimedAt 12 = .ok (.if_icmp .ne 14, 3) := by decide +kernel
theorem dX3_isAimedAt_15 : decode cX3_isAimedAt 15 = .ok (.aload_n 2, 1) := by decide +kernel
theorem dX3_isAimedAt_16 : decode cX3_isAimedAt 16 = .ok (.getfield 62, 3) := by decide +kernel
theorem dX3_isAimedAt_19 : decode cX3_isAimedAt 19 = .ok (.aload_n 0, 1) := by decide +kernel
theorem dX3_isAimedAt_20 : decode cX3_isAimedAt 20 = .ok (.getfield 28, 3) := by decide +kernel
theorem dX3_isAimedAt_23 : decode cX3_isAimedAt 23 = .ok (.if_icmp .eq 5, 3) := by decide +kernel
theorem dX3_isAimedAt_26 : decode cX3_isAimedAt 26 = .ok (.iconst 0, 1) := by decide +kernel
theorem dX3_isAimedAt_27 : decode cX3_isAimedAt 27 = .ok (.ireturn, 1) := by decide +kernel
theorem dX3_isAimedAt_28 : decode cX3_isAimedAt 28 = .ok (.iconst 0, 1) := by decide +kernel
theorem dX3_isAimedAt_29 : decode cX3_isAimedAt 29 = .ok (.istore_n 3, 1) := by decide +kernel
theorem dX3_isAimedAt_30 : decode cX3_isAimedAt 30 = .ok (.iload_n 3, 1) := by decide +kernel
theorem dX3_isAimedAt_31 : decode cX3_isAimedAt 31 = .ok (.aload_n 0, 1) := by decide +kernel
theorem dX3_isAimedAt_32 : decode cX3_isAimedAt 32 = .ok (.getfield 28, 3) := by decide +kernel
theorem dX3_isAimedAt_35 : decode cX3_isAimedAt 35 = .ok (.if_icmp .ge 26, 3) := by decide +kernel
theorem dX3_isAimedAt_38 : decode cX3_isAimedAt 38 = .ok (.aload_n 0, 1) := by decide +kernel
theorem dX3_isAimedAt_39 : decode cX3_isAimedAt 39 = .ok (.getfield 31, 3) := by decide +kernel
theorem dX3_isAimedAt_42 : decode cX3_isAimedAt 42 = .ok (.iload_n 3, 1) := by decide +kernel
theorem dX3_isAimedAt_43 : decode cX3_isAimedAt 43 = .ok (.iaload, 1) := by decide +kernel
theorem dX3_isAimedAt_44 : decode cX3_isAimedAt 44 = .ok (.aload_n 2, 1) := by decide +kernel
theorem dX3_isAimedAt_45 : decode cX3_isAimedAt 45 = .ok (.getfield 67, 3) := by decide +kernel
theorem dX3_isAimedAt_48 : decode cX3_isAimedAt 48 = .ok (.iload_n 3, 1) := by decide +kernel
theorem dX3_isAimedAt_49 : decode cX3_isAimedAt 49 = .ok (.iaload, 1) := by decide +kernel
theorem dX3_isAimedAt_50 : decode cX3_isAimedAt 50 = .ok (.if_icmp .eq 5, 3) := by decide +kernel
theorem dX3_isAimedAt_53 : decode cX3_isAimedAt 53 = .ok (.iconst 0, 1) := by decide +kernel
theorem dX3_isAimedAt_54 : decode cX3_isAimedAt 54 = .ok (.ireturn, 1) := by decide +kernel
theorem dX3_isAimedAt_55 : decode cX3_isAimedAt 55 = .ok (.iinc 3 1, 3) := by decide +kernel
theorem dX3_isAimedAt_58 : decode cX3_isAimedAt 58 = .ok (.goto (-28), 3) := by decide +kernel
theorem dX3_isAimedAt_61 : decode cX3_isAimedAt 61 = .ok (.iconst 1, 1) := by decide +kernel
theorem dX3_isAimedAt_62 : decode cX3_isAimedAt 62 = .ok (.ireturn, 1) := by decide +kernel
theorem dX3_forgetAim_0 : decode cX3_forgetAim 0 = .ok (.aload_n 0, 1) := by decide +kernel
theorem dX3_forgetAim_1 : decode cX3_forgetAim 1 = .ok (.iconst 0, 1) := by decide +kernel
theorem dX3_forgetAim_2 : decode cX3_forgetAim 2 = .ok (.putfield 21, 3) := by decide +kernel
theorem dX3_forgetAim_5 : decode cX3_forgetAim 5 = .ok (.return_, 1) := by decide +kernel
theorem dX3_aimAt_0 : decode cX3_aimAt 0 = .ok (.aload_n 0, 1) := by decide +kernel
theorem dX3_aimAt_1 : decode cX3_aimAt 1 = .ok (.iconst 1, 1) := by decide +kernel
theorem dX3_aimAt_2 : decode cX3_aimAt 2 = .ok (.putfield 21, 3) := by decide +kernel
theorem dX3_aimAt_5 : decode cX3_aimAt 5 = .ok (.aload_n 0, 1) := by decide +kernel
theorem dX3_aimAt_6 : decode cX3_aimAt 6 = .ok (.iload_n 1, 1) := by decide +kernel
theorem dX3_aimAt_7 : decode cX3_aimAt 7 = .ok (.putfield 25, 3) := by decide +kernel
theorem dX3_aimAt_10 : decode cX3_aimAt 10 = .ok (.aload_n 0, 1) := by decide +kernel
theorem dX3_aimAt_11 : decode cX3_aimAt 11 = .ok (.aload_n 2, 1) := by decide +kernel
theorem dX3_aimAt_12 : decode cX3_aimAt 12 = .ok (.getfield 62, 3) := by decide +kernel
theorem dX3_aimAt_15 : decode cX3_aimAt 15 = .ok (.bipush 6, 2) := by decide +kernel
theorem dX3_aimAt_17 : decode cX3_aimAt 17 = .ok (.invokestatic 70, 3) := by decide +kernel
theorem dX3_aimAt_20 : decode cX3_aimAt 20 = .ok (.putfield 28, 3) := by decide +kernel
theorem dX3_aimAt_23 : decode cX3_aimAt 23 = .ok (.iconst 0, 1) := by decide +kernel
theorem dX3_aimAt_24 : decode cX3_aimAt 24 = .ok (.istore_n 3, 1) := by decide +kernel
theorem dX3_aimAt_25 : decode cX3_aimAt 25 = .ok (.iload_n 3, 1) := by decide +kernel
theorem dX3_aimAt_26 : decode cX3_aimAt 26 = .ok (.aload_n 0, 1) := by decide +kernel
theorem dX3_aimAt_27 : decode cX3_aimAt 27 = .ok (.getfield 28, 3) := by decide +kernel
theorem dX3_aimAt_30 : decode cX3_aimAt 30 = .ok (.if_icmp .ge 26, 3) := by decide +kernel
theorem dX3_aimAt_33 : decode cX3_aimAt 33 = .ok (.aload_n 0, 1) := by decide +kernel
theorem dX3_aimAt_34 : decode cX3_aimAt 34 = .ok (.getfield 31, 3) := by decide +kernel
theorem dX3_aimAt_37 : decode cX3_aimAt 37 = .ok (.iload_n 3, 1) := by decide +kernel
theorem dX3_aimAt_38 : decode cX3_aimAt 38 = .ok (.aload_n 2, 1) := by decide +kernel
theorem dX3_aimAt_39 : decode cX3_aimAt 39 = .ok (.getfield 67, 3) := by decide +kernel
theorem dX3_aimAt_42 : decode cX3_aimAt 42 = .ok (.iload_n 3, 1) := by decide +kernel
theorem dX3_aimAt_43 : decode cX3_aimAt 43 = .ok (.iaload, 1) := by decide +kernel
theorem dX3_aimAt_44 : decode cX3_aimAt 44 = .ok (.iastore, 1) := by decide +kernel
theorem dX3_aimAt_45 : decode cX3_aimAt 45 = .ok (.aload_n 0, 1) := by decide +kernel
theorem dX3_aimAt_46 : decode cX3_aimAt 46 = .ok (.iload_n 3, 1) := by decide +kernel
theorem dX3_aimAt_47 : decode cX3_aimAt 47 = .ok (.invokevirtual 76, 3) := by decide +kernel
theorem dX3_aimAt_50 : decode cX3_aimAt 50 = .ok (.iinc 3 1, 3) := by decide +kernel
theorem dX3_aimAt_53 : decode cX3_aimAt 53 = .ok (.goto (-28), 3) := by decide +kernel
theorem dX3_aimAt_56 : decode cX3_aimAt 56 = .ok (.return_, 1) := by decide +kernel
theorem dX3_fillLevel_0 : decode cX3_fillLevel 0 = .ok (.aload_n 0, 1) := by decide +kernel
theorem dX3_fillLevel_1 : decode cX3_fillLevel 1 = .ok (.getfield 37, 3) := by decide +kernel
theorem dX3_fillLevel_4 : decode cX3_fillLevel 4 = .ok (.iload_n 1, 1) := by decide +kernel
theorem dX3_fillLevel_5 : decode cX3_fillLevel 5 = .ok (.aaload, 1) := by decide +kernel
theorem dX3_fillLevel_6 : decode cX3_fillLevel 6 = .ok (.ldc2_w 9, 3) := by decide +kernel
theorem dX3_fillLevel_9 : decode cX3_fillLevel 9 = .ok (.invokestatic 80, 3) := by decide +kernel
theorem dX3_fillLevel_12 : decode cX3_fillLevel 12 = .ok (.iload_n 1, 1) := by decide +kernel
theorem dX3_fillLevel_13 : decode cX3_fillLevel 13 = .ok (.ifCond .ne 27, 3) := by decide +kernel
theorem dX3_fillLevel_16 : decode cX3_fillLevel 16 = .ok (.aload_n 0, 1) := by decide +kernel
theorem dX3_fillLevel_17 : decode cX3_fillLevel 17 = .ok (.getfield 37, 3) := by decide +kernel
theorem dX3_fillLevel_20 : decode cX3_fillLevel 20 = .ok (.iconst 0, 1) := by decide +kernel
theorem dX3_fillLevel_21 : decode cX3_fillLevel 21 = .ok (.aaload, 1) := by decide +kernel
theorem dX3_fillLevel_22 : decode cX3_fillLevel 22 = .ok (.aload_n 0, 1) := by decide +kernel
theorem dX3_fillLevel_23 : decode cX3_fillLevel 23 = .ok (.getfield 25, 3) := by decide +kernel
theorem dX3_fillLevel_26 : decode cX3_fillLevel 26 = .ok (.aload_n 0, 1) := by decide +kernel
theorem dX3_fillLevel_27 : decode cX3_fillLevel 27 = .ok (.getfield 31, 3) := by decide +kernel
theorem dX3_fillLevel_30 : decode cX3_fillLevel 30 = .ok (.iconst 0, 1) := by decide +kernel
theorem dX3_fillLevel_31 : decode cX3_fillLevel 31 = .ok (.iaload, 1) := by decide +kernel
theorem dX3_fillLevel_32 : decode cX3_fillLevel 32 = .ok (.invokestatic 86, 3) := by decide +kernel
theorem dX3_fillLevel_35 : decode cX3_fillLevel 35 = .ok (.lconst 0, 1) := by decide +kernel
theorem dX3_fillLevel_36 : decode cX3_fillLevel 36 = .ok (.lastore, 1) := by decide +kernel
theorem dX3_fillLevel_37 : decode cX3_fillLevel 37 = .ok (.goto 8, 3) := by decide +kernel
theorem dX3_fillLevel_40 : decode cX3_fillLevel 40 = .ok (.aload_n 0, 1) := by decide +kernel
theorem dX3_fillLevel_41 : decode cX3_fillLevel 41 = .ok (.iload_n 1, 1) := by decide +kernel
theorem dX3_fillLevel_42 : decode cX3_fillLevel 42 = .ok (.invokevirtual 89, 3) := by decide +kernel
theorem dX3_fillLevel_45 : decode cX3_fillLevel 45 = .ok (.aload_n 0, 1) := by decide +kernel
theorem dX3_fillLevel_46 : decode cX3_fillLevel 46 = .ok (.getfield 44, 3) := by decide +kernel
theorem dX3_fillLevel_49 : decode cX3_fillLevel 49 = .ok (.aload_n 0, 1) := by decide +kernel
theorem dX3_fillLevel_50 : decode cX3_fillLevel 50 = .ok (.getfield 37, 3) := by decide +kernel
theorem dX3_fillLevel_53 : decode cX3_fillLevel 53 = .ok (.iload_n 1, 1) := by decide +kernel
theorem dX3_fillLevel_54 : decode cX3_fillLevel 54 = .ok (.aaload, 1) := by decide +kernel
theorem dX3_fillLevel_55 : decode cX3_fillLevel 55 = .ok (.invokevirtual 92, 3) := by decide +kernel
theorem dX3_fillLevel_58 : decode cX3_fillLevel 58 = .ok (.return_, 1) := by decide +kernel
theorem dX3_pushOnto_0 : decode cX3_pushOnto 0 = .ok (.iconst 0, 1) := by decide +kernel
theorem dX3_pushOnto_1 : decode cX3_pushOnto 1 = .ok (.istore_n 2, 1) := by decide +kernel
theorem dX3_pushOnto_2 : decode cX3_pushOnto 2 = .ok (.iload_n 2, 1) := by decide +kernel
theorem dX3_pushOnto_3 : decode cX3_pushOnto 3 = .ok (.aload_n 0, 1) := by decide +kernel
theorem dX3_pushOnto_4 : decode cX3_pushOnto 4 = .ok (.getfield 40, 3) := by decide +kernel
theorem dX3_pushOnto_7 : decode cX3_pushOnto 7 = .ok (.getfield 98, 3) := by decide +kernel
theorem dX3_pushOnto_10 : decode cX3_pushOnto 10 = .ok (.if_icmp .ge 98, 3) := by decide +kernel
theorem dX3_pushOnto_13 : decode cX3_pushOnto 13 = .ok (.iload_n 2, 1) := by decide +kernel
theorem dX3_pushOnto_14 : decode cX3_pushOnto 14 = .ok (.aload_n 0, 1) := by decide +kernel
theorem dX3_pushOnto_15 : decode cX3_pushOnto 15 = .ok (.getfield 44, 3) := by decide +kernel
theorem dX3_pushOnto_18 : decode cX3_pushOnto 18 = .ok (.getfield 103, 3) := by decide +kernel
theorem dX3_pushOnto_21 : decode cX3_pushOnto 21 = .ok (.if_icmp .eq 81, 3) := by decide +kernel
theorem dX3_pushOnto_24 : decode cX3_pushOnto 24 = .ok (.aload_n 0, 1) := by decide +kernel
theorem dX3_pushOnto_25 : decode cX3_pushOnto 25 = .ok (.getfield 40, 3) := by decide +kernel
theorem dX3_pushOnto_28 : decode cX3_pushOnto 28 = .ok (.getfield 106, 3) := by decide +kernel
theorem dX3_pushOnto_31 : decode cX3_pushOnto 31 = .ok (.iload_n 2, 1) := by decide +kernel
theorem dX3_pushOnto_32 : decode cX3_pushOnto 32 = .ok (.iaload, 1) := by decide +kernel
theorem dX3_pushOnto_33 : decode cX3_pushOnto 33 = .ok (.iconst 2, 1) := by decide +kernel
theorem dX3_pushOnto_34 : decode cX3_pushOnto 34 = .ok (.if_icmp .ne 68, 3) := by decide +kernel
theorem dX3_pushOnto_37 : decode cX3_pushOnto 37 = .ok (.aload_n 0, 1) := by decide +kernel
theorem dX3_pushOnto_38 : decode cX3_pushOnto 38 = .ok (.getfield 40, 3) := by decide +kernel
theorem dX3_pushOnto_41 : decode cX3_pushOnto 41 = .ok (.getfield 109, 3) := by decide +kernel
theorem dX3_pushOnto_44 : decode cX3_pushOnto 44 = .ok (.iload_n 2, 1) := by decide +kernel
theorem dX3_pushOnto_45 : decode cX3_pushOnto 45 = .ok (.iaload, 1) := by decide +kernel
theorem dX3_pushOnto_46 : decode cX3_pushOnto 46 = .ok (.aload_n 0, 1) := by decide +kernel
theorem dX3_pushOnto_47 : decode cX3_pushOnto 47 = .ok (.getfield 31, 3) := by decide +kernel
theorem dX3_pushOnto_50 : decode cX3_pushOnto 50 = .ok (.iload_n 1, 1) := by decide +kernel
theorem dX3_pushOnto_51 : decode cX3_pushOnto 51 = .ok (.iaload, 1) := by decide +kernel
theorem dX3_pushOnto_52 : decode cX3_pushOnto 52 = .ok (.if_icmp .ne 50, 3) := by decide +kernel
theorem dX3_pushOnto_55 : decode cX3_pushOnto 55 = .ok (.aload_n 0, 1) := by decide +kernel
theorem dX3_pushOnto_56 : decode cX3_pushOnto 56 = .ok (.getfield 37, 3) := by decide +kernel
theorem dX3_pushOnto_59 : decode cX3_pushOnto 59 = .ok (.iload_n 1, 1) := by decide +kernel
theorem dX3_pushOnto_60 : decode cX3_pushOnto 60 = .ok (.aaload, 1) := by decide +kernel
theorem dX3_pushOnto_61 : decode cX3_pushOnto 61 = .ok (.aload_n 0, 1) := by decide +kernel
theorem dX3_pushOnto_62 : decode cX3_pushOnto 62 = .ok (.getfield 40, 3) := by decide +kernel
theorem dX3_pushOnto_65 : decode cX3_pushOnto 65 = .ok (.getfield 112, 3) := by decide +kernel
theorem dX3_pushOnto_68 : decode cX3_pushOnto 68 = .ok (.iload_n 2, 1) := by decide +kernel
theorem dX3_pushOnto_69 : decode cX3_pushOnto 69 = .ok (.iaload, 1) := by decide +kernel
theorem dX3_pushOnto_70 : decode cX3_pushOnto 70 = .ok (.aload_n 0, 1) := by decide +kernel
theorem dX3_pushOnto_71 : decode cX3_pushOnto 71 = .ok (.getfield 40, 3) := by decide +kernel
theorem dX3_pushOnto_74 : decode cX3_pushOnto 74 = .ok (.getfield 115, 3) := by decide +kernel
theorem dX3_pushOnto_77 : decode cX3_pushOnto 77 = .ok (.iload_n 2, 1) := by decide +kernel
theorem dX3_pushOnto_78 : decode cX3_pushOnto 78 = .ok (.laload, 1) := by decide +kernel
theorem dX3_pushOnto_79 : decode cX3_pushOnto 79 = .ok (.aload_n 0, 1) := by decide +kernel
theorem dX3_pushOnto_80 : decode cX3_pushOnto 80 = .ok (.getfield 37, 3) := by decide +kernel
theorem dX3_pushOnto_83 : decode cX3_pushOnto 83 = .ok (.iload_n 1, 1) := by decide +kernel
theorem dX3_pushOnto_84 : decode cX3_pushOnto 84 = .ok (.iconst 1, 1) := by decide +kernel
theorem dX3_pushOnto_85 : decode cX3_pushOnto 85 = .ok (.isub, 1) := by decide +kernel
theorem dX3_pushOnto_86 : decode cX3_pushOnto 86 = .ok (.aaload, 1) := by decide +kernel
theorem dX3_pushOnto_87 : decode cX3_pushOnto 87 = .ok (.aload_n 0, 1) := by decide +kernel
theorem dX3_pushOnto_88 : decode cX3_pushOnto 88 = .ok (.getfield 40, 3) := by decide +kernel
theorem dX3_pushOnto_91 : decode cX3_pushOnto 91 = .ok (.getfield 118, 3) := by decide +kernel
theorem dX3_pushOnto_94 : decode cX3_pushOnto 94 = .ok (.iload_n 2, 1) := by decide +kernel
theorem dX3_pushOnto_95 : decode cX3_pushOnto 95 = .ok (.iaload, 1) := by decide +kernel
theorem dX3_pushOnto_96 : decode cX3_pushOnto 96 = .ok (.laload, 1) := by decide +kernel
theorem dX3_pushOnto_97 : decode cX3_pushOnto 97 = .ok (.ladd, 1) := by decide +kernel
theorem dX3_pushOnto_98 : decode cX3_pushOnto 98 = .ok (.invokestatic 121, 3) := by decide +kernel
theorem dX3_pushOnto_101 : decode cX3_pushOnto 101 = .ok (.pop, 1) := by decide +kernel
theorem dX3_pushOnto_102 : decode cX3_pushOnto 102 = .ok (.iinc 2 1, 3) := by decide +kernel
theorem dX3_pushOnto_105 : decode cX3_pushOnto 105 = .ok (.goto (-103), 3) := by decide +kernel
theorem dX3_pushOnto_108 : decode cX3_pushOnto 108 = .ok (.return_, 1) := by decide +kernel
theorem dX3_costFrom_0 : decode cX3_costFrom 0 = .ok (.aload_n 0, 1) := by decide +kernel
theorem dX3_costFrom_1 : decode cX3_costFrom 1 = .ok (.iconst 0, 1) := by decide +kernel
theorem dX3_costFrom_2 : decode cX3_costFrom 2 = .ok (.putfield 17, 3) := by decide +kernel
theorem dX3_costFrom_5 : decode cX3_costFrom 5 = .ok (.aload_n 0, 1) := by decide +kernel
theorem dX3_costFrom_6 : decode cX3_costFrom 6 = .ok (.getfield 58, 3) := by decide +kernel
theorem dX3_costFrom_9 : decode cX3_costFrom 9 = .ok (.iconst 0, 1) := by decide +kernel
theorem dX3_costFrom_10 : decode cX3_costFrom 10 = .ok (.iconst 1, 1) := by decide +kernel
theorem dX3_costFrom_11 : decode cX3_costFrom 11 = .ok (.bastore, 1) := by decide +kernel
theorem dX3_costFrom_12 : decode cX3_costFrom 12 = .ok (.iconst 0, 1) := by decide +kernel
theorem dX3_costFrom_13 : decode cX3_costFrom 13 = .ok (.istore_n 3, 1) := by decide +kernel
theorem dX3_costFrom_14 : decode cX3_costFrom 14 = .ok (.iload_n 3, 1) := by decide +kernel
theorem dX3_costFrom_15 : decode cX3_costFrom 15 = .ok (.iconst 4, 1) := by decide +kernel
theorem dX3_costFrom_16 : decode cX3_costFrom 16 = .ok (.if_icmp .ge 37, 3) := by decide +kernel
theorem dX3_costFrom_19 : decode cX3_costFrom 19 = .ok (.aload_n 0, 1) := by decide +kernel
theorem dX3_costFrom_20 : decode cX3_costFrom 20 = .ok (.getfield 54, 3) := by decide +kernel
theorem dX3_costFrom_23 : decode cX3_costFrom 23 = .ok (.iload_n 3, 1) := by decide +kernel
theorem dX3_costFrom_24 : decode cX3_costFrom 24 = .ok (.aload_n 0, 1) := by decide +kernel
theorem dX3_costFrom_25 : decode cX3_costFrom 25 = .ok (.getfield 28, 3) := by decide +kernel
theorem dX3_costFrom_28 : decode cX3_costFrom 28 = .ok (.ifCond .ne 15, 3) := by decide +kernel
theorem dX3_costFrom_31 : decode cX3_costFrom 31 = .ok (.iload_n 3, 1) := by decide +kernel
theorem dX3_costFrom_32 : decode cX3_costFrom 32 = .ok (.aload_n 0, 1) := by decide +kernel
theorem dX3_costFrom_33 : decode cX3_costFrom 33 = .ok (.getfield 25, 3) := by decide +kernel
theorem dX3_costFrom_36 : decode cX3_costFrom 36 = .ok (.if_icmp .ne 7, 3) := by decide +kernel
theorem dX3_costFrom_39 : decode cX3_costFrom 39 = .ok (.lconst 0, 1) := by decide +kernel
theorem dX3_costFrom_40 : decode cX3_costFrom 40 = .ok (.goto 6, 3) := by decide +kernel
theorem dX3_costFrom_43 : decode cX3_costFrom 43 = .ok (.ldc2_w 9, 3) := by decide +kernel
theorem dX3_costFrom_46 : decode cX3_costFrom 46 = .ok (.lastore, 1) := by decide +kernel
theorem dX3_costFrom_47 : decode cX3_costFrom 47 = .ok (.iinc 3 1, 3) := by decide +kernel
theorem dX3_costFrom_50 : decode cX3_costFrom 50 = .ok (.goto (-36), 3) := by decide +kernel
theorem dX3_costFrom_53 : decode cX3_costFrom 53 = .ok (.aload_n 2, 1) := by decide +kernel
theorem dX3_costFrom_54 : decode cX3_costFrom 54 = .ok (.getfield 62, 3) := by decide +kernel
theorem dX3_costFrom_57 : decode cX3_costFrom 57 = .ok (.iconst 1, 1) := by decide +kernel
theorem dX3_costFrom_58 : decode cX3_costFrom 58 = .ok (.isub, 1) := by decide +kernel
theorem dX3_costFrom_59 : decode cX3_costFrom 59 = .ok (.istore_n 3, 1) := by decide +kernel
theorem dX3_costFrom_60 : decode cX3_costFrom 60 = .ok (.iload_n 3, 1) := by decide +kernel
theorem dX3_costFrom_61 : decode cX3_costFrom 61 = .ok (.ifCond .lt 19, 3) := by decide +kernel
theorem dX3_costFrom_64 : decode cX3_costFrom 64 = .ok (.aload_n 0, 1) := by decide +kernel
theorem dX3_costFrom_65 : decode cX3_costFrom 65 = .ok (.aload_n 2, 1) := by decide +kernel
theorem dX3_costFrom_66 : decode cX3_costFrom 66 = .ok (.getfield 67, 3) := by decide +kernel
theorem dX3_costFrom_69 : decode cX3_costFrom 69 = .ok (.iload_n 3, 1) := by decide +kernel
theorem dX3_costFrom_70 : decode cX3_costFrom 70 = .ok (.iaload, 1) := by decide +kernel
theorem dX3_costFrom_71 : decode cX3_costFrom 71 = .ok (.invokevirtual 125, 3) := by decide +kernel
theorem dX3_costFrom_74 : decode cX3_costFrom 74 = .ok (.iinc 3 (-1), 3) := by decide +kernel
theorem dX3_costFrom_77 : decode cX3_costFrom 77 = .ok (.goto (-17), 3) := by decide +kernel
theorem dX3_costFrom_80 : decode cX3_costFrom 80 = .ok (.aload_n 0, 1) := by decide +kernel
theorem dX3_costFrom_81 : decode cX3_costFrom 81 = .ok (.aload_n 0, 1) := by decide +kernel
theorem dX3_costFrom_82 : decode cX3_costFrom 82 = .ok (.getfield 54, 3) := by decide +kernel
theorem dX3_costFrom_85 : decode cX3_costFrom 85 = .ok (.aload_n 0, 1) := by decide +kernel
theorem dX3_costFrom_86 : decode cX3_costFrom 86 = .ok (.getfield 17, 3) := by decide +kernel
theorem dX3_costFrom_89 : decode cX3_costFrom 89 = .ok (.iconst 4, 1) := by decide +kernel
theorem dX3_costFrom_90 : decode cX3_costFrom 90 = .ok (.imul, 1) := by decide +kernel
theorem dX3_costFrom_91 : decode cX3_costFrom 91 = .ok (.iload_n 1, 1) := by decide +kernel
theorem dX3_costFrom_92 : decode cX3_costFrom 92 = .ok (.iadd, 1) := by decide +kernel
theorem dX3_costFrom_93 : decode cX3_costFrom 93 = .ok (.laload, 1) := by decide +kernel
theorem dX3_costFrom_94 : decode cX3_costFrom 94 = .ok (.putfield 11, 3) := by decide +kernel
theorem dX3_costFrom_97 : decode cX3_costFrom 97 = .ok (.aload_n 0, 1) := by decide +kernel
theorem dX3_costFrom_98 : decode cX3_costFrom 98 = .ok (.getfield 11, 3) := by decide +kernel
theorem dX3_costFrom_101 : decode cX3_costFrom 101 = .ok (.lreturn, 1) := by decide +kernel
theorem dX3_top_0 : decode cX3_top 0 = .ok (.aload_n 0, 1) := by decide +kernel
theorem dX3_top_1 : decode cX3_top 1 = .ok (.getfield 17, 3) := by decide +kernel
theorem dX3_top_4 : decode cX3_top 4 = .ok (.ifCond .ne 7, 3) := by decide +kernel
theorem dX3_top_7 : decode cX3_top 7 = .ok (.iconst 0, 1) := by decide +kernel
theorem dX3_top_8 : decode cX3_top 8 = .ok (.goto 14, 3) := by decide +kernel
theorem dX3_top_11 : decode cX3_top 11 = .ok (.aload_n 0, 1) := by decide +kernel
theorem dX3_top_12 : decode cX3_top 12 = .ok (.getfield 51, 3) := by decide +kernel
theorem dX3_top_15 : decode cX3_top 15 = .ok (.aload_n 0, 1) := by decide +kernel
theorem dX3_top_16 : decode cX3_top 16 = .ok (.getfield 17, 3) := by decide +kernel
theorem dX3_top_19 : decode cX3_top 19 = .ok (.iconst 1, 1) := by decide +kernel
theorem dX3_top_20 : decode cX3_top 20 = .ok (.isub, 1) := by decide +kernel
theorem dX3_top_21 : decode cX3_top 21 = .ok (.iaload, 1) := by decide +kernel
theorem dX3_top_22 : decode cX3_top 22 = .ok (.ireturn, 1) := by decide +kernel
theorem dX3_put_0 : decode cX3_put 0 = .ok (.aload_n 0, 1) := by decide +kernel
theorem dX3_put_1 : decode cX3_put 1 = .ok (.getfield 17, 3) := by decide +kernel
theorem dX3_put_4 : decode cX3_put 4 = .ok (.aload_n 0, 1) := by decide +kernel
theorem dX3_put_5 : decode cX3_put 5 = .ok (.getfield 48, 3) := by decide +kernel
theorem dX3_put_8 : decode cX3_put 8 = .ok (.if_icmp .lt 4, 3) := by decide +kernel
theorem dX3_put_11 : decode cX3_put 11 = .ok (.return_, 1) := by decide +kernel
theorem dX3_put_12 : decode cX3_put 12 = .ok (.iconst 0, 1) := by decide +kernel
theorem dX3_put_13 : decode cX3_put 13 = .ok (.istore_n 2, 1) := by decide +kernel
theorem dX3_put_14 : decode cX3_put 14 = .ok (.iload_n 2, 1) := by decide +kernel
theorem dX3_put_15 : decode cX3_put 15 = .ok (.aload_n 0, 1) := by decide +kernel
theorem dX3_put_16 : decode cX3_put 16 = .ok (.getfield 40, 3) := by decide +kernel
theorem dX3_put_19 : decode cX3_put 19 = .ok (.getfield 128, 3) := by decide +kernel
theorem dX3_put_22 : decode cX3_put 22 = .ok (.if_icmp .ge 30, 3) := by decide +kernel
theorem dX3_put_25 : decode cX3_put 25 = .ok (.aload_n 0, 1) := by decide +kernel
theorem dX3_put_26 : decode cX3_put 26 = .ok (.getfield 54, 3) := by decide +kernel
theorem dX3_put_29 : decode cX3_put 29 = .ok (.aload_n 0, 1) := by decide +kernel
theorem dX3_put_30 : decode cX3_put 30 = .ok (.getfield 17, 3) := by decide +kernel
theorem dX3_put_33 : decode cX3_put 33 = .ok (.iconst 1, 1) := by decide +kernel
theorem dX3_put_34 : decode cX3_put 34 = .ok (.iadd, 1) := by decide +kernel
theorem dX3_put_35 : decode cX3_put 35 = .ok (.iconst 4, 1) := by decide +kernel
theorem dX3_put_36 : decode cX3_put 36 = .ok (.imul, 1) := by decide +kernel
theorem dX3_put_37 : decode cX3_put 37 = .ok (.iload_n 2, 1) := by decide +kernel
theorem dX3_put_38 : decode cX3_put 38 = .ok (.iadd, 1) := by decide +kernel
theorem dX3_put_39 : decode cX3_put 39 = .ok (.aload_n 0, 1) := by decide +kernel
theorem dX3_put_40 : decode cX3_put 40 = .ok (.iload_n 2, 1) := by decide +kernel
theorem dX3_put_41 : decode cX3_put 41 = .ok (.iload_n 1, 1) := by decide +kernel
theorem dX3_put_42 : decode cX3_put 42 = .ok (.invokevirtual 131, 3) := by decide +kernel
theorem dX3_put_45 : decode cX3_put 45 = .ok (.lastore, 1) := by decide +kernel
theorem dX3_put_46 : decode cX3_put 46 = .ok (.iinc 2 1, 3) := by decide +kernel
theorem dX3_put_49 : decode cX3_put 49 = .ok (.goto (-35), 3) := by decide +kernel
theorem dX3_put_52 : decode cX3_put 52 = .ok (.aload_n 0, 1) := by decide +kernel
theorem dX3_put_53 : decode cX3_put 53 = .ok (.getfield 58, 3) := by decide +kernel
theorem dX3_put_56 : decode cX3_put 56 = .ok (.aload_n 0, 1) := by decide +kernel
theorem dX3_put_57 : decode cX3_put 57 = .ok (.getfield 17, 3) := by decide +kernel
theorem dX3_put_60 : decode cX3_put 60 = .ok (.iconst 1, 1) := by decide +kernel
theorem dX3_put_61 : decode cX3_put 61 = .ok (.iadd, 1) := by decide +kernel
theorem dX3_put_62 : decode cX3_put 62 = .ok (.aload_n 0, 1) := by decide +kernel
theorem dX3_put_63 : decode cX3_put 63 = .ok (.getfield 58, 3) := by decide +kernel
theorem dX3_put_66 : decode cX3_put 66 = .ok (.aload_n 0, 1) := by decide +kernel
theorem dX3_put_67 : decode cX3_put 67 = .ok (.getfield 17, 3) := by decide +kernel
theorem dX3_put_70 : decode cX3_put 70 = .ok (.baload, 1) := by decide +kernel
theorem dX3_put_71 : decode cX3_put 71 = .ok (.ifCond .eq 38, 3) := by decide +kernel
theorem dX3_put_74 : decode cX3_put 74 = .ok (.aload_n 0, 1) := by decide +kernel
theorem dX3_put_75 : decode cX3_put 75 = .ok (.getfield 17, 3) := by decide +kernel
theorem dX3_put_78 : decode cX3_put 78 = .ok (.aload_n 0, 1) := by decide +kernel
theorem dX3_put_79 : decode cX3_put 79 = .ok (.getfield 28, 3) := by decide +kernel
theorem dX3_put_82 : decode cX3_put 82 = .ok (.if_icmp .ge 27, 3) := by decide +kernel
theorem dX3_put_85 : decode cX3_put 85 = .ok (.aload_n 0, 1) := by decide +kernel
theorem dX3_put_86 : decode cX3_put 86 = .ok (.getfield 31, 3) := by decide +kernel
theorem dX3_put_89 : decode cX3_put 89 = .ok (.aload_n 0, 1) := by decide +kernel
theorem dX3_put_90 : decode cX3_put 90 = .ok (.getfield 28, 3) := by decide +kernel
theorem dX3_put_93 : decode cX3_put 93 = .ok (.iconst 1, 1) := by decide +kernel
theorem dX3_put_94 : decode cX3_put 94 = .ok (.isub, 1) := by decide +kernel
theorem dX3_put_95 : decode cX3_put 95 = .ok (.aload_n 0, 1) := by decide +kernel
theorem dX3_put_96 : decode cX3_put 96 = .ok (.getfield 17, 3) := by decide +kernel
theorem dX3_put_99 : decode cX3_put 99 = .ok (.isub, 1) := by decide +kernel
theorem dX3_put_100 : decode cX3_put 100 = .ok (.iaload, 1) := by decide +kernel
theorem dX3_put_101 : decode cX3_put 101 = .ok (.iload_n 1, 1) := by decide +kernel
theorem dX3_put_102 : decode cX3_put 102 = .ok (.if_icmp .ne 7, 3) := by decide +kernel
theorem dX3_put_105 : decode cX3_put 105 = .ok (.iconst 1, 1) := by decide +kernel
theorem dX3_put_106 : decode cX3_put 106 = .ok (.goto 4, 3) := by decide +kernel
theorem dX3_put_109 : decode cX3_put 109 = .ok (.iconst 0, 1) := by decide +kernel
theorem dX3_put_110 : decode cX3_put 110 = .ok (.bastore, 1) := by decide +kernel
theorem dX3_put_111 : decode cX3_put 111 = .ok (.aload_n 0, 1) := by decide +kernel
theorem dX3_put_112 : decode cX3_put 112 = .ok (.getfield 51, 3) := by decide +kernel
theorem dX3_put_115 : decode cX3_put 115 = .ok (.aload_n 0, 1) := by decide +kernel
theorem dX3_put_116 : decode cX3_put 116 = .ok (.getfield 17, 3) := by decide +kernel
theorem dX3_put_119 : decode cX3_put 119 = .ok (.iload_n 1, 1) := by decide +kernel
theorem dX3_put_120 : decode cX3_put 120 = .ok (.iastore, 1) := by decide +kernel
theorem dX3_put_121 : decode cX3_put 121 = .ok (.aload_n 0, 1) := by decide +kernel
theorem dX3_put_122 : decode cX3_put 122 = .ok (.dup, 1) := by decide +kernel
theorem dX3_put_123 : decode cX3_put 123 = .ok (.getfield 17, 3) := by decide +kernel
theorem dX3_put_126 : decode cX3_put 126 = .ok (.iconst 1, 1) := by decide +kernel
theorem dX3_put_127 : decode cX3_put 127 = .ok (.iadd, 1) := by decide +kernel
theorem dX3_put_128 : decode cX3_put 128 = .ok (.putfield 17, 3) := by decide +kernel
theorem dX3_put_131 : decode cX3_put 131 = .ok (.return_, 1) := by decide +kernel
theorem dX3_costWithTop_0 : decode cX3_costWithTop 0 = .ok (.iload_n 1, 1) := by decide +kernel
theorem dX3_costWithTop_1 : decode cX3_costWithTop 1 = .ok (.iload_n 2, 1) := by decide +kernel
theorem dX3_costWithTop_2 : decode cX3_costWithTop 2 = .ok (.invokestatic 86, 3) := by decide +kernel
theorem dX3_costWithTop_5 : decode cX3_costWithTop 5 = .ok (.istore_n 3, 1) := by decide +kernel
theorem dX3_costWithTop_6 : decode cX3_costWithTop 6 = .ok (.aload_n 0, 1) := by decide +kernel
theorem dX3_costWithTop_7 : decode cX3_costWithTop 7 = .ok (.getfield 58, 3) := by decide +kernel
theorem dX3_costWithTop_10 : decode cX3_costWithTop 10 = .ok (.aload_n 0, 1) := by decide +kernel
theorem dX3_costWithTop_11 : decode cX3_costWithTop 11 = .ok (.getfield 17, 3) := by decide +kernel
theorem dX3_costWithTop_14 : decode cX3_costWithTop 14 = .ok (.baload, 1) := by decide +kernel
theorem dX3_costWithTop_15 : decode cX3_costWithTop 15 = .ok (.ifCond .eq 18, 3) := by decide +kernel
theorem dX3_costWithTop_18 : decode cX3_costWithTop 18 = .ok (.aload_n 0, 1) := by decide +kernel
theorem dX3_costWithTop_19 : decode cX3_costWithTop 19 = .ok (.getfield 17, 3) := by decide +kernel
theorem dX3_costWithTop_22 : decode cX3_costWithTop 22 = .ok (.aload_n 0, 1) := by decide +kernel
theorem dX3_costWithTop_23 : decode cX3_costWithTop 23 = .ok (.getfield 28, 3) := by decide +kernel
theorem dX3_costWithTop_26 : decode cX3_costWithTop 26 = .ok (.if_icmp .ge 7, 3) := by decide +kernel
theorem dX3_costWithTop_29 : decode cX3_costWithTop 29 = .ok (.iconst 1, 1) := by decide +kernel
theorem dX3_costWithTop_30 : decode cX3_costWithTop 30 = .ok (.goto 4, 3) := by decide +kernel
theorem dX3_costWithTop_33 : decode cX3_costWithTop 33 = .ok (.iconst 0, 1) := by decide +kernel
theorem dX3_costWithTop_34 : decode cX3_costWithTop 34 = .ok (.istore 4, 2) := by decide +kernel
theorem dX3_costWithTop_36 : decode cX3_costWithTop 36 = .ok (.iload 4, 2) := by decide +kernel
theorem dX3_costWithTop_38 : decode cX3_costWithTop 38 = .ok (.ifCond .eq 24, 3) := by decide +kernel
theorem dX3_costWithTop_41 : decode cX3_costWithTop 41 = .ok (.aload_n 0, 1) := by decide +kernel
theorem dX3_costWithTop_42 : decode cX3_costWithTop 42 = .ok (.getfield 37, 3) := by decide +kernel
theorem dX3_costWithTop_45 : decode cX3_costWithTop 45 = .ok (.aload_n 0, 1) := by decide +kernel
theorem dX3_costWithTop_46 : decode cX3_costWithTop 46 = .ok (.getfield 28, 3) := by decide +kernel
theorem dX3_costWithTop_49 : decode cX3_costWithTop 49 = .ok (.iconst 1, 1) := by decide +kernel
theorem dX3_costWithTop_50 : decode cX3_costWithTop 50 = .ok (.isub, 1) := by decide +kernel
theorem dX3_costWithTop_51 : decode cX3_costWithTop 51 = .ok (.aload_n 0, 1) := by decide +kernel
theorem dX3_costWithTop_52 : decode cX3_costWithTop 52 = .ok (.getfield 17, 3) := by decide +kernel
theorem dX3_costWithTop_55 : decode cX3_costWithTop 55 = .ok (.isub, 1) := by decide +kernel
theorem dX3_costWithTop_56 : decode cX3_costWithTop 56 = .ok (.aaload, 1) := by decide +kernel
theorem dX3_costWithTop_57 : decode cX3_costWithTop 57 = .ok (.iload_n 3, 1) := by decide +kernel
theorem dX3_costWithTop_58 : decode cX3_costWithTop 58 = .ok (.laload, 1) := by decide +kernel
theorem dX3_costWithTop_59 : decode cX3_costWithTop 59 = .ok (.goto 6, 3) := by decide +kernel
theorem dX3_costWithTop_62 : decode cX3_costWithTop 62 = .ok (.ldc2_w 9, 3) := by decide +kernel
theorem dX3_costWithTop_65 : decode cX3_costWithTop 65 = .ok (.lstore 5, 2) := by decide +kernel
theorem dX3_costWithTop_67 : decode cX3_costWithTop 67 = .ok (.iconst 0, 1) := by decide +kernel
theorem dX3_costWithTop_68 : decode cX3_costWithTop 68 = .ok (.istore 7, 2) := by decide +kernel
theorem dX3_costWithTop_70 : decode cX3_costWithTop 70 = .ok (.iload 7, 2) := by decide +kernel
theorem dX3_costWithTop_72 : decode cX3_costWithTop 72 = .ok (.aload_n 0, 1) := by decide +kernel
theorem dX3_costWithTop_73 : decode cX3_costWithTop 73 = .ok (.getfield 40, 3) := by decide +kernel
theorem dX3_costWithTop_76 : decode cX3_costWithTop 76 = .ok (.getfield 128, 3) := by decide +kernel
theorem dX3_costWithTop_79 : decode cX3_costWithTop 79 = .ok (.if_icmp .ge 45, 3) := by decide +kernel
theorem dX3_costWithTop_82 : decode cX3_costWithTop 82 = .ok (.aload_n 0, 1) := by decide +kernel
theorem dX3_costWithTop_83 : decode cX3_costWithTop 83 = .ok (.getfield 44, 3) := by decide +kernel
theorem dX3_costWithTop_86 : decode cX3_costWithTop 86 = .ok (.iload_n 3, 1) := by decide +kernel
theorem dX3_costWithTop_87 : decode cX3_costWithTop 87 = .ok (.iload 7, 2) := by decide +kernel
theorem dX3_costWithTop_89 : decode cX3_costWithTop 89 = .ok (.invokevirtual 135, 3) := by decide +kernel
theorem dX3_costWithTop_92 : decode cX3_costWithTop 92 = .ok (.aload_n 0, 1) := by decide +kernel
theorem dX3_costWithTop_93 : decode cX3_costWithTop 93 = .ok (.getfield 54, 3) := by decide +kernel
theorem dX3_costWithTop_96 : decode cX3_costWithTop 96 = .ok (.aload_n 0, 1) := by decide +kernel
theorem dX3_costWithTop_97 : decode cX3_costWithTop 97 = .ok (.getfield 17, 3) := by decide +kernel
theorem dX3_costWithTop_100 : decode cX3_costWithTop 100 = .ok (.iconst 4, 1) := by decide +kernel
theorem dX3_costWithTop_101 : decode cX3_costWithTop 101 = .ok (.imul, 1) := by decide +kernel
theorem dX3_costWithTop_102 : decode cX3_costWithTop 102 = .ok (.iload 7, 2) := by decide +kernel
theorem dX3_costWithTop_104 : decode cX3_costWithTop 104 = .ok (.iadd, 1) := by decide +kernel
theorem dX3_costWithTop_105 : decode cX3_costWithTop 105 = .ok (.laload, 1) := by decide +kernel
theorem dX3_costWithTop_106 : decode cX3_costWithTop 106 = .ok (.ladd, 1) := by decide +kernel
theorem dX3_costWithTop_107 : decode cX3_costWithTop 107 = .ok (.lstore 8, 2) := by decide +kernel
theorem dX3_costWithTop_109 : decode cX3_costWithTop 109 = .ok (.lload 5, 2) := by decide +kernel
theorem dX3_costWithTop_111 : decode cX3_costWithTop 111 = .ok (.lload 8, 2) := by decide +kernel
theorem dX3_costWithTop_113 : decode cX3_costWithTop 113 = .ok (.invokestatic 138, 3) := by decide +kernel
theorem dX3_costWithTop_116 : decode cX3_costWithTop 116 = .ok (.lstore 5, 2) := by decide +kernel
theorem dX3_costWithTop_118 : decode cX3_costWithTop 118 = .ok (.iinc 7 1, 3) := by decide +kernel
theorem dX3_costWithTop_121 : decode cX3_costWithTop 121 = .ok (.goto (-51), 3) := by decide +kernel
theorem dX3_costWithTop_124 : decode cX3_costWithTop 124 = .ok (.lload 5, 2) := by decide +kernel
theorem dX3_costWithTop_126 : decode cX3_costWithTop 126 = .ok (.lreturn, 1) := by decide +kernel
theorem dX3_advance_0 : decode cX3_advance 0 = .ok (.aload_n 0, 1) := by decide +kernel
theorem dX3_advance_1 : decode cX3_advance 1 = .ok (.getfield 17, 3) := by decide +kernel
theorem dX3_advance_4 : decode cX3_advance 4 = .ok (.ifCond .ne 5, 3) := by decide +kernel
theorem dX3_advance_7 : decode cX3_advance 7 = .ok (.iconst (-1), 1) := by decide +kernel
theorem dX3_advance_8 : decode cX3_advance 8 = .ok (.ireturn, 1) := by decide +kernel
theorem dX3_advance_9 : decode cX3_advance 9 = .ok (.iload_n 1, 1) := by decide +kernel
theorem dX3_advance_10 : decode cX3_advance 10 = .ok (.aload_n 0, 1) := by decide +kernel
theorem dX3_advance_11 : decode cX3_advance 11 = .ok (.invokevirtual 141, 3) := by decide +kernel
theorem dX3_advance_14 : decode cX3_advance 14 = .ok (.invokestatic 86, 3) := by decide +kernel
theorem dX3_advance_17 : decode cX3_advance 17 = .ok (.istore 4, 2) := by decide +kernel
theorem dX3_advance_19 : decode cX3_advance 19 = .ok (.aload_n 0, 1) := by decide +kernel
theorem dX3_advance_20 : decode cX3_advance 20 = .ok (.dup, 1) := by decide +kernel
theorem dX3_advance_21 : decode cX3_advance 21 = .ok (.getfield 17, 3) := by decide +kernel
theorem dX3_advance_24 : decode cX3_advance 24 = .ok (.iconst 1, 1) := by decide +kernel
theorem dX3_advance_25 : decode cX3_advance 25 = .ok (.isub, 1) := by decide +kernel
theorem dX3_advance_26 : decode cX3_advance 26 = .ok (.putfield 17, 3) := by decide +kernel
theorem dX3_advance_29 : decode cX3_advance 29 = .ok (.iconst 0, 1) := by decide +kernel
theorem dX3_advance_30 : decode cX3_advance 30 = .ok (.istore 5, 2) := by decide +kernel
theorem dX3_advance_32 : decode cX3_advance 32 = .ok (.iload 5, 2) := by decide +kernel
theorem dX3_advance_34 : decode cX3_advance 34 = .ok (.aload_n 0, 1) := by decide +kernel
theorem dX3_advance_35 : decode cX3_advance 35 = .ok (.getfield 40, 3) := by decide +kernel
theorem dX3_advance_38 : decode cX3_advance 38 = .ok (.getfield 98, 3) := by decide +kernel
theorem dX3_advance_41 : decode cX3_advance 41 = .ok (.if_icmp .ge 55, 3) := by decide +kernel
theorem dX3_advance_44 : decode cX3_advance 44 = .ok (.aload_n 0, 1) := by decide +kernel
theorem dX3_advance_45 : decode cX3_advance 45 = .ok (.getfield 40, 3) := by decide +kernel
theorem dX3_advance_48 : decode cX3_advance 48 = .ok (.getfield 112, 3) := by decide +kernel
theorem dX3_advance_51 : decode cX3_advance 51 = .ok (.iload 5, 2) := by decide +kernel
theorem dX3_advance_53 : decode cX3_advance 53 = .ok (.iaload, 1) := by decide +kernel
theorem dX3_advance_54 : decode cX3_advance 54 = .ok (.iload 4, 2) := by decide +kernel
theorem dX3_advance_56 : decode cX3_advance 56 = .ok (.if_icmp .ne 34, 3) := by decide +kernel
theorem dX3_advance_59 : decode cX3_advance 59 = .ok (.aload_n 0, 1) := by decide +kernel
theorem dX3_advance_60 : decode cX3_advance 60 = .ok (.getfield 40, 3) := by decide +kernel
theorem dX3_advance_63 : decode cX3_advance 63 = .ok (.getfield 115, 3) := by decide +kernel
theorem dX3_advance_66 : decode cX3_advance 66 = .ok (.iload 5, 2) := by decide +kernel
theorem dX3_advance_68 : decode cX3_advance 68 = .ok (.laload, 1) := by decide +kernel
theorem dX3_advance_69 : decode cX3_advance 69 = .ok (.aload_n 0, 1) := by decide +kernel
theorem dX3_advance_70 : decode cX3_advance 70 = .ok (.iload 5, 2) := by decide +kernel
theorem dX3_advance_72 : decode cX3_advance 72 = .ok (.invokevirtual 145, 3) := by decide +kernel
theorem dX3_advance_75 : decode cX3_advance 75 = .ok (.ladd, 1) := by decide +kernel
theorem dX3_advance_76 : decode cX3_advance 76 = .ok (.lload_n 2, 1) := by decide +kernel
theorem dX3_advance_77 : decode cX3_advance 77 = .ok (.lcmp, 1) := by decide +kernel
theorem dX3_advance_78 : decode cX3_advance 78 = .ok (.ifCond .ne 12, 3) := by decide +kernel
theorem dX3_advance_81 : decode cX3_advance 81 = .ok (.aload_n 0, 1) := by decide +kernel
theorem dX3_advance_82 : decode cX3_advance 82 = .ok (.iload 5, 2) := by decide +kernel
theorem dX3_advance_84 : decode cX3_advance 84 = .ok (.invokevirtual 149, 3) := by decide +kernel
theorem dX3_advance_87 : decode cX3_advance 87 = .ok (.iload 5, 2) := by decide +kernel
theorem dX3_advance_89 : decode cX3_advance 89 = .ok (.ireturn, 1) := by decide +kernel
theorem dX3_advance_90 : decode cX3_advance 90 = .ok (.iinc 5 1, 3) := by decide +kernel
theorem dX3_advance_93 : decode cX3_advance 93 = .ok (.goto (-61), 3) := by decide +kernel
theorem dX3_advance_96 : decode cX3_advance 96 = .ok (.iconst (-1), 1) := by decide +kernel
theorem dX3_advance_97 : decode cX3_advance 97 = .ok (.ireturn, 1) := by decide +kernel
theorem dX3_costAfter_0 : decode cX3_costAfter 0 = .ok (.aload_n 0, 1) := by decide +kernel
theorem dX3_costAfter_1 : decode cX3_costAfter 1 = .ok (.getfield 40, 3) := by decide +kernel
theorem dX3_costAfter_4 : decode cX3_costAfter 4 = .ok (.getfield 152, 3) := by decide +kernel
theorem dX3_costAfter_7 : decode cX3_costAfter 7 = .ok (.iload_n 1, 1) := by decide +kernel
theorem dX3_costAfter_8 : decode cX3_costAfter 8 = .ok (.iaload, 1) := by decide +kernel
theorem dX3_costAfter_9 : decode cX3_costAfter 9 = .ok (.istore_n 2, 1) := by decide +kernel
theorem dX3_costAfter_10 : decode cX3_costAfter 10 = .ok (.aload_n 0, 1) := by decide +kernel
theorem dX3_costAfter_11 : decode cX3_costAfter 11 = .ok (.getfield 40, 3) := by decide +kernel
theorem dX3_costAfter_14 : decode cX3_costAfter 14 = .ok (.getfield 106, 3) := by decide +kernel
theorem dX3_costAfter_17 : decode cX3_costAfter 17 = .ok (.iload_n 1, 1) := by decide +kernel
theorem dX3_costAfter_18 : decode cX3_costAfter 18 = .ok (.iaload, 1) := by decide +kernel
theorem dX3_costAfter_19 : decode cX3_costAfter 19 = .ok (.ifCond .ne 17, 3) := by decide +kernel
theorem dX3_costAfter_22 : decode cX3_costAfter 22 = .ok (.aload_n 0, 1) := by decide +kernel
theorem dX3_costAfter_23 : decode cX3_costAfter 23 = .ok (.getfield 54, 3) := by decide +kernel
theorem dX3_costAfter_26 : decode cX3_costAfter 26 = .ok (.aload_n 0, 1) := by decide +kernel
theorem dX3_costAfter_27 : decode cX3_costAfter 27 = .ok (.getfield 17, 3) := by decide +kernel
theorem dX3_costAfter_30 : decode cX3_costAfter 30 = .ok (.iconst 4, 1) := by decide +kernel
theorem dX3_costAfter_31 : decode cX3_costAfter 31 = .ok (.imul, 1) := by decide +kernel
theorem dX3_costAfter_32 : decode cX3_costAfter 32 = .ok (.iload_n 2, 1) := by decide +kernel
theorem dX3_costAfter_33 : decode cX3_costAfter 33 = .ok (.iadd, 1) := by decide +kernel
theorem dX3_costAfter_34 : decode cX3_costAfter 34 = .ok (.laload, 1) := by decide +kernel
theorem dX3_costAfter_35 : decode cX3_costAfter 35 = .ok (.lreturn, 1) := by decide +kernel
theorem dX3_costAfter_36 : decode cX3_costAfter 36 = .ok (.aload_n 0, 1) := by decide +kernel
theorem dX3_costAfter_37 : decode cX3_costAfter 37 = .ok (.getfield 40, 3) := by decide +kernel
theorem dX3_costAfter_40 : decode cX3_costAfter 40 = .ok (.getfield 118, 3) := by decide +kernel
theorem dX3_costAfter_43 : decode cX3_costAfter 43 = .ok (.iload_n 1, 1) := by decide +kernel
theorem dX3_costAfter_44 : decode cX3_costAfter 44 = .ok (.iaload, 1) := by decide +kernel
theorem dX3_costAfter_45 : decode cX3_costAfter 45 = .ok (.iconst 5, 1) := by decide +kernel
theorem dX3_costAfter_46 : decode cX3_costAfter 46 = .ok (.irem, 1) := by decide +kernel
theorem dX3_costAfter_47 : decode cX3_costAfter 47 = .ok (.iconst 1, 1) := by decide +kernel
theorem dX3_costAfter_48 : decode cX3_costAfter 48 = .ok (.iadd, 1) := by decide +kernel
theorem dX3_costAfter_49 : decode cX3_costAfter 49 = .ok (.istore_n 3, 1) := by decide +kernel
theorem dX3_costAfter_50 : decode cX3_costAfter 50 = .ok (.aload_n 0, 1) := by decide +kernel
theorem dX3_costAfter_51 : decode cX3_costAfter 51 = .ok (.getfield 40, 3) := by decide +kernel
theorem dX3_costAfter_54 : decode cX3_costAfter 54 = .ok (.getfield 106, 3) := by decide +kernel
theorem dX3_costAfter_57 : decode cX3_costAfter 57 = .ok (.iload_n 1, 1) := by decide +kernel
theorem dX3_costAfter_58 : decode cX3_costAfter 58 = .ok (.iaload, 1) := by decide +kernel
theorem dX3_costAfter_59 : decode cX3_costAfter 59 = .ok (.iconst 1, 1) := by decide +kernel
theorem dX3_costAfter_60 : decode cX3_costAfter 60 = .ok (.if_icmp .ne 10, 3) := by decide +kernel
theorem dX3_costAfter_63 : decode cX3_costAfter 63 = .ok (.aload_n 0, 1) := by decide +kernel
theorem dX3_costAfter_64 : decode cX3_costAfter 64 = .ok (.iload_n 2, 1) := by decide +kernel
theorem dX3_costAfter_65 : decode cX3_costAfter 65 = .ok (.iload_n 3, 1) := by decide +kernel
theorem dX3_costAfter_66 : decode cX3_costAfter 66 = .ok (.invokevirtual 131, 3) := by decide +kernel
theorem dX3_costAfter_69 : decode cX3_costAfter 69 = .ok (.lreturn, 1) := by decide +kernel
theorem dX3_costAfter_70 : decode cX3_costAfter 70 = .ok (.aload_n 0, 1) := by decide +kernel
theorem dX3_costAfter_71 : decode cX3_costAfter 71 = .ok (.aload_n 0, 1) := by decide +kernel
theorem dX3_costAfter_72 : decode cX3_costAfter 72 = .ok (.getfield 40, 3) := by decide +kernel
theorem dX3_costAfter_75 : decode cX3_costAfter 75 = .ok (.getfield 109, 3) := by decide +kernel
theorem dX3_costAfter_78 : decode cX3_costAfter 78 = .ok (.iload_n 1, 1) := by decide +kernel
theorem dX3_costAfter_79 : decode cX3_costAfter 79 = .ok (.iaload, 1) := by decide +kernel
theorem dX3_costAfter_80 : decode cX3_costAfter 80 = .ok (.invokevirtual 125, 3) := by decide +kernel
theorem dX3_costAfter_83 : decode cX3_costAfter 83 = .ok (.aload_n 0, 1) := by decide +kernel
theorem dX3_costAfter_84 : decode cX3_costAfter 84 = .ok (.iload_n 2, 1) := by decide +kernel
theorem dX3_costAfter_85 : decode cX3_costAfter 85 = .ok (.iload_n 3, 1) := by decide +kernel
theorem dX3_costAfter_86 : decode cX3_costAfter 86 = .ok (.invokevirtual 131, 3) := by decide +kernel
theorem dX3_costAfter_89 : decode cX3_costAfter 89 = .ok (.lstore 4, 2) := by decide +kernel
theorem dX3_costAfter_91 : decode cX3_costAfter 91 = .ok (.aload_n 0, 1) := by decide +kernel
theorem dX3_costAfter_92 : decode cX3_costAfter 92 = .ok (.dup, 1) := by decide +kernel
theorem dX3_costAfter_93 : decode cX3_costAfter 93 = .ok (.getfield 17, 3) := by decide +kernel
theorem dX3_costAfter_96 : decode cX3_costAfter 96 = .ok (.iconst 1, 1) := by decide +kernel
theorem dX3_costAfter_97 : decode cX3_costAfter 97 = .ok (.isub, 1) := by decide +kernel
theorem dX3_costAfter_98 : decode cX3_costAfter 98 = .ok (.putfield 17, 3) := by decide +kernel
theorem dX3_costAfter_101 : decode cX3_costAfter 101 = .ok (.lload 4, 2) := by decide +kernel
theorem dX3_costAfter_103 : decode cX3_costAfter 103 = .ok (.lreturn, 1) := by decide +kernel
theorem dX3_apply_0 : decode cX3_apply 0 = .ok (.aload_n 0, 1) := by decide +kernel
theorem dX3_apply_1 : decode cX3_apply 1 = .ok (.getfield 40, 3) := by decide +kernel
theorem dX3_apply_4 : decode cX3_apply 4 = .ok (.getfield 106, 3) := by decide +kernel
theorem dX3_apply_7 : decode cX3_apply 7 = .ok (.iload_n 1, 1) := by decide +kernel
theorem dX3_apply_8 : decode cX3_apply 8 = .ok (.iaload, 1) := by decide +kernel
theorem dX3_apply_9 : decode cX3_apply 9 = .ok (.iconst 2, 1) := by decide +kernel
theorem dX3_apply_10 : decode cX3_apply 10 = .ok (.if_icmp .ne 16, 3) := by decide +kernel
theorem dX3_apply_13 : decode cX3_apply 13 = .ok (.aload_n 0, 1) := by decide +kernel
theorem dX3_apply_14 : decode cX3_apply 14 = .ok (.aload_n 0, 1) := by decide +kernel
theorem dX3_apply_15 : decode cX3_apply 15 = .ok (.getfield 40, 3) := by decide +kernel
theorem dX3_apply_18 : decode cX3_apply 18 = .ok (.getfield 109, 3) := by decide +kernel
theorem dX3_apply_21 : decode cX3_apply 21 = .ok (.iload_n 1, 1) := by decide +kernel
theorem dX3_apply_22 : decode cX3_apply 22 = .ok (.iaload, 1) := by decide +kernel
theorem dX3_apply_23 : decode cX3_apply 23 = .ok (.invokevirtual 125, 3) := by decide +kernel
theorem dX3_apply_26 : decode cX3_apply 26 = .ok (.aload_n 0, 1) := by decide +kernel
theorem dX3_apply_27 : decode cX3_apply 27 = .ok (.getfield 40, 3) := by decide +kernel
theorem dX3_apply_30 : decode cX3_apply 30 = .ok (.getfield 106, 3) := by decide +kernel
theorem dX3_apply_33 : decode cX3_apply 33 = .ok (.iload_n 1, 1) := by decide +kernel
theorem dX3_apply_34 : decode cX3_apply 34 = .ok (.iaload, 1) := by decide +kernel
theorem dX3_apply_35 : decode cX3_apply 35 = .ok (.ifCond .le 20, 3) := by decide +kernel
theorem dX3_apply_38 : decode cX3_apply 38 = .ok (.aload_n 0, 1) := by decide +kernel
theorem dX3_apply_39 : decode cX3_apply 39 = .ok (.aload_n 0, 1) := by decide +kernel
theorem dX3_apply_40 : decode cX3_apply 40 = .ok (.getfield 40, 3) := by decide +kernel
theorem dX3_apply_43 : decode cX3_apply 43 = .ok (.getfield 118, 3) := by decide +kernel
theorem dX3_apply_46 : decode cX3_apply 46 = .ok (.iload_n 1, 1) := by decide +kernel
theorem dX3_apply_47 : decode cX3_apply 47 = .ok (.iaload, 1) := by decide +kernel
theorem dX3_apply_48 : decode cX3_apply 48 = .ok (.iconst 5, 1) := by decide +kernel
theorem dX3_apply_49 : decode cX3_apply 49 = .ok (.irem, 1) := by decide +kernel
theorem dX3_apply_50 : decode cX3_apply 50 = .ok (.iconst 1, 1) := by decide +kernel
theorem dX3_apply_51 : decode cX3_apply 51 = .ok (.iadd, 1) := by decide +kernel
theorem dX3_apply_52 : decode cX3_apply 52 = .ok (.invokevirtual 125, 3) := by decide +kernel
theorem dX3_apply_55 : decode cX3_apply 55 = .ok (.return_, 1) := by decide +kernel
theorem dX4_init_0 : decode cX4_init 0 = .ok (.aload_n 0, 1) := by decide +kernel
theorem dX4_init_1 : decode cX4_init 1 = .ok (.invokespecial 3, 3) := by decide +kernel
theorem dX4_init_4 : decode cX4_init 4 = .ok (.aload_n 0, 1) := by decide +kernel
theorem dX4_init_5 : decode cX4_init 5 = .ok (.iconst 2, 1) := by decide +kernel
theorem dX4_init_6 : decode cX4_init 6 = .ok (.putfield 9, 3) := by decide +kernel
theorem dX4_init_9 : decode cX4_init 9 = .ok (.aload_n 0, 1) := by decide +kernel
theorem dX4_init_10 : decode cX4_init 10 = .ok (.iconst 3, 1) := by decide +kernel
theorem dX4_init_11 : decode cX4_init 11 = .ok (.putfield 15, 3) := by decide +kernel
theorem dX4_init_14 : decode cX4_init 14 = .ok (.aload_n 0, 1) := by decide +kernel
theorem dX4_init_15 : decode cX4_init 15 = .ok (.iconst 0, 1) := by decide +kernel
theorem dX4_init_16 : decode cX4_init 16 = .ok (.putfield 18, 3) := by decide +kernel
theorem dX4_init_19 : decode cX4_init 19 = .ok (.aload_n 0, 1) := by decide +kernel
theorem dX4_init_20 : decode cX4_init 20 = .ok (.iconst 1, 1) := by decide +kernel
theorem dX4_init_21 : decode cX4_init 21 = .ok (.putfield 21, 3) := by decide +kernel
theorem dX4_init_24 : decode cX4_init 24 = .ok (.aload_n 0, 1) := by decide +kernel
theorem dX4_init_25 : decode cX4_init 25 = .ok (.iconst 0, 1) := by decide +kernel
theorem dX4_init_26 : decode cX4_init 26 = .ok (.putfield 24, 3) := by decide +kernel
theorem dX4_init_29 : decode cX4_init 29 = .ok (.aload_n 0, 1) := by decide +kernel
theorem dX4_init_30 : decode cX4_init 30 = .ok (.bipush 100, 2) := by decide +kernel
theorem dX4_init_32 : decode cX4_init 32 = .ok (.newarray .int, 2) := by decide +kernel
theorem dX4_init_34 : decode cX4_init 34 = .ok (.putfield 27, 3) := by decide +kernel
theorem dX4_init_37 : decode cX4_init 37 = .ok (.return_, 1) := by decide +kernel
theorem dX4_reset_0 : decode cX4_reset 0 = .ok (.aload_n 0, 1) := by decide +kernel
theorem dX4_reset_1 : decode cX4_reset 1 = .ok (.iload_n 1, 1) := by decide +kernel
theorem dX4_reset_2 : decode cX4_reset 2 = .ok (.putfield 9, 3) := by decide +kernel
theorem dX4_reset_5 : decode cX4_reset 5 = .ok (.aload_n 0, 1) := by decide +kernel
theorem dX4_reset_6 : decode cX4_reset 6 = .ok (.iload_n 2, 1) := by decide +kernel
theorem dX4_reset_7 : decode cX4_reset 7 = .ok (.putfield 15, 3) := by decide +kernel
theorem dX4_reset_10 : decode cX4_reset 10 = .ok (.aload_n 0, 1) := by decide +kernel
theorem dX4_reset_11 : decode cX4_reset 11 = .ok (.iconst 0, 1) := by decide +kernel
theorem dX4_reset_12 : decode cX4_reset 12 = .ok (.putfield 18, 3) := by decide +kernel
theorem dX4_reset_15 : decode cX4_reset 15 = .ok (.aload_n 0, 1) := by decide +kernel
theorem dX4_reset_16 : decode cX4_reset 16 = .ok (.iconst 1, 1) := by decide +kernel
theorem dX4_reset_17 : decode cX4_reset 17 = .ok (.putfield 21, 3) := by decide +kernel
theorem dX4_reset_20 : decode cX4_reset 20 = .ok (.aload_n 0, 1) := by decide +kernel
theorem dX4_reset_21 : decode cX4_reset 21 = .ok (.iconst 0, 1) := by decide +kernel
theorem dX4_reset_22 : decode cX4_reset 22 = .ok (.putfield 24, 3) := by decide +kernel
theorem dX4_reset_25 : decode cX4_reset 25 = .ok (.return_, 1) := by decide +kernel
theorem dX4_copyFrom_0 : decode cX4_copyFrom 0 = .ok (.aload_n 0, 1) := by decide +kernel
theorem dX4_copyFrom_1 : decode cX4_copyFrom 1 = .ok (.aload_n 1, 1) := by decide +kernel
theorem dX4_copyFrom_2 : decode cX4_copyFrom 2 = .ok (.getfield 9, 3) := by decide +kernel
theorem dX4_copyFrom_5 : decode cX4_copyFrom 5 = .ok (.putfield 9, 3) := by decide +kernel
theorem dX4_copyFrom_8 : decode cX4_copyFrom 8 = .ok (.aload_n 0, 1) := by decide +kernel
theorem dX4_copyFrom_9 : decode cX4_copyFrom 9 = .ok (.aload_n 1, 1) := by decide +kernel
theorem dX4_copyFrom_10 : decode cX4_copyFrom 10 = .ok (.getfield 15, 3) := by decide +kernel
theorem dX4_copyFrom_13 : decode cX4_copyFrom 13 = .ok (.putfield 15, 3) := by decide +kernel
theorem dX4_copyFrom_16 : decode cX4_copyFrom 16 = .ok (.aload_n 0, 1) := by decide +kernel
theorem dX4_copyFrom_17 : decode cX4_copyFrom 17 = .ok (.aload_n 1, 1) := by decide +kernel
theorem dX4_copyFrom_18 : decode cX4_copyFrom 18 = .ok (.getfield 18, 3) := by decide +kernel
theorem dX4_copyFrom_21 : decode cX4_copyFrom 21 = .ok (.putfield 18, 3) := by decide +kernel
theorem dX4_copyFrom_24 : decode cX4_copyFrom 24 = .ok (.aload_n 0, 1) := by decide +kernel
theorem dX4_copyFrom_25 : decode cX4_copyFrom 25 = .ok (.aload_n 1, 1) := by decide +kernel
theorem dX4_copyFrom_26 : decode cX4_copyFrom 26 = .ok (.getfield 21, 3) := by decide +kernel
theorem dX4_copyFrom_29 : decode cX4_copyFrom 29 = .ok (.putfield 21, 3) := by decide +kernel
theorem dX4_copyFrom_32 : decode cX4_copyFrom 32 = .ok (.aload_n 0, 1) := by decide +kernel
theorem dX4_copyFrom_33 : decode cX4_copyFrom 33 = .ok (.aload_n 1, 1) := by decide +kernel
theorem dX4_copyFrom_34 : decode cX4_copyFrom 34 = .ok (.getfield 24, 3) := by decide +kernel
theorem dX4_copyFrom_37 : decode cX4_copyFrom 37 = .ok (.putfield 24, 3) := by decide +kernel
theorem dX4_copyFrom_40 : decode cX4_copyFrom 40 = .ok (.aload_n 1, 1) := by decide +kernel
theorem dX4_copyFrom_41 : decode cX4_copyFrom 41 = .ok (.getfield 27, 3) := by decide +kernel
theorem dX4_copyFrom_44 : decode cX4_copyFrom 44 = .ok (.iconst 0, 1) := by decide +kernel
theorem dX4_copyFrom_45 : decode cX4_copyFrom 45 = .ok (.aload_n 0, 1) := by decide +kernel
theorem dX4_copyFrom_46 : decode cX4_copyFrom 46 = .ok (.getfield 27, 3) := by decide +kernel
theorem dX4_copyFrom_49 : decode cX4_copyFrom 49 = .ok (.iconst 0, 1) := by decide +kernel
theorem dX4_copyFrom_50 : decode cX4_copyFrom 50 = .ok (.aload_n 0, 1) := by decide +kernel
theorem dX4_copyFrom_51 : decode cX4_copyFrom 51 = .ok (.getfield 27, 3) := by decide +kernel
theorem dX4_copyFrom_54 : decode cX4_copyFrom 54 = .ok (.arraylength, 1) := by decide +kernel
theorem dX4_copyFrom_55 : decode cX4_copyFrom 55 = .ok (.invokestatic 31, 3) := by decide +kernel
theorem dX4_copyFrom_58 : decode cX4_copyFrom 58 = .ok (.return_, 1) := by decide +kernel
theorem dX4_part_0 : decode cX4_part 0 = .ok (.aload_n 0, 1) := by decide +kernel
theorem dX4_part_1 : decode cX4_part 1 = .ok (.getfield 27, 3) := by decide +kernel
theorem dX4_part_4 : decode cX4_part 4 = .ok (.iload_n 1, 1) := by decide +kernel
theorem dX4_part_5 : decode cX4_part 5 = .ok (.iconst 5, 1) := by decide +kernel
theorem dX4_part_6 : decode cX4_part 6 = .ok (.imul, 1) := by decide +kernel
theorem dX4_part_7 : decode cX4_part 7 = .ok (.iload_n 2, 1) := by decide +kernel
theorem dX4_part_8 : decode cX4_part 8 = .ok (.iadd, 1) := by decide +kernel
theorem dX4_part_9 : decode cX4_part 9 = .ok (.iaload, 1) := by decide +kernel
theorem dX4_part_10 : decode cX4_part 10 = .ok (.ireturn, 1) := by decide +kernel
theorem dX4_putWeight_0 : decode cX4_putWeight 0 = .ok (.aload_n 0, 1) := by decide +kernel
theorem dX4_putWeight_1 : decode cX4_putWeight 1 = .ok (.getfield 27, 3) := by decide +kernel
theorem dX4_putWeight_4 : decode cX4_putWeight 4 = .ok (.iload_n 1, 1) := by decide +kernel
theorem dX4_putWeight_5 : decode cX4_putWeight 5 = .ok (.iconst 5, 1) := by decide +kernel
theorem dX4_putWeight_6 : decode cX4_putWeight 6 = .ok (.imul, 1) := by decide +kernel
theorem dX4_putWeight_7 : decode cX4_putWeight 7 = .ok (.iconst 4, 1) := by decide +kernel
theorem dX4_putWeight_8 : decode cX4_putWeight 8 = .ok (.iadd, 1) := by decide +kernel
theorem dX4_putWeight_9 : decode cX4_putWeight 9 = .ok (.iload_n 2, 1) := by decide +kernel
theorem dX4_putWeight_10 : decode cX4_putWeight 10 = .ok (.iastore, 1) := by decide +kernel
theorem dX4_putWeight_11 : decode cX4_putWeight 11 = .ok (.return_, 1) := by decide +kernel
theorem dX4_holds_0 : decode cX4_holds 0 = .ok (.iconst 0, 1) := by decide +kernel
theorem dX4_holds_1 : decode cX4_holds 1 = .ok (.istore 5, 2) := by decide +kernel
theorem dX4_holds_3 : decode cX4_holds 3 = .ok (.iload 5, 2) := by decide +kernel
theorem dX4_holds_5 : decode cX4_holds 5 = .ok (.aload_n 0, 1) := by decide +kernel
theorem dX4_holds_6 : decode cX4_holds 6 = .ok (.getfield 24, 3) := by decide +kernel
theorem dX4_holds_9 : decode cX4_holds 9 = .ok (.if_icmp .ge 56, 3) := by decide +kernel
theorem dX4_holds_12 : decode cX4_holds 12 = .ok (.aload_n 0, 1) := by decide +kernel
theorem dX4_holds_13 : decode cX4_holds 13 = .ok (.iload 5, 2) := by decide +kernel
theorem dX4_holds_15 : decode cX4_holds 15 = .ok (.iconst 0, 1) := by decide +kernel
theorem dX4_holds_16 : decode cX4_holds 16 = .ok (.invokevirtual 37, 3) := by decide +kernel
theorem dX4_holds_19 : decode cX4_holds 19 = .ok (.iload_n 1, 1) := by decide +kernel
theorem dX4_holds_20 : decode cX4_holds 20 = .ok (.if_icmp .ne 39, 3) := by decide +kernel
theorem dX4_holds_23 : decode cX4_holds 23 = .ok (.aload_n 0, 1) := by decide +kernel
theorem dX4_holds_24 : decode cX4_holds 24 = .ok (.iload 5, 2) := by decide +kernel
theorem dX4_holds_26 : decode cX4_holds 26 = .ok (.iconst 1, 1) := by decide +kernel
theorem dX4_holds_27 : decode cX4_holds 27 = .ok (.invokevirtual 37, 3) := by decide +kernel
theorem dX4_holds_30 : decode cX4_holds 30 = .ok (.iload_n 2, 1) := by decide +kernel
theorem dX4_holds_31 : decode cX4_holds 31 = .ok (.if_icmp .ne 28, 3) := by decide +kernel
theorem dX4_holds_34 : decode cX4_holds 34 = .ok (.aload_n 0, 1) := by decide +kernel
theorem dX4_holds_35 : decode cX4_holds 35 = .ok (.iload 5, 2) := by decide +kernel
theorem dX4_holds_37 : decode cX4_holds 37 = .ok (.iconst 2, 1) := by decide +kernel
theorem dX4_holds_38 : decode cX4_holds 38 = .ok (.invokevirtual 37, 3) := by decide +kernel
theorem dX4_holds_41 : decode cX4_holds 41 = .ok (.iload_n 3, 1) := by decide +kernel
theorem dX4_holds_42 : decode cX4_holds 42 = .ok (.if_icmp .ne 17, 3) := by decide +kernel
theorem dX4_holds_45 : decode cX4_holds 45 = .ok (.aload_n 0, 1) := by decide +kernel
theorem dX4_holds_46 : decode cX4_holds 46 = .ok (.iload 5, 2) := by decide +kernel
theorem dX4_holds_48 : decode cX4_holds 48 = .ok (.iconst 3, 1) := by decide +kernel
theorem dX4_holds_49 : decode cX4_holds 49 = .ok (.invokevirtual 37, 3) := by decide +kernel
theorem dX4_holds_52 : decode cX4_holds 52 = .ok (.iload 4, 2) := by decide +kernel
theorem dX4_holds_54 : decode cX4_holds 54 = .ok (.if_icmp .ne 5, 3) := by decide +kernel
theorem dX4_holds_57 : decode cX4_holds 57 = .ok (.iconst 1, 1) := by decide +kernel
theorem dX4_holds_58 : decode cX4_holds 58 = .ok (.ireturn, 1) := by decide +kernel
theorem dX4_holds_59 : decode cX4_holds 59 = .ok (.iinc 5 1, 3) := by decide +kernel
theorem dX4_holds_62 : decode cX4_holds 62 = .ok (.goto (-59), 3) := by decide +kernel
theorem dX4_holds_65 : decode cX4_holds 65 = .ok (.iconst 0, 1) := by decide +kernel
theorem dX4_holds_66 : decode cX4_holds 66 = .ok (.ireturn, 1) := by decide +kernel
theorem dX4_append_0 : decode cX4_append 0 = .ok (.aload_n 0, 1) := by decide +kernel
theorem dX4_append_1 : decode cX4_append 1 = .ok (.getfield 24, 3) := by decide +kernel
theorem dX4_append_4 : decode cX4_append 4 = .ok (.bipush 20, 2) := by decide +kernel
theorem dX4_append_6 : decode cX4_append 6 = .ok (.if_icmp .lt 4, 3) := by decide +kernel
theorem dX4_append_9 : decode cX4_append 9 = .ok (.return_, 1) := by decide +kernel
theorem dX4_append_10 : decode cX4_append 10 = .ok (.aload_n 0, 1) := by decide +kernel
theorem dX4_append_11 : decode cX4_append 11 = .ok (.getfield 24, 3) := by decide +kernel
theorem dX4_append_14 : decode cX4_append 14 = .ok (.iconst 5, 1) := by decide +kernel
theorem dX4_append_15 : decode cX4_append 15 = .ok (.imul, 1) := by decide +kernel
theorem dX4_append_16 : decode cX4_append 16 = .ok (.istore 6, 2) := by decide +kernel
theorem dX4_append_18 : decode cX4_append 18 = .ok (.aload_n 0, 1) := by decide +kernel
theorem dX4_append_19 : decode cX4_append 19 = .ok (.getfield 27, 3) := by decide +kernel
theorem dX4_append_22 : decode cX4_append 22 = .ok (.iload 6, 2) := by decide +kernel
theorem dX4_append_24 : decode cX4_append 24 = .ok (.iconst 0, 1) := by decide +kernel
theorem dX4_append_25 : decode cX4_append 25 = .ok (.iadd, 1) := by decide +kernel
theorem dX4_append_26 : decode cX4_append 26 = .ok (.iload_n 1, 1) := by decide +kernel
theorem dX4_append_27 : decode cX4_append 27 = .ok (.iastore, 1) := by decide +kernel
theorem dX4_append_28 : decode cX4_append 28 = .ok (.aload_n 0, 1) := by decide +kernel
theorem dX4_append_29 : decode cX4_append 29 = .ok (.getfield 27, 3) := by decide +kernel
theorem dX4_append_32 : decode cX4_append 32 = .ok (.iload 6, 2) := by decide +kernel
theorem dX4_append_34 : decode cX4_append 34 = .ok (.iconst 1, 1) := by decide +kernel
theorem dX4_append_35 : decode cX4_append 35 = .ok (.iadd, 1) := by decide +kernel
theorem dX4_append_36 : decode cX4_append 36 = .ok (.iload_n 2, 1) := by decide +kernel
theorem dX4_append_37 : decode cX4_append 37 = .ok (.iastore, 1) := by decide +kernel
theorem dX4_append_38 : decode cX4_append 38 = .ok (.aload_n 0, 1) := by decide +kernel
theorem dX4_append_39 : decode cX4_append 39 = .ok (.getfield 27, 3) := by decide +kernel
theorem dX4_append_42 : decode cX4_append 42 = .ok (.iload 6, 2) := by decide +kernel
theorem dX4_append_44 : decode cX4_append 44 = .ok (.iconst 2, 1) := by decide +kernel
theorem dX4_append_45 : decode cX4_append 45 = .ok (.iadd, 1) := by decide +kernel
theorem dX4_append_46 : decode cX4_append 46 = .ok (.iload_n 3, 1) := by decide +kernel
theorem dX4_append_47 : decode cX4_append 47 = .ok (.iastore, 1) := by decide +kernel
theorem dX4_append_48 : decode cX4_append 48 = .ok (.aload_n 0, 1) := by decide +kernel
theorem dX4_append_49 : decode cX4_append 49 = .ok (.getfield 27, 3) := by decide +kernel
theorem dX4_append_52 : decode cX4_append 52 = .ok (.iload 6, 2) := by decide +kernel
theorem dX4_append_54 : decode cX4_append 54 = .ok (.iconst 3, 1) := by decide +kernel
theorem dX4_append_55 : decode cX4_append 55 = .ok (.iadd, 1) := by decide +kernel
theorem dX4_append_56 : decode cX4_append 56 = .ok (.iload 4, 2) := by decide +kernel
theorem dX4_append_58 : decode cX4_append 58 = .ok (.iastore, 1) := by decide +kernel
theorem dX4_append_59 : decode cX4_append 59 = .ok (.aload_n 0, 1) := by decide +kernel
theorem dX4_append_60 : decode cX4_append 60 = .ok (.getfield 27, 3) := by decide +kernel
theorem dX4_append_63 : decode cX4_append 63 = .ok (.iload 6, 2) := by decide +kernel
theorem dX4_append_65 : decode cX4_append 65 = .ok (.iconst 4, 1) := by decide +kernel
theorem dX4_append_66 : decode cX4_append 66 = .ok (.iadd, 1) := by decide +kernel
theorem dX4_append_67 : decode cX4_append 67 = .ok (.iload 5, 2) := by decide +kernel
theorem dX4_append_69 : decode cX4_append 69 = .ok (.iastore, 1) := by decide +kernel
theorem dX4_append_70 : decode cX4_append 70 = .ok (.aload_n 0, 1) := by decide +kernel
theorem dX4_append_71 : decode cX4_append 71 = .ok (.dup, 1) := by decide +kernel
theorem dX4_append_72 : decode cX4_append 72 = .ok (.getfield 24, 3) := by decide +kernel
theorem dX4_append_75 : decode cX4_append 75 = .ok (.iconst 1, 1) := by decide +kernel
theorem dX4_append_76 : decode cX4_append 76 = .ok (.iadd, 1) := by decide +kernel
theorem dX4_append_77 : decode cX4_append 77 = .ok (.putfield 24, 3) := by decide +kernel
theorem dX4_append_80 : decode cX4_append 80 = .ok (.return_, 1) := by decide +kernel
theorem dX4_leaveOut_0 : decode cX4_leaveOut 0 = .ok (.iload_n 1, 1) := by decide +kernel
theorem dX4_leaveOut_1 : decode cX4_leaveOut 1 = .ok (.iconst 5, 1) := by decide +kernel
theorem dX4_leaveOut_2 : decode cX4_leaveOut 2 = .ok (.imul, 1) := by decide +kernel
theorem dX4_leaveOut_3 : decode cX4_leaveOut 3 = .ok (.istore_n 2, 1) := by decide +kernel
theorem dX4_leaveOut_4 : decode cX4_leaveOut 4 = .ok (.aload_n 0, 1) := by decide +kernel
theorem dX4_leaveOut_5 : decode cX4_leaveOut 5 = .ok (.getfield 27, 3) := by decide +kernel
theorem dX4_leaveOut_8 : decode cX4_leaveOut 8 = .ok (.iload_n 2, 1) := by decide +kernel
theorem dX4_leaveOut_9 : decode cX4_leaveOut 9 = .ok (.iconst 5, 1) := by decide +kernel
theorem dX4_leaveOut_10 : decode cX4_leaveOut 10 = .ok (.iadd, 1) := by decide +kernel
theorem dX4_leaveOut_11 : decode cX4_leaveOut 11 = .ok (.aload_n 0, 1) := by decide +kernel
theorem dX4_leaveOut_12 : decode cX4_leaveOut 12 = .ok (.getfield 27, 3) := by decide +kernel
theorem dX4_leaveOut_15 : decode cX4_leaveOut 15 = .ok (.iload_n 2, 1) := by decide +kernel
theorem dX4_leaveOut_16 : decode cX4_leaveOut 16 = .ok (.aload_n 0, 1) := by decide +kernel
theorem dX4_leaveOut_17 : decode cX4_leaveOut 17 = .ok (.getfield 24, 3) := by decide +kernel
theorem dX4_leaveOut_20 : decode cX4_leaveOut 20 = .ok (.iload_n 1, 1) := by decide +kernel
theorem dX4_leaveOut_21 : decode cX4_leaveOut 21 = .ok (.isub, 1) := by decide +kernel
theorem dX4_leaveOut_22 : decode cX4_leaveOut 22 = .ok (.iconst 1, 1) := by decide +kernel
theorem dX4_leaveOut_23 : decode cX4_leaveOut 23 = .ok (.isub, 1) := by decide +kernel
theorem dX4_leaveOut_24 : decode cX4_leaveOut 24 = .ok (.iconst 5, 1) := by decide +kernel
theorem dX4_leaveOut_25 : decode cX4_leaveOut 25 = .ok (.imul, 1) := by decide +kernel
theorem dX4_leaveOut_26 : decode cX4_leaveOut 26 = .ok (.invokestatic 31, 3) := by decide +kernel
theorem dX4_leaveOut_29 : decode cX4_leaveOut 29 = .ok (.aload_n 0, 1) := by decide +kernel
theorem dX4_leaveOut_30 : decode cX4_leaveOut 30 = .ok (.dup, 1) := by decide +kernel
theorem dX4_leaveOut_31 : decode cX4_leaveOut 31 = .ok (.getfield 24, 3) := by decide +kernel
theorem dX4_leaveOut_34 : decode cX4_leaveOut 34 = .ok (.iconst 1, 1) := by decide +kernel
theorem dX4_leaveOut_35 : decode cX4_leaveOut 35 = .ok (.isub, 1) := by decide +kernel
theorem dX4_leaveOut_36 : decode cX4_leaveOut 36 = .ok (.putfield 24, 3) := by decide +kernel
theorem dX4_leaveOut_39 : decode cX4_leaveOut 39 = .ok (.return_, 1) := by decide +kernel
theorem dX4_rulesWithWordOf_0 : decode cX4_rulesWithWordOf 0 = .ok (.iconst 0, 1) := by decide +kernel
theorem dX4_rulesWithWordOf_1 : decode cX4_rulesWithWordOf 1 = .ok (.istore_n 2, 1) := by decide +kernel
theorem dX4_rulesWithWordOf_2 : decode cX4_rulesWithWordOf 2 = .ok (.iconst 0, 1) := by decide +kernel
theorem dX4_rulesWithWordOf_3 : decode cX4_rulesWithWordOf 3 = .ok (.istore_n 3, 1) := by decide +kernel
theorem dX4_rulesWithWordOf_4 : decode cX4_rulesWithWordOf 4 = .ok (.iload_n 3, 1) := by decide +kernel
theorem dX4_rulesWithWordOf_5 : decode cX4_rulesWithWordOf 5 = .ok (.aload_n 0, 1) := by decide +kernel
theorem dX4_rulesWithWordOf_6 : decode cX4_rulesWithWordOf 6 = .ok (.getfield 24, 3) := by decide +kernel
theorem dX4_rulesWithWordOf_9 : decode cX4_rulesWithWordOf 9 = .ok (.if_icmp .ge 25, 3) := by decide +kernel
theorem dX4_rulesWithWordOf_12 : decode cX4_rulesWithWordOf 12 = .ok (.aload_n 0, 1) := by decide +kernel
theorem dX4_rulesWithWordOf_13 : decode cX4_rulesWithWordOf 13 = .ok (.iload_n 3, 1) := by decide +kernel
theorem dX4_rulesWithWordOf_14 : decode cX4_rulesWithWordOf 14 = .ok (.iconst 3, 1) := by decide +kernel
theorem dX4_rulesWithWordOf_15 : decode cX4_rulesWithWordOf 15 = .ok (.invokevirtual 37, 3) := by decide +kernel
theorem dX4_rulesWithWordOf_18 : decode cX4_rulesWithWordOf 18 = .ok (.invokestatic 41, 3) := by decide +kernel
theorem dX4_rulesWithWordOf_21 : decode cX4_rulesWithWordOf 21 = .ok (.iload_n 1, 1) := by decide +kernel
theorem dX4_rulesWithWordOf_22 : decode cX4_rulesWithWordOf 22 = .ok (.if_icmp .ne 6, 3) := by decide +kernel
theorem dX4_rulesWithWordOf_25 : decode cX4_rulesWithWordOf 25 = .ok (.iinc 2 1, 3) := by decide +kernel
theorem dX4_rulesWithWordOf_28 : decode cX4_rulesWithWordOf 28 = .ok (.iinc 3 1, 3) := by decide +kernel
theorem dX4_rulesWithWordOf_31 : decode cX4_rulesWithWordOf 31 = .ok (.goto (-27), 3) := by decide +kernel
theorem dX4_rulesWithWordOf_34 : decode cX4_rulesWithWordOf 34 = .ok (.iload_n 2, 1) := by decide +kernel
theorem dX4_rulesWithWordOf_35 : decode cX4_rulesWithWordOf 35 = .ok (.ireturn, 1) := by decide +kernel
theorem dX5_init_0 : decode cX5_init 0 = .ok (.aload_n 0, 1) := by decide +kernel
theorem dX5_init_1 : decode cX5_init 1 = .ok (.invokespecial 3, 3) := by decide +kernel
theorem dX5_init_4 : decode cX5_init 4 = .ok (.aload_n 0, 1) := by decide +kernel
theorem dX5_init_5 : decode cX5_init 5 = .ok (.bipush (-6), 2) := by decide +kernel
theorem dX5_init_7 : decode cX5_init 7 = .ok (.putfield 9, 3) := by decide +kernel
theorem dX5_init_10 : decode cX5_init 10 = .ok (.aload_n 0, 1) := by decide +kernel
theorem dX5_init_11 : decode cX5_init 11 = .ok (.bipush 80, 2) := by decide +kernel
theorem dX5_init_13 : decode cX5_init 13 = .ok (.newarray .long, 2) := by decide +kernel
theorem dX5_init_15 : decode cX5_init 15 = .ok (.putfield 15, 3) := by decide +kernel
theorem dX5_init_18 : decode cX5_init 18 = .ok (.aload_n 0, 1) := by decide +kernel
theorem dX5_init_19 : decode cX5_init 19 = .ok (.aload_n 1, 1) := by decide +kernel
theorem dX5_init_20 : decode cX5_init 20 = .ok (.putfield 19, 3) := by decide +kernel
theorem dX5_init_23 : decode cX5_init 23 = .ok (.return_, 1) := by decide +kernel
theorem dX5_costOfRemoving_0 : decode cX5_costOfRemoving 0 = .ok (.aload_n 0, 1) := by decide +kernel
theorem dX5_costOfRemoving_1 : decode cX5_costOfRemoving 1 = .ok (.getfield 15, 3) := by decide +kernel
theorem dX5_costOfRemoving_4 : decode cX5_costOfRemoving 4 = .ok (.iload_n 1, 1) := by decide +kernel
theorem dX5_costOfRemoving_5 : decode cX5_costOfRemoving 5 = .ok (.iconst 4, 1) := by decide +kernel
theorem dX5_costOfRemoving_6 : decode cX5_costOfRemoving 6 = .ok (.imul, 1) := by decide +kernel
theorem dX5_costOfRemoving_7 : decode cX5_costOfRemoving 7 = .ok (.iload_n 2, 1) := by decide +kernel
theorem dX5_costOfRemoving_8 : decode cX5_costOfRemoving 8 = .ok (.iadd, 1) := by decide +kernel
theorem dX5_costOfRemoving_9 : decode cX5_costOfRemoving 9 = .ok (.laload, 1) := by decide +kernel
theorem dX5_costOfRemoving_10 : decode cX5_costOfRemoving 10 = .ok (.lreturn, 1) := by decide +kernel
theorem dX5_compute_0 : decode cX5_compute 0 = .ok (.aload_n 0, 1) := by decide +kernel
theorem dX5_compute_1 : decode cX5_compute 1 = .ok (.iload_n 1, 1) := by decide +kernel
theorem dX5_compute_2 : decode cX5_compute 2 = .ok (.putfield 9, 3) := by decide +kernel
theorem dX5_compute_5 : decode cX5_compute 5 = .ok (.aload_n 0, 1) := by decide +kernel
theorem dX5_compute_6 : decode cX5_compute 6 = .ok (.getfield 15, 3) := by decide +kernel
theorem dX5_compute_9 : decode cX5_compute 9 = .ok (.ldc2_w 23, 3) := by decide +kernel
theorem dX5_compute_12 : decode cX5_compute 12 = .ok (.invokestatic 25, 3) := by decide +kernel
theorem dX5_compute_15 : decode cX5_compute 15 = .ok (.iconst 1, 1) := by decide +kernel
theorem dX5_compute_16 : decode cX5_compute 16 = .ok (.istore_n 2, 1) := by decide +kernel
theorem dX5_compute_17 : decode cX5_compute 17 = .ok (.iconst 0, 1) := by decide +kernel
theorem dX5_compute_18 : decode cX5_compute 18 = .ok (.istore_n 3, 1) := by decide +kernel
theorem dX5_compute_19 : decode cX5_compute 19 = .ok (.iload_n 2, 1) := by decide +kernel
theorem dX5_compute_20 : decode cX5_compute 20 = .ok (.ifCond .eq 58, 3) := by decide +kernel
theorem dX5_compute_23 : decode cX5_compute 23 = .ok (.iload_n 3, 1) := by decide +kernel
theorem dX5_compute_24 : decode cX5_compute 24 = .ok (.bipush 80, 2) := by decide +kernel
theorem dX5_compute_26 : decode cX5_compute 26 = .ok (.if_icmp .gt 52, 3) := by decide +kernel
theorem dX5_compute_29 : decode cX5_compute 29 = .ok (.iconst 0, 1) := by decide +kernel
theorem dX5_compute_30 : decode cX5_compute 30 = .ok (.istore_n 2, 1) := by decide +kernel
theorem dX5_compute_31 : decode cX5_compute 31 = .ok (.iconst 0, 1) := by decide +kernel
theorem dX5_compute_32 : decode cX5_compute 32 = .ok (.istore 4, 2) := by decide +kernel
theorem dX5_compute_34 : decode cX5_compute 34 = .ok (.iload 4, 2) := by decide +kernel
theorem dX5_compute_36 : decode cX5_compute 36 = .ok (.aload_n 0, 1) := by decide +kernel
theorem dX5_compute_37 : decode cX5_compute 37 = .ok (.getfield 19, 3) := by decide +kernel
theorem dX5_compute_40 : decode cX5_compute 40 = .ok (.getfield 31, 3) := by decide +kernel
theorem dX5_compute_43 : decode cX5_compute 43 = .ok (.if_icmp .ge 29, 3) := by decide +kernel
theorem dX5_compute_46 : decode cX5_compute 46 = .ok (.iload 4, 2) := by decide +kernel
theorem dX5_compute_48 : decode cX5_compute 48 = .ok (.aload_n 0, 1) := by decide +kernel
theorem dX5_compute_49 : decode cX5_compute 49 = .ok (.getfield 9, 3) := by decide +kernel
theorem dX5_compute_52 : decode cX5_compute 52 = .ok (.if_icmp .eq 14, 3) := by decide +kernel
theorem dX5_compute_55 : decode cX5_compute 55 = .ok (.aload_n 0, 1) := by decide +kernel
theorem dX5_compute_56 : decode cX5_compute 56 = .ok (.iload 4, 2) := by decide +kernel
theorem dX5_compute_58 : decode cX5_compute 58 = .ok (.invokevirtual 36, 3) := by decide +kernel
theorem dX5_compute_61 : decode cX5_compute 61 = .ok (.ifCond .eq 5, 3) := by decide +kernel
theorem dX5_compute_64 : decode cX5_compute 64 = .ok (.iconst 1, 1) := by decide +kernel
theorem dX5_compute_65 : decode cX5_compute 65 = .ok (.istore_n 2, 1) := by decide +kernel
theorem dX5_compute_66 : decode cX5_compute 66 = .ok (.iinc 4 1, 3) := by decide +kernel
theorem dX5_compute_69 : decode cX5_compute 69 = .ok (.goto (-35), 3) := by decide +kernel
theorem dX5_compute_72 : decode cX5_compute 72 = .ok (.iinc 3 1, 3) := by decide +kernel
theorem dX5_compute_75 : decode cX5_compute 75 = .ok (.goto (-56), 3) := by decide +kernel
theorem dX5_compute_78 : decode cX5_compute 78 = .ok (.return_, 1) := by decide +kernel
theorem dX5_lowerPricesBy_0 : decode cX5_lowerPricesBy 0 = .ok (.aload_n 0, 1) := by decide +kernel
theorem dX5_lowerPricesBy_1 : decode cX5_lowerPricesBy 1 = .ok (.getfield 19, 3) := by decide +kernel
theorem dX5_lowerPricesBy_4 : decode cX5_lowerPricesBy 4 = .ok (.getfield 40, 3) := by decide +kernel
theorem dX5_lowerPricesBy_7 : decode cX5_lowerPricesBy 7 = .ok (.iload_n 1, 1) := by decide +kernel
theorem dX5_lowerPricesBy_8 : decode cX5_lowerPricesBy 8 = .ok (.iaload, 1) := by decide +kernel
theorem dX5_lowerPricesBy_9 : decode cX5_lowerPricesBy 9 = .ok (.iconst 4, 1) := by decide +kernel
theorem dX5_lowerPricesBy_10 : decode cX5_lowerPricesBy 10 = .ok (.imul, 1) := by decide +kernel
theorem dX5_lowerPricesBy_11 : decode cX5_lowerPricesBy 11 = .ok (.istore_n 2, 1) := by decide +kernel
theorem dX5_lowerPricesBy_12 : decode cX5_lowerPricesBy 12 = .ok (.aload_n 0, 1) := by decide +kernel
theorem dX5_lowerPricesBy_13 : decode cX5_lowerPricesBy 13 = .ok (.getfield 19, 3) := by decide +kernel
theorem dX5_lowerPricesBy_16 : decode cX5_lowerPricesBy 16 = .ok (.getfield 44, 3) := by decide +kernel
theorem dX5_lowerPricesBy_19 : decode cX5_lowerPricesBy 19 = .ok (.iload_n 1, 1) := by decide +kernel
theorem dX5_lowerPricesBy_20 : decode cX5_lowerPricesBy 20 = .ok (.laload, 1) := by decide +kernel
theorem dX5_lowerPricesBy_21 : decode cX5_lowerPricesBy 21 = .ok (.lstore_n 3, 1) := by decide +kernel
theorem dX5_lowerPricesBy_22 : decode cX5_lowerPricesBy 22 = .ok (.aload_n 0, 1) := by decide +kernel
theorem dX5_lowerPricesBy_23 : decode cX5_lowerPricesBy 23 = .ok (.getfield 19, 3) := by decide +kernel
theorem dX5_lowerPricesBy_26 : decode cX5_lowerPricesBy 26 = .ok (.getfield 47, 3) := by decide +kernel
theorem dX5_lowerPricesBy_29 : decode cX5_lowerPricesBy 29 = .ok (.iload_n 1, 1) := by decide +kernel
theorem dX5_lowerPricesBy_30 : decode cX5_lowerPricesBy 30 = .ok (.iaload, 1) := by decide +kernel
theorem dX5_lowerPricesBy_31 : decode cX5_lowerPricesBy 31 = .ok (.ifCond .ne 23, 3) := by decide +kernel
theorem dX5_lowerPricesBy_34 : decode cX5_lowerPricesBy 34 = .ok (.aload_n 0, 1) := by decide +kernel
theorem dX5_lowerPricesBy_35 : decode cX5_lowerPricesBy 35 = .ok (.getfield 15, 3) := by decide +kernel
theorem dX5_lowerPricesBy_38 : decode cX5_lowerPricesBy 38 = .ok (.iload_n 2, 1) := by decide +kernel
theorem dX5_lowerPricesBy_39 : decode cX5_lowerPricesBy 39 = .ok (.aload_n 0, 1) := by decide +kernel
theorem dX5_lowerPricesBy_40 : decode cX5_lowerPricesBy 40 = .ok (.getfield 19, 3) := by decide +kernel
theorem dX5_lowerPricesBy_43 : decode cX5_lowerPricesBy 43 = .ok (.getfield 50, 3) := by decide +kernel
theorem dX5_lowerPricesBy_46 : decode cX5_lowerPricesBy 46 = .ok (.iload_n 1, 1) := by decide +kernel
theorem dX5_lowerPricesBy_47 : decode cX5_lowerPricesBy 47 = .ok (.iaload, 1) := by decide +kernel
theorem dX5_lowerPricesBy_48 : decode cX5_lowerPricesBy 48 = .ok (.iadd, 1) := by decide +kernel
theorem dX5_lowerPricesBy_49 : decode cX5_lowerPricesBy 49 = .ok (.lload_n 3, 1) := by decide +kernel
theorem dX5_lowerPricesBy_50 : decode cX5_lowerPricesBy 50 = .ok (.invokestatic 53, 3) := by decide +kernel
theorem dX5_lowerPricesBy_53 : decode cX5_lowerPricesBy 53 = .ok (.ireturn, 1) := by decide +kernel
theorem dX5_lowerPricesBy_54 : decode cX5_lowerPricesBy 54 = .ok (.aload_n 0, 1) := by decide +kernel
theorem dX5_lowerPricesBy_55 : decode cX5_lowerPricesBy 55 = .ok (.getfield 19, 3) := by decide +kernel
theorem dX5_lowerPricesBy_58 : decode cX5_lowerPricesBy 58 = .ok (.getfield 47, 3) := by decide +kernel
theorem dX5_lowerPricesBy_61 : decode cX5_lowerPricesBy 61 = .ok (.iload_n 1, 1) := by decide +kernel
theorem dX5_lowerPricesBy_62 : decode cX5_lowerPricesBy 62 = .ok (.iaload, 1) := by decide +kernel
theorem dX5_lowerPricesBy_63 : decode cX5_lowerPricesBy 63 = .ok (.iconst 1, 1) := by decide +kernel
theorem dX5_lowerPricesBy_64 : decode cX5_lowerPricesBy 64 = .ok (.if_icmp .ne 19, 3) := by decide +kernel
theorem dX5_lowerPricesBy_67 : decode cX5_lowerPricesBy 67 = .ok (.aload_n 0, 1) := by decide +kernel
theorem dX5_lowerPricesBy_68 : decode cX5_lowerPricesBy 68 = .ok (.iload_n 2, 1) := by decide +kernel
theorem dX5_lowerPricesBy_69 : decode cX5_lowerPricesBy 69 = .ok (.aload_n 0, 1) := by decide +kernel
theorem dX5_lowerPricesBy_70 : decode cX5_lowerPricesBy 70 = .ok (.getfield 19, 3) := by decide +kernel
theorem dX5_lowerPricesBy_73 : decode cX5_lowerPricesBy 73 = .ok (.getfield 57, 3) := by decide +kernel
theorem dX5_lowerPricesBy_76 : decode cX5_lowerPricesBy 76 = .ok (.iload_n 1, 1) := by decide +kernel
theorem dX5_lowerPricesBy_77 : decode cX5_lowerPricesBy 77 = .ok (.iaload, 1) := by decide +kernel
theorem dX5_lowerPricesBy_78 : decode cX5_lowerPricesBy 78 = .ok (.lload_n 3, 1) := by decide +kernel
theorem dX5_lowerPricesBy_79 : decode cX5_lowerPricesBy 79 = .ok (.invokevirtual 60, 3) := by decide +kernel
theorem dX5_lowerPricesBy_82 : decode cX5_lowerPricesBy 82 = .ok (.ireturn, 1) := by decide +kernel
theorem dX5_lowerPricesBy_83 : decode cX5_lowerPricesBy 83 = .ok (.iconst 0, 1) := by decide +kernel
theorem dX5_lowerPricesBy_84 : decode cX5_lowerPricesBy 84 = .ok (.istore 5, 2) := by decide +kernel
theorem dX5_lowerPricesBy_86 : decode cX5_lowerPricesBy 86 = .ok (.iconst 0, 1) := by decide +kernel
theorem dX5_lowerPricesBy_87 : decode cX5_lowerPricesBy 87 = .ok (.istore 6, 2) := by decide +kernel
theorem dX5_lowerPricesBy_89 : decode cX5_lowerPricesBy 89 = .ok (.iload 6, 2) := by decide +kernel
theorem dX5_lowerPricesBy_91 : decode cX5_lowerPricesBy 91 = .ok (.aload_n 0, 1) := by decide +kernel
theorem dX5_lowerPricesBy_92 : decode cX5_lowerPricesBy 92 = .ok (.getfield 19, 3) := by decide +kernel
theorem dX5_lowerPricesBy_95 : decode cX5_lowerPricesBy 95 = .ok (.getfield 64, 3) := by decide +kernel
theorem dX5_lowerPricesBy_98 : decode cX5_lowerPricesBy 98 = .ok (.if_icmp .ge 64, 3) := by decide +kernel
theorem dX5_lowerPricesBy_101 : decode cX5_lowerPricesBy 101 = .ok (.lload_n 3, 1) := by decide +kernel
theorem dX5_lowerPricesBy_102 : decode cX5_lowerPricesBy 102 = .ok (.aload_n 0, 1) := by decide +kernel
theorem dX5_lowerPricesBy_103 : decode cX5_lowerPricesBy 103 = .ok (.aload_n 0, 1) := by decide +kernel
theorem dX5_lowerPricesBy_104 : decode cX5_lowerPricesBy 104 = .ok (.getfield 19, 3) := by decide +kernel
theorem dX5_lowerPricesBy_107 : decode cX5_lowerPricesBy 107 = .ok (.getfield 57, 3) := by decide +kernel
theorem dX5_lowerPricesBy_110 : decode cX5_lowerPricesBy 110 = .ok (.iload_n 1, 1) := by decide +kernel
theorem dX5_lowerPricesBy_111 : decode cX5_lowerPricesBy 111 = .ok (.iaload, 1) := by decide +kernel
theorem dX5_lowerPricesBy_112 : decode cX5_lowerPricesBy 112 = .ok (.iload 6, 2) := by decide +kernel
theorem dX5_lowerPricesBy_114 : decode cX5_lowerPricesBy 114 = .ok (.invokevirtual 67, 3) := by decide +kernel
theorem dX5_lowerPricesBy_117 : decode cX5_lowerPricesBy 117 = .ok (.ladd, 1) := by decide +kernel
theorem dX5_lowerPricesBy_118 : decode cX5_lowerPricesBy 118 = .ok (.lstore 7, 2) := by decide +kernel
theorem dX5_lowerPricesBy_120 : decode cX5_lowerPricesBy 120 = .ok (.lload 7, 2) := by decide +kernel
theorem dX5_lowerPricesBy_122 : decode cX5_lowerPricesBy 122 = .ok (.ldc2_w 23, 3) := by decide +kernel
theorem dX5_lowerPricesBy_125 : decode cX5_lowerPricesBy 125 = .ok (.lcmp, 1) := by decide +kernel
theorem dX5_lowerPricesBy_126 : decode cX5_lowerPricesBy 126 = .ok (.ifCond .ge 30, 3) := by decide +kernel
theorem dX5_lowerPricesBy_129 : decode cX5_lowerPricesBy 129 = .ok (.aload_n 0, 1) := by decide +kernel
theorem dX5_lowerPricesBy_130 : decode cX5_lowerPricesBy 130 = .ok (.iload_n 2, 1) := by decide +kernel
theorem dX5_lowerPricesBy_131 : decode cX5_lowerPricesBy 131 = .ok (.iload 6, 2) := by decide +kernel
theorem dX5_lowerPricesBy_133 : decode cX5_lowerPricesBy 133 = .ok (.aload_n 0, 1) := by decide +kernel
theorem dX5_lowerPricesBy_134 : decode cX5_lowerPricesBy 134 = .ok (.getfield 19, 3) := by decide +kernel
theorem dX5_lowerPricesBy_137 : decode cX5_lowerPricesBy 137 = .ok (.getfield 71, 3) := by decide +kernel
theorem dX5_lowerPricesBy_140 : decode cX5_lowerPricesBy 140 = .ok (.iload_n 1, 1) := by decide +kernel
theorem dX5_lowerPricesBy_141 : decode cX5_lowerPricesBy 141 = .ok (.iaload, 1) := by decide +kernel
theorem dX5_lowerPricesBy_142 : decode cX5_lowerPricesBy 142 = .ok (.invokestatic 74, 3) := by decide +kernel
theorem dX5_lowerPricesBy_145 : decode cX5_lowerPricesBy 145 = .ok (.lload 7, 2) := by decide +kernel
theorem dX5_lowerPricesBy_147 : decode cX5_lowerPricesBy 147 = .ok (.invokevirtual 60, 3) := by decide +kernel
theorem dX5_lowerPricesBy_150 : decode cX5_lowerPricesBy 150 = .ok (.ifCond .eq 6, 3) := by decide +kernel
theorem dX5_lowerPricesBy_153 : decode cX5_lowerPricesBy 153 = .ok (.iconst 1, 1) := by decide +kernel
theorem dX5_lowerPricesBy_154 : decode cX5_lowerPricesBy 154 = .ok (.istore 5, 2) := by decide +kernel
theorem dX5_lowerPricesBy_156 : decode cX5_lowerPricesBy 156 = .ok (.iinc 6 1, 3) := by decide +kernel
theorem dX5_lowerPricesBy_159 : decode cX5_lowerPricesBy 159 = .ok (.goto (-70), 3) := by decide +kernel
theorem dX5_lowerPricesBy_162 : decode cX5_lowerPricesBy 162 = .ok (.iload 5, 2) := by decide +kernel
theorem dX5_lowerPricesBy_164 : decode cX5_lowerPricesBy 164 = .ok (.ireturn, 1) := by decide +kernel
theorem dX5_lowerPricesThrough_0 : decode cX5_lowerPricesThrough 0 = .ok (.iconst 0, 1) := by decide +kernel
theorem dX5_lowerPricesThrough_1 : decode cX5_lowerPricesThrough 1 = .ok (.istore 5, 2) := by decide +kernel
theorem dX5_lowerPricesThrough_3 : decode cX5_lowerPricesThrough 3 = .ok (.iconst 0, 1) := by decide +kernel
theorem dX5_lowerPricesThrough_4 : decode cX5_lowerPricesThrough 4 = .ok (.istore 6, 2) := by decide +kernel
theorem dX5_lowerPricesThrough_6 : decode cX5_lowerPricesThrough 6 = .ok (.iload 6, 2) := by decide +kernel
theorem dX5_lowerPricesThrough_8 : decode cX5_lowerPricesThrough 8 = .ok (.aload_n 0, 1) := by decide +kernel
theorem dX5_lowerPricesThrough_9 : decode cX5_lowerPricesThrough 9 = .ok (.getfield 19, 3) := by decide +kernel
theorem dX5_lowerPricesThrough_12 : decode cX5_lowerPricesThrough 12 = .ok (.getfield 64, 3) := by decide +kernel
theorem dX5_lowerPricesThrough_15 : decode cX5_lowerPricesThrough 15 = .ok (.if_icmp .ge 35, 3) := by decide +kernel
theorem dX5_lowerPricesThrough_18 : decode cX5_lowerPricesThrough 18 = .ok (.aload_n 0, 1) := by decide +kernel
theorem dX5_lowerPricesThrough_19 : decode cX5_lowerPricesThrough 19 = .ok (.getfield 15, 3) := by decide +kernel
theorem dX5_lowerPricesThrough_22 : decode cX5_lowerPricesThrough 22 = .ok (.iload_n 1, 1) := by decide +kernel
theorem dX5_lowerPricesThrough_23 : decode cX5_lowerPricesThrough 23 = .ok (.iload 6, 2) := by decide +kernel
theorem dX5_lowerPricesThrough_25 : decode cX5_lowerPricesThrough 25 = .ok (.iadd, 1) := by decide +kernel
theorem dX5_lowerPricesThrough_26 : decode cX5_lowerPricesThrough 26 = .ok (.lload_n 3, 1) := by decide +kernel
theorem dX5_lowerPricesThrough_27 : decode cX5_lowerPricesThrough 27 = .ok (.aload_n 0, 1) := by decide +kernel
theorem dX5_lowerPricesThrough_28 : decode cX5_lowerPricesThrough 28 = .ok (.iload_n 2, 1) := by decide +kernel
theorem dX5_lowerPricesThrough_29 : decode cX5_lowerPricesThrough 29 = .ok (.iload 6, 2) := by decide +kernel
theorem dX5_lowerPricesThrough_31 : decode cX5_lowerPricesThrough 31 = .ok (.invokevirtual 67, 3) := by decide +kernel
theorem dX5_lowerPricesThrough_34 : decode cX5_lowerPricesThrough 34 = .ok (.ladd, 1) := by decide +kernel
theorem dX5_lowerPricesThrough_35 : decode cX5_lowerPricesThrough 35 = .ok (.invokestatic 53, 3) := by decide +kernel
theorem dX5_lowerPricesThrough_38 : decode cX5_lowerPricesThrough 38 = .ok (.ifCond .eq 6, 3) := by decide +kernel
theorem dX5_lowerPricesThrough_41 : decode cX5_lowerPricesThrough 41 = .ok (.iconst 1, 1) := by decide +kernel
theorem dX5_lowerPricesThrough_42 : decode cX5_lowerPricesThrough 42 = .ok (.istore 5, 2) := by decide +kernel
theorem dX5_lowerPricesThrough_44 : decode cX5_lowerPricesThrough 44 = .ok (.iinc 6 1, 3) := by decide +kernel
theorem dX5_lowerPricesThrough_47 : decode cX5_lowerPricesThrough 47 = .ok (.goto (-41), 3) := by decide +kernel
theorem dX5_lowerPricesThrough_50 : decode cX5_lowerPricesThrough 50 = .ok (.iload 5, 2) := by decide +kernel
theorem dX5_lowerPricesThrough_52 : decode cX5_lowerPricesThrough 52 = .ok (.ireturn, 1) := by decide +kernel
theorem dX5_spread_0 : decode cX5_spread 0 = .ok (.iconst 1, 1) := by decide +kernel
theorem dX5_spread_1 : decode cX5_spread 1 = .ok (.istore_n 2, 1) := by decide +kernel
theorem dX5_spread_2 : decode cX5_spread 2 = .ok (.iconst 0, 1) := by decide +kernel
theorem dX5_spread_3 : decode cX5_spread 3 = .ok (.istore_n 3, 1) := by decide +kernel
theorem dX5_spread_4 : decode cX5_spread 4 = .ok (.iload_n 2, 1) := by decide +kernel
theorem dX5_spread_5 : decode cX5_spread 5 = .ok (.ifCond .eq 78, 3) := by decide +kernel
theorem dX5_spread_8 : decode cX5_spread 8 = .ok (.iload_n 3, 1) := by decide +kernel
theorem dX5_spread_9 : decode cX5_spread 9 = .ok (.bipush 20, 2) := by decide +kernel
theorem dX5_spread_11 : decode cX5_spread 11 = .ok (.if_icmp .gt 72, 3) := by decide +kernel
theorem dX5_spread_14 : decode cX5_spread 14 = .ok (.iconst 0, 1) := by decide +kernel
theorem dX5_spread_15 : decode cX5_spread 15 = .ok (.istore_n 2, 1) := by decide +kernel
theorem dX5_spread_16 : decode cX5_spread 16 = .ok (.iconst 0, 1) := by decide +kernel
theorem dX5_spread_17 : decode cX5_spread 17 = .ok (.istore 4, 2) := by decide +kernel
theorem dX5_spread_19 : decode cX5_spread 19 = .ok (.iload 4, 2) := by decide +kernel
theorem dX5_spread_21 : decode cX5_spread 21 = .ok (.aload_n 0, 1) := by decide +kernel
theorem dX5_spread_22 : decode cX5_spread 22 = .ok (.getfield 19, 3) := by decide +kernel
theorem dX5_spread_25 : decode cX5_spread 25 = .ok (.getfield 31, 3) := by decide +kernel
theorem dX5_spread_28 : decode cX5_spread 28 = .ok (.if_icmp .ge 49, 3) := by decide +kernel
theorem dX5_spread_31 : decode cX5_spread 31 = .ok (.iload 4, 2) := by decide +kernel
theorem dX5_spread_33 : decode cX5_spread 33 = .ok (.aload_n 0, 1) := by decide +kernel
theorem dX5_spread_34 : decode cX5_spread 34 = .ok (.getfield 9, 3) := by decide +kernel
theorem dX5_spread_37 : decode cX5_spread 37 = .ok (.if_icmp .eq 34, 3) := by decide +kernel
theorem dX5_spread_40 : decode cX5_spread 40 = .ok (.aload_n 1, 1) := by decide +kernel
theorem dX5_spread_41 : decode cX5_spread 41 = .ok (.aload_n 0, 1) := by decide +kernel
theorem dX5_spread_42 : decode cX5_spread 42 = .ok (.getfield 19, 3) := by decide +kernel
theorem dX5_spread_45 : decode cX5_spread 45 = .ok (.getfield 40, 3) := by decide +kernel
theorem dX5_spread_48 : decode cX5_spread 48 = .ok (.iload 4, 2) := by decide +kernel
theorem dX5_spread_50 : decode cX5_spread 50 = .ok (.iaload, 1) := by decide +kernel
theorem dX5_spread_51 : decode cX5_spread 51 = .ok (.laload, 1) := by decide +kernel
theorem dX5_spread_52 : decode cX5_spread 52 = .ok (.ldc2_w 23, 3) := by decide +kernel
theorem dX5_spread_55 : decode cX5_spread 55 = .ok (.lcmp, 1) := by decide +kernel
theorem dX5_spread_56 : decode cX5_spread 56 = .ok (.ifCond .ge 15, 3) := by decide +kernel
theorem dX5_spread_59 : decode cX5_spread 59 = .ok (.aload_n 0, 1) := by decide +kernel
theorem dX5_spread_60 : decode cX5_spread 60 = .ok (.iload 4, 2) := by decide +kernel
theorem dX5_spread_62 : decode cX5_spread 62 = .ok (.aload_n 1, 1) := by decide +kernel
theorem dX5_spread_63 : decode cX5_spread 63 = .ok (.invokevirtual 78, 3) := by decide +kernel
theorem dX5_spread_66 : decode cX5_spread 66 = .ok (.ifCond .eq 5, 3) := by decide +kernel
theorem dX5_spread_69 : decode cX5_spread 69 = .ok (.iconst 1, 1) := by decide +kernel
theorem dX5_spread_70 : decode cX5_spread 70 = .ok (.istore_n 2, 1) := by decide +kernel
theorem dX5_spread_71 : decode cX5_spread 71 = .ok (.iinc 4 1, 3) := by decide +kernel
theorem dX5_spread_74 : decode cX5_spread 74 = .ok (.goto (-55), 3) := by decide +kernel
theorem dX5_spread_77 : decode cX5_spread 77 = .ok (.iinc 3 1, 3) := by decide +kernel
theorem dX5_spread_80 : decode cX5_spread 80 = .ok (.goto (-76), 3) := by decide +kernel
theorem dX5_spread_83 : decode cX5_spread 83 = .ok (.return_, 1) := by decide +kernel
theorem dX5_spreadBy_0 : decode cX5_spreadBy 0 = .ok (.aload_n 2, 1) := by decide +kernel
theorem dX5_spreadBy_1 : decode cX5_spreadBy 1 = .ok (.aload_n 0, 1) := by decide +kernel
theorem dX5_spreadBy_2 : decode cX5_spreadBy 2 = .ok (.getfield 19, 3) := by decide +kernel
theorem dX5_spreadBy_5 : decode cX5_spreadBy 5 = .ok (.getfield 40, 3) := by decide +kernel
theorem dX5_spreadBy_8 : decode cX5_spreadBy 8 = .ok (.iload_n 1, 1) := by decide +kernel
theorem dX5_spreadBy_9 : decode cX5_spreadBy 9 = .ok (.iaload, 1) := by decide +kernel
theorem dX5_spreadBy_10 : decode cX5_spreadBy 10 = .ok (.laload, 1) := by decide +kernel
theorem dX5_spreadBy_11 : decode cX5_spreadBy 11 = .ok (.aload_n 0, 1) := by decide +kernel
theorem dX5_spreadBy_12 : decode cX5_spreadBy 12 = .ok (.getfield 19, 3) := by decide +kernel
theorem dX5_spreadBy_15 : decode cX5_spreadBy 15 = .ok (.getfield 44, 3) := by decide +kernel
theorem dX5_spreadBy_18 : decode cX5_spreadBy 18 = .ok (.iload_n 1, 1) := by decide +kernel
theorem dX5_spreadBy_19 : decode cX5_spreadBy 19 = .ok (.laload, 1) := by decide +kernel
theorem dX5_spreadBy_20 : decode cX5_spreadBy 20 = .ok (.ladd, 1) := by decide +kernel
theorem dX5_spreadBy_21 : decode cX5_spreadBy 21 = .ok (.lstore_n 3, 1) := by decide +kernel
theorem dX5_spreadBy_22 : decode cX5_spreadBy 22 = .ok (.aload_n 0, 1) := by decide +kernel
theorem dX5_spreadBy_23 : decode cX5_spreadBy 23 = .ok (.getfield 19, 3) := by decide +kernel
theorem dX5_spreadBy_26 : decode cX5_spreadBy 26 = .ok (.getfield 47, 3) := by decide +kernel
theorem dX5_spreadBy_29 : decode cX5_spreadBy 29 = .ok (.iload_n 1, 1) := by decide +kernel
theorem dX5_spreadBy_30 : decode cX5_spreadBy 30 = .ok (.iaload, 1) := by decide +kernel
theorem dX5_spreadBy_31 : decode cX5_spreadBy 31 = .ok (.iconst 1, 1) := by decide +kernel
theorem dX5_spreadBy_32 : decode cX5_spreadBy 32 = .ok (.if_icmp .ne 18, 3) := by decide +kernel
theorem dX5_spreadBy_35 : decode cX5_spreadBy 35 = .ok (.aload_n 2, 1) := by decide +kernel
theorem dX5_spreadBy_36 : decode cX5_spreadBy 36 = .ok (.aload_n 0, 1) := by decide +kernel
theorem dX5_spreadBy_37 : decode cX5_spreadBy 37 = .ok (.getfield 19, 3) := by decide +kernel
theorem dX5_spreadBy_40 : decode cX5_spreadBy 40 = .ok (.getfield 57, 3) := by decide +kernel
theorem dX5_spreadBy_43 : decode cX5_spreadBy 43 = .ok (.iload_n 1, 1) := by decide +kernel
theorem dX5_spreadBy_44 : decode cX5_spreadBy 44 = .ok (.iaload, 1) := by decide +kernel
theorem dX5_spreadBy_45 : decode cX5_spreadBy 45 = .ok (.lload_n 3, 1) := by decide +kernel
theorem dX5_spreadBy_46 : decode cX5_spreadBy 46 = .ok (.invokestatic 53, 3) := by decide +kernel
theorem dX5_spreadBy_49 : decode cX5_spreadBy 49 = .ok (.ireturn, 1) := by decide +kernel
theorem dX5_spreadBy_50 : decode cX5_spreadBy 50 = .ok (.aload_n 0, 1) := by decide +kernel
theorem dX5_spreadBy_51 : decode cX5_spreadBy 51 = .ok (.getfield 19, 3) := by decide +kernel
theorem dX5_spreadBy_54 : decode cX5_spreadBy 54 = .ok (.getfield 47, 3) := by decide +kernel
theorem dX5_spreadBy_57 : decode cX5_spreadBy 57 = .ok (.iload_n 1, 1) := by decide +kernel
theorem dX5_spreadBy_58 : decode cX5_spreadBy 58 = .ok (.iaload, 1) := by decide +kernel
theorem dX5_spreadBy_59 : decode cX5_spreadBy 59 = .ok (.ifCond .ne 5, 3) := by decide +kernel
theorem dX5_spreadBy_62 : decode cX5_spreadBy 62 = .ok (.iconst 0, 1) := by decide +kernel
theorem dX5_spreadBy_63 : decode cX5_spreadBy 63 = .ok (.ireturn, 1) := by decide +kernel
theorem dX5_spreadBy_64 : decode cX5_spreadBy 64 = .ok (.iconst 0, 1) := by decide +kernel
theorem dX5_spreadBy_65 : decode cX5_spreadBy 65 = .ok (.istore 5, 2) := by decide +kernel
theorem dX5_spreadBy_67 : decode cX5_spreadBy 67 = .ok (.iconst 0, 1) := by decide +kernel
theorem dX5_spreadBy_68 : decode cX5_spreadBy 68 = .ok (.istore 6, 2) := by decide +kernel
theorem dX5_spreadBy_70 : decode cX5_spreadBy 70 = .ok (.iload 6, 2) := by decide +kernel
theorem dX5_spreadBy_72 : decode cX5_spreadBy 72 = .ok (.aload_n 0, 1) := by decide +kernel
theorem dX5_spreadBy_73 : decode cX5_spreadBy 73 = .ok (.getfield 19, 3) := by decide +kernel
theorem dX5_spreadBy_76 : decode cX5_spreadBy 76 = .ok (.getfield 64, 3) := by decide +kernel
theorem dX5_spreadBy_79 : decode cX5_spreadBy 79 = .ok (.if_icmp .ge 54, 3) := by decide +kernel
theorem dX5_spreadBy_82 : decode cX5_spreadBy 82 = .ok (.lload_n 3, 1) := by decide +kernel
theorem dX5_spreadBy_83 : decode cX5_spreadBy 83 = .ok (.aload_n 0, 1) := by decide +kernel
theorem dX5_spreadBy_84 : decode cX5_spreadBy 84 = .ok (.aload_n 0, 1) := by decide +kernel
theorem dX5_spreadBy_85 : decode cX5_spreadBy 85 = .ok (.getfield 19, 3) := by decide +kernel
theorem dX5_spreadBy_88 : decode cX5_spreadBy 88 = .ok (.getfield 57, 3) := by decide +kernel
theorem dX5_spreadBy_91 : decode cX5_spreadBy 91 = .ok (.iload_n 1, 1) := by decide +kernel
theorem dX5_spreadBy_92 : decode cX5_spreadBy 92 = .ok (.iaload, 1) := by decide +kernel
theorem dX5_spreadBy_93 : decode cX5_spreadBy 93 = .ok (.iload 6, 2) := by decide +kernel
theorem dX5_spreadBy_95 : decode cX5_spreadBy 95 = .ok (.invokevirtual 67, 3) := by decide +kernel
theorem dX5_spreadBy_98 : decode cX5_spreadBy 98 = .ok (.ladd, 1) := by decide +kernel
theorem dX5_spreadBy_99 : decode cX5_spreadBy 99 = .ok (.lstore 7, 2) := by decide +kernel
theorem dX5_spreadBy_101 : decode cX5_spreadBy 101 = .ok (.aload_n 2, 1) := by decide +kernel
theorem dX5_spreadBy_102 : decode cX5_spreadBy 102 = .ok (.iload 6, 2) := by decide +kernel
theorem dX5_spreadBy_104 : decode cX5_spreadBy 104 = .ok (.aload_n 0, 1) := by decide +kernel
theorem dX5_spreadBy_105 : decode cX5_spreadBy 105 = .ok (.getfield 19, 3) := by decide +kernel
theorem dX5_spreadBy_108 : decode cX5_spreadBy 108 = .ok (.getfield 71, 3) := by decide +kernel
theorem dX5_spreadBy_111 : decode cX5_spreadBy 111 = .ok (.iload_n 1, 1) := by decide +kernel
theorem dX5_spreadBy_112 : decode cX5_spreadBy 112 = .ok (.iaload, 1) := by decide +kernel
theorem dX5_spreadBy_113 : decode cX5_spreadBy 113 = .ok (.invokestatic 74, 3) := by decide +kernel
theorem dX5_spreadBy_116 : decode cX5_spreadBy 116 = .ok (.lload 7, 2) := by decide +kernel
theorem dX5_spreadBy_118 : decode cX5_spreadBy 118 = .ok (.invokestatic 53, 3) := by decide +kernel
theorem dX5_spreadBy_121 : decode cX5_spreadBy 121 = .ok (.ifCond .eq 6, 3) := by decide +kernel
theorem dX5_spreadBy_124 : decode cX5_spreadBy 124 = .ok (.iconst 1, 1) := by decide +kernel
theorem dX5_spreadBy_125 : decode cX5_spreadBy 125 = .ok (.istore 5, 2) := by decide +kernel
theorem dX5_spreadBy_127 : decode cX5_spreadBy 127 = .ok (.iinc 6 1, 3) := by decide +kernel
theorem dX5_spreadBy_130 : decode cX5_spreadBy 130 = .ok (.goto (-60), 3) := by decide +kernel
theorem dX5_spreadBy_133 : decode cX5_spreadBy 133 = .ok (.iload 5, 2) := by decide +kernel
theorem dX5_spreadBy_135 : decode cX5_spreadBy 135 = .ok (.ireturn, 1) := by decide +kernel
theorem dX5_gather_0 : decode cX5_gather 0 = .ok (.iconst 1, 1) := by decide +kernel
theorem dX5_gather_1 : decode cX5_gather 1 = .ok (.istore_n 2, 1) := by decide +kernel
theorem dX5_gather_2 : decode cX5_gather 2 = .ok (.iconst 0, 1) := by decide +kernel
theorem dX5_gather_3 : decode cX5_gather 3 = .ok (.istore_n 3, 1) := by decide +kernel
theorem dX5_gather_4 : decode cX5_gather 4 = .ok (.iload_n 2, 1) := by decide +kernel
theorem dX5_gather_5 : decode cX5_gather 5 = .ok (.ifCond .eq 59, 3) := by decide +kernel
theorem dX5_gather_8 : decode cX5_gather 8 = .ok (.iload_n 3, 1) := by decide +kernel
theorem dX5_gather_9 : decode cX5_gather 9 = .ok (.bipush 20, 2) := by decide +kernel
theorem dX5_gather_11 : decode cX5_gather 11 = .ok (.if_icmp .gt 53, 3) := by decide +kernel
theorem dX5_gather_14 : decode cX5_gather 14 = .ok (.iconst 0, 1) := by decide +kernel
theorem dX5_gather_15 : decode cX5_gather 15 = .ok (.istore_n 2, 1) := by decide +kernel
theorem dX5_gather_16 : decode cX5_gather 16 = .ok (.iconst 0, 1) := by decide +kernel
theorem dX5_gather_17 : decode cX5_gather 17 = .ok (.istore 4, 2) := by decide +kernel
theorem dX5_gather_19 : decode cX5_gather 19 = .ok (.iload 4, 2) := by decide +kernel
theorem dX5_gather_21 : decode cX5_gather 21 = .ok (.aload_n 0, 1) := by decide +kernel
theorem dX5_gather_22 : decode cX5_gather 22 = .ok (.getfield 19, 3) := by decide +kernel
theorem dX5_gather_25 : decode cX5_gather 25 = .ok (.getfield 31, 3) := by decide +kernel
theorem dX5_gather_28 : decode cX5_gather 28 = .ok (.if_icmp .ge 30, 3) := by decide +kernel
theorem dX5_gather_31 : decode cX5_gather 31 = .ok (.iload 4, 2) := by decide +kernel
theorem dX5_gather_33 : decode cX5_gather 33 = .ok (.aload_n 0, 1) := by decide +kernel
theorem dX5_gather_34 : decode cX5_gather 34 = .ok (.getfield 9, 3) := by decide +kernel
theorem dX5_gather_37 : decode cX5_gather 37 = .ok (.if_icmp .eq 15, 3) := by decide +kernel
theorem dX5_gather_40 : decode cX5_gather 40 = .ok (.aload_n 0, 1) := by decide +kernel
theorem dX5_gather_41 : decode cX5_gather 41 = .ok (.iload 4, 2) := by decide +kernel
theorem dX5_gather_43 : decode cX5_gather 43 = .ok (.aload_n 1, 1) := by decide +kernel
theorem dX5_gather_44 : decode cX5_gather 44 = .ok (.invokevirtual 82, 3) := by decide +kernel
theorem dX5_gather_47 : decode cX5_gather 47 = .ok (.ifCond .eq 5, 3) := by decide +kernel
theorem dX5_gather_50 : decode cX5_gather 50 = .ok (.iconst 1, 1) := by decide +kernel
theorem dX5_gather_51 : decode cX5_gather 51 = .ok (.istore_n 2, 1) := by decide +kernel
theorem dX5_gather_52 : decode cX5_gather 52 = .ok (.iinc 4 1, 3) := by decide +kernel
theorem dX5_gather_55 : decode cX5_gather 55 = .ok (.goto (-36), 3) := by decide +kernel
theorem dX5_gather_58 : decode cX5_gather 58 = .ok (.iinc 3 1, 3) := by decide +kernel
theorem dX5_gather_61 : decode cX5_gather 61 = .ok (.goto (-57), 3) := by decide +kernel
theorem dX5_gather_64 : decode cX5_gather 64 = .ok (.return_, 1) := by decide +kernel
theorem dX5_gatherBy_0 : decode cX5_gatherBy 0 = .ok (.aload_n 0, 1) := by decide +kernel
theorem dX5_gatherBy_1 : decode cX5_gatherBy 1 = .ok (.getfield 19, 3) := by decide +kernel
theorem dX5_gatherBy_4 : decode cX5_gatherBy 4 = .ok (.getfield 40, 3) := by decide +kernel
theorem dX5_gatherBy_7 : decode cX5_gatherBy 7 = .ok (.iload_n 1, 1) := by decide +kernel
theorem dX5_gatherBy_8 : decode cX5_gatherBy 8 = .ok (.iaload, 1) := by decide +kernel
theorem dX5_gatherBy_9 : decode cX5_gatherBy 9 = .ok (.istore_n 3, 1) := by decide +kernel
theorem dX5_gatherBy_10 : decode cX5_gatherBy 10 = .ok (.aload_n 0, 1) := by decide +kernel
theorem dX5_gatherBy_11 : decode cX5_gatherBy 11 = .ok (.getfield 19, 3) := by decide +kernel
theorem dX5_gatherBy_14 : decode cX5_gatherBy 14 = .ok (.getfield 44, 3) := by decide +kernel
theorem dX5_gatherBy_17 : decode cX5_gatherBy 17 = .ok (.iload_n 1, 1) := by decide +kernel
theorem dX5_gatherBy_18 : decode cX5_gatherBy 18 = .ok (.laload, 1) := by decide +kernel
theorem dX5_gatherBy_19 : decode cX5_gatherBy 19 = .ok (.lstore 4, 2) := by decide +kernel
theorem dX5_gatherBy_21 : decode cX5_gatherBy 21 = .ok (.aload_n 0, 1) := by decide +kernel
theorem dX5_gatherBy_22 : decode cX5_gatherBy 22 = .ok (.getfield 19, 3) := by decide +kernel
theorem dX5_gatherBy_25 : decode cX5_gatherBy 25 = .ok (.getfield 47, 3) := by decide +kernel
theorem dX5_gatherBy_28 : decode cX5_gatherBy 28 = .ok (.iload_n 1, 1) := by decide +kernel
theorem dX5_gatherBy_29 : decode cX5_gatherBy 29 = .ok (.iaload, 1) := by decide +kernel
theorem dX5_gatherBy_30 : decode cX5_gatherBy 30 = .ok (.iconst 1, 1) := by decide +kernel
theorem dX5_gatherBy_31 : decode cX5_gatherBy 31 = .ok (.if_icmp .ne 23, 3) := by decide +kernel
theorem dX5_gatherBy_34 : decode cX5_gatherBy 34 = .ok (.aload_n 2, 1) := by decide +kernel
theorem dX5_gatherBy_35 : decode cX5_gatherBy 35 = .ok (.iload_n 3, 1) := by decide +kernel
theorem dX5_gatherBy_36 : decode cX5_gatherBy 36 = .ok (.lload 4, 2) := by decide +kernel
theorem dX5_gatherBy_38 : decode cX5_gatherBy 38 = .ok (.aload_n 2, 1) := by decide +kernel
theorem dX5_gatherBy_39 : decode cX5_gatherBy 39 = .ok (.aload_n 0, 1) := by decide +kernel
theorem dX5_gatherBy_40 : decode cX5_gatherBy 40 = .ok (.getfield 19, 3) := by decide +kernel
theorem dX5_gatherBy_43 : decode cX5_gatherBy 43 = .ok (.getfield 57, 3) := by decide +kernel
theorem dX5_gatherBy_46 : decode cX5_gatherBy 46 = .ok (.iload_n 1, 1) := by decide +kernel
theorem dX5_gatherBy_47 : decode cX5_gatherBy 47 = .ok (.iaload, 1) := by decide +kernel
theorem dX5_gatherBy_48 : decode cX5_gatherBy 48 = .ok (.laload, 1) := by decide +kernel
theorem dX5_gatherBy_49 : decode cX5_gatherBy 49 = .ok (.ladd, 1) := by decide +kernel
theorem dX5_gatherBy_50 : decode cX5_gatherBy 50 = .ok (.invokestatic 53, 3) := by decide +kernel
theorem dX5_gatherBy_53 : decode cX5_gatherBy 53 = .ok (.ireturn, 1) := by decide +kernel
theorem dX5_gatherBy_54 : decode cX5_gatherBy 54 = .ok (.aload_n 0, 1) := by decide +kernel
theorem dX5_gatherBy_55 : decode cX5_gatherBy 55 = .ok (.getfield 19, 3) := by decide +kernel
theorem dX5_gatherBy_58 : decode cX5_gatherBy 58 = .ok (.getfield 47, 3) := by decide +kernel
theorem dX5_gatherBy_61 : decode cX5_gatherBy 61 = .ok (.iload_n 1, 1) := by decide +kernel
theorem dX5_gatherBy_62 : decode cX5_gatherBy 62 = .ok (.iaload, 1) := by decide +kernel
theorem dX5_gatherBy_63 : decode cX5_gatherBy 63 = .ok (.ifCond .ne 5, 3) := by decide +kernel
theorem dX5_gatherBy_66 : decode cX5_gatherBy 66 = .ok (.iconst 0, 1) := by decide +kernel
theorem dX5_gatherBy_67 : decode cX5_gatherBy 67 = .ok (.ireturn, 1) := by decide +kernel
theorem dX5_gatherBy_68 : decode cX5_gatherBy 68 = .ok (.iconst 0, 1) := by decide +kernel
theorem dX5_gatherBy_69 : decode cX5_gatherBy 69 = .ok (.istore 6, 2) := by decide +kernel
theorem dX5_gatherBy_71 : decode cX5_gatherBy 71 = .ok (.iconst 0, 1) := by decide +kernel
theorem dX5_gatherBy_72 : decode cX5_gatherBy 72 = .ok (.istore 7, 2) := by decide +kernel
theorem dX5_gatherBy_74 : decode cX5_gatherBy 74 = .ok (.iload 7, 2) := by decide +kernel
theorem dX5_gatherBy_76 : decode cX5_gatherBy 76 = .ok (.aload_n 0, 1) := by decide +kernel
theorem dX5_gatherBy_77 : decode cX5_gatherBy 77 = .ok (.getfield 19, 3) := by decide +kernel
theorem dX5_gatherBy_80 : decode cX5_gatherBy 80 = .ok (.getfield 64, 3) := by decide +kernel
theorem dX5_gatherBy_83 : decode cX5_gatherBy 83 = .ok (.if_icmp .ge 59, 3) := by decide +kernel
theorem dX5_gatherBy_86 : decode cX5_gatherBy 86 = .ok (.lload 4, 2) := by decide +kernel
theorem dX5_gatherBy_88 : decode cX5_gatherBy 88 = .ok (.aload_n 0, 1) := by decide +kernel
theorem dX5_gatherBy_89 : decode cX5_gatherBy 89 = .ok (.aload_n 0, 1) := by decide +kernel
theorem dX5_gatherBy_90 : decode cX5_gatherBy 90 = .ok (.getfield 19, 3) := by decide +kernel
theorem dX5_gatherBy_93 : decode cX5_gatherBy 93 = .ok (.getfield 57, 3) := by decide +kernel
theorem dX5_gatherBy_96 : decode cX5_gatherBy 96 = .ok (.iload_n 1, 1) := by decide +kernel
theorem dX5_gatherBy_97 : decode cX5_gatherBy 97 = .ok (.iaload, 1) := by decide +kernel
theorem dX5_gatherBy_98 : decode cX5_gatherBy 98 = .ok (.iload 7, 2) := by decide +kernel
theorem dX5_gatherBy_100 : decode cX5_gatherBy 100 = .ok (.invokevirtual 67, 3) := by decide +kernel
theorem dX5_gatherBy_103 : decode cX5_gatherBy 103 = .ok (.ladd, 1) := by decide +kernel
theorem dX5_gatherBy_104 : decode cX5_gatherBy 104 = .ok (.lstore 8, 2) := by decide +kernel
theorem dX5_gatherBy_106 : decode cX5_gatherBy 106 = .ok (.aload_n 2, 1) := by decide +kernel
theorem dX5_gatherBy_107 : decode cX5_gatherBy 107 = .ok (.iload_n 3, 1) := by decide +kernel
theorem dX5_gatherBy_108 : decode cX5_gatherBy 108 = .ok (.lload 8, 2) := by decide +kernel
theorem dX5_gatherBy_110 : decode cX5_gatherBy 110 = .ok (.aload_n 2, 1) := by decide +kernel
theorem dX5_gatherBy_111 : decode cX5_gatherBy 111 = .ok (.iload 7, 2) := by decide +kernel
theorem dX5_gatherBy_113 : decode cX5_gatherBy 113 = .ok (.aload_n 0, 1) := by decide +kernel
theorem dX5_gatherBy_114 : decode cX5_gatherBy 114 = .ok (.getfield 19, 3) := by decide +kernel
theorem dX5_gatherBy_117 : decode cX5_gatherBy 117 = .ok (.getfield 71, 3) := by decide +kernel
theorem dX5_gatherBy_120 : decode cX5_gatherBy 120 = .ok (.iload_n 1, 1) := by decide +kernel
theorem dX5_gatherBy_121 : decode cX5_gatherBy 121 = .ok (.iaload, 1) := by decide +kernel
theorem dX5_gatherBy_122 : decode cX5_gatherBy 122 = .ok (.invokestatic 74, 3) := by decide +kernel
theorem dX5_gatherBy_125 : decode cX5_gatherBy 125 = .ok (.laload, 1) := by decide +kernel
theorem dX5_gatherBy_126 : decode cX5_gatherBy 126 = .ok (.ladd, 1) := by decide +kernel
theorem dX5_gatherBy_127 : decode cX5_gatherBy 127 = .ok (.invokestatic 53, 3) := by decide +kernel
theorem dX5_gatherBy_130 : decode cX5_gatherBy 130 = .ok (.ifCond .eq 6, 3) := by decide +kernel
theorem dX5_gatherBy_133 : decode cX5_gatherBy 133 = .ok (.iconst 1, 1) := by decide +kernel
theorem dX5_gatherBy_134 : decode cX5_gatherBy 134 = .ok (.istore 6, 2) := by decide +kernel
theorem dX5_gatherBy_136 : decode cX5_gatherBy 136 = .ok (.iinc 7 1, 3) := by decide +kernel
theorem dX5_gatherBy_139 : decode cX5_gatherBy 139 = .ok (.goto (-65), 3) := by decide +kernel
theorem dX5_gatherBy_142 : decode cX5_gatherBy 142 = .ok (.iload 6, 2) := by decide +kernel
theorem dX5_gatherBy_144 : decode cX5_gatherBy 144 = .ok (.ireturn, 1) := by decide +kernel
theorem dX6_init_0 : decode cX6_init 0 = .ok (.aload_n 0, 1) := by decide +kernel
theorem dX6_init_1 : decode cX6_init 1 = .ok (.invokespecial 3, 3) := by decide +kernel
theorem dX6_init_4 : decode cX6_init 4 = .ok (.aload_n 0, 1) := by decide +kernel
theorem dX6_init_5 : decode cX6_init 5 = .ok (.iconst 0, 1) := by decide +kernel
theorem dX6_init_6 : decode cX6_init 6 = .ok (.putfield 9, 3) := by decide +kernel
theorem dX6_init_9 : decode cX6_init 9 = .ok (.aload_n 0, 1) := by decide +kernel
theorem dX6_init_10 : decode cX6_init 10 = .ok (.iconst 0, 1) := by decide +kernel
theorem dX6_init_11 : decode cX6_init 11 = .ok (.putfield 15, 3) := by decide +kernel
theorem dX6_init_14 : decode cX6_init 14 = .ok (.aload_n 0, 1) := by decide +kernel
theorem dX6_init_15 : decode cX6_init 15 = .ok (.sipush 200, 3) := by decide +kernel
theorem dX6_init_18 : decode cX6_init 18 = .ok (.newarray .int, 2) := by decide +kernel
theorem dX6_init_20 : decode cX6_init 20 = .ok (.putfield 18, 3) := by decide +kernel
theorem dX6_init_23 : decode cX6_init 23 = .ok (.return_, 1) := by decide +kernel
theorem dX6_append_0 : decode cX6_append 0 = .ok (.aload_n 0, 1) := by decide +kernel
theorem dX6_append_1 : decode cX6_append 1 = .ok (.getfield 9, 3) := by decide +kernel
theorem dX6_append_4 : decode cX6_append 4 = .ok (.sipush 200, 3) := by decide +kernel
theorem dX6_append_7 : decode cX6_append 7 = .ok (.if_icmp .ge 23, 3) := by decide +kernel
theorem dX6_append_10 : decode cX6_append 10 = .ok (.aload_n 0, 1) := by decide +kernel
theorem dX6_append_11 : decode cX6_append 11 = .ok (.getfield 18, 3) := by decide +kernel
theorem dX6_append_14 : decode cX6_append 14 = .ok (.aload_n 0, 1) := by decide +kernel
theorem dX6_append_15 : decode cX6_append 15 = .ok (.getfield 9, 3) := by decide +kernel
theorem dX6_append_18 : decode cX6_append 18 = .ok (.iload_n 1, 1) := by decide +kernel
theorem dX6_append_19 : decode cX6_append 19 = .ok (.iastore, 1) := by decide +kernel
theorem dX6_append_20 : decode cX6_append 20 = .ok (.aload_n 0, 1) := by decide +kernel
theorem dX6_append_21 : decode cX6_append 21 = .ok (.dup, 1) := by decide +kernel
theorem dX6_append_22 : decode cX6_append 22 = .ok (.getfield 9, 3) := by decide +kernel
theorem dX6_append_25 : decode cX6_append 25 = .ok (.iconst 1, 1) := by decide +kernel
theorem dX6_append_26 : decode cX6_append 26 = .ok (.iadd, 1) := by decide +kernel
theorem dX6_append_27 : decode cX6_append 27 = .ok (.putfield 9, 3) := by decide +kernel
theorem dX6_append_30 : decode cX6_append 30 = .ok (.return_, 1) := by decide +kernel
theorem dX6_parse_0 : decode cX6_parse 0 = .ok (.aload_n 0, 1) := by decide +kernel
theorem dX6_parse_1 : decode cX6_parse 1 = .ok (.iconst 0, 1) := by decide +kernel
theorem dX6_parse_2 : decode cX6_parse 2 = .ok (.putfield 15, 3) := by decide +kernel
theorem dX6_parse_5 : decode cX6_parse 5 = .ok (.aload_n 1, 1) := by decide +kernel
theorem dX6_parse_6 : decode cX6_parse 6 = .ok (.iconst 0, 1) := by decide +kernel
theorem dX6_parse_7 : decode cX6_parse 7 = .ok (.putfield 22, 3) := by decide +kernel
theorem dX6_parse_10 : decode cX6_parse 10 = .ok (.iconst 0, 1) := by decide +kernel
theorem dX6_parse_11 : decode cX6_parse 11 = .ok (.istore_n 2, 1) := by decide +kernel
theorem dX6_parse_12 : decode cX6_parse 12 = .ok (.iload_n 2, 1) := by decide +kernel
theorem dX6_parse_13 : decode cX6_parse 13 = .ok (.bipush 20, 2) := by decide +kernel
theorem dX6_parse_15 : decode cX6_parse 15 = .ok (.if_icmp .gt 45, 3) := by decide +kernel
theorem dX6_parse_18 : decode cX6_parse 18 = .ok (.aload_n 0, 1) := by decide +kernel
theorem dX6_parse_19 : decode cX6_parse 19 = .ok (.getfield 15, 3) := by decide +kernel
theorem dX6_parse_22 : decode cX6_parse 22 = .ok (.aload_n 0, 1) := by decide +kernel
theorem dX6_parse_23 : decode cX6_parse 23 = .ok (.getfield 9, 3) := by decide +kernel
theorem dX6_parse_26 : decode cX6_parse 26 = .ok (.if_icmp .ge 34, 3) := by decide +kernel
theorem dX6_parse_29 : decode cX6_parse 29 = .ok (.iload_n 2, 1) := by decide +kernel
theorem dX6_parse_30 : decode cX6_parse 30 = .ok (.bipush 20, 2) := by decide +kernel
theorem dX6_parse_32 : decode cX6_parse 32 = .ok (.if_icmp .ne 8, 3) := by decide +kernel
theorem dX6_parse_35 : decode cX6_parse 35 = .ok (.aload_n 0, 1) := by decide +kernel
theorem dX6_parse_36 : decode cX6_parse 36 = .ok (.getfield 15, 3) := by decide +kernel
theorem dX6_parse_39 : decode cX6_parse 39 = .ok (.ireturn, 1) := by decide +kernel
theorem dX6_parse_40 : decode cX6_parse 40 = .ok (.aload_n 0, 1) := by decide +kernel
theorem dX6_parse_41 : decode cX6_parse 41 = .ok (.aload_n 1, 1) := by decide +kernel
theorem dX6_parse_42 : decode cX6_parse 42 = .ok (.invokevirtual 27, 3) := by decide +kernel
theorem dX6_parse_45 : decode cX6_parse 45 = .ok (.istore_n 3, 1) := by decide +kernel
theorem dX6_parse_46 : decode cX6_parse 46 = .ok (.iload_n 3, 1) := by decide +kernel
theorem dX6_parse_47 : decode cX6_parse 47 = .ok (.bipush (-6), 2) := by decide +kernel
theorem dX6_parse_49 : decode cX6_parse 49 = .ok (.if_icmp .eq 5, 3) := by decide +kernel
theorem dX6_parse_52 : decode cX6_parse 52 = .ok (.iload_n 3, 1) := by decide +kernel
theorem dX6_parse_53 : decode cX6_parse 53 = .ok (.ireturn, 1) := by decide +kernel
theorem dX6_parse_54 : decode cX6_parse 54 = .ok (.iinc 2 1, 3) := by decide +kernel
theorem dX6_parse_57 : decode cX6_parse 57 = .ok (.goto (-45), 3) := by decide +kernel
theorem dX6_parse_60 : decode cX6_parse 60 = .ok (.bipush (-6), 2) := by decide +kernel
theorem dX6_parse_62 : decode cX6_parse 62 = .ok (.ireturn, 1) := by decide +kernel
theorem dX6_parseItem_0 : decode cX6_parseItem 0 = .ok (.aload_n 0, 1) := by decide +kernel
theorem dX6_parseItem_1 : decode cX6_parseItem 1 = .ok (.bipush 48, 2) := by decide +kernel
theorem dX6_parseItem_3 : decode cX6_parseItem 3 = .ok (.aload_n 1, 1) := by decide +kernel
theorem dX6_parseItem_4 : decode cX6_parseItem 4 = .ok (.getfield 31, 3) := by decide +kernel
theorem dX6_parseItem_7 : decode cX6_parseItem 7 = .ok (.invokevirtual 34, 3) := by decide +kernel
theorem dX6_parseItem_10 : decode cX6_parseItem 10 = .ok (.istore_n 2, 1) := by decide +kernel
theorem dX6_parseItem_11 : decode cX6_parseItem 11 = .ok (.iload_n 2, 1) := by decide +kernel
theorem dX6_parseItem_12 : decode cX6_parseItem 12 = .ok (.ifCond .ge 8, 3) := by decide +kernel
theorem dX6_parseItem_15 : decode cX6_parseItem 15 = .ok (.aload_n 0, 1) := by decide +kernel
theorem dX6_parseItem_16 : decode cX6_parseItem 16 = .ok (.getfield 15, 3) := by decide +kernel
theorem dX6_parseItem_19 : decode cX6_parseItem 19 = .ok (.ireturn, 1) := by decide +kernel
theorem dX6_parseItem_20 : decode cX6_parseItem 20 = .ok (.aload_n 0, 1) := by decide +kernel
theorem dX6_parseItem_21 : decode cX6_parseItem 21 = .ok (.bipush 97, 2) := by decide +kernel
theorem dX6_parseItem_23 : decode cX6_parseItem 23 = .ok (.aload_n 1, 1) := by decide +kernel
theorem dX6_parseItem_24 : decode cX6_parseItem 24 = .ok (.getfield 38, 3) := by decide +kernel
theorem dX6_parseItem_27 : decode cX6_parseItem 27 = .ok (.invokevirtual 34, 3) := by decide +kernel
theorem dX6_parseItem_30 : decode cX6_parseItem 30 = .ok (.istore_n 3, 1) := by decide +kernel
theorem dX6_parseItem_31 : decode cX6_parseItem 31 = .ok (.iload_n 3, 1) := by decide +kernel
theorem dX6_parseItem_32 : decode cX6_parseItem 32 = .ok (.ifCond .lt 13, 3) := by decide +kernel
theorem dX6_parseItem_35 : decode cX6_parseItem 35 = .ok (.aload_n 0, 1) := by decide +kernel
theorem dX6_parseItem_36 : decode cX6_parseItem 36 = .ok (.bipush 62, 2) := by decide +kernel
theorem dX6_parseItem_38 : decode cX6_parseItem 38 = .ok (.iconst 1, 1) := by decide +kernel
theorem dX6_parseItem_39 : decode cX6_parseItem 39 = .ok (.invokevirtual 34, 3) := by decide +kernel
theorem dX6_parseItem_42 : decode cX6_parseItem 42 = .ok (.ifCond .ge 8, 3) := by decide +kernel
theorem dX6_parseItem_45 : decode cX6_parseItem 45 = .ok (.aload_n 0, 1) := by decide +kernel
theorem dX6_parseItem_46 : decode cX6_parseItem 46 = .ok (.getfield 15, 3) := by decide +kernel
theorem dX6_parseItem_49 : decode cX6_parseItem 49 = .ok (.ireturn, 1) := by decide +kernel
theorem dX6_parseItem_50 : decode cX6_parseItem 50 = .ok (.aload_n 0, 1) := by decide +kernel
theorem dX6_parseItem_51 : decode cX6_parseItem 51 = .ok (.bipush 48, 2) := by decide +kernel
theorem dX6_parseItem_53 : decode cX6_parseItem 53 = .ok (.aload_n 1, 1) := by decide +kernel
theorem dX6_parseItem_54 : decode cX6_parseItem 54 = .ok (.getfield 31, 3) := by decide +kernel
theorem dX6_parseItem_57 : decode cX6_parseItem 57 = .ok (.invokevirtual 34, 3) := by decide +kernel
theorem dX6_parseItem_60 : decode cX6_parseItem 60 = .ok (.istore 4, 2) := by decide +kernel
theorem dX6_parseItem_62 : decode cX6_parseItem 62 = .ok (.iload 4, 2) := by decide +kernel
theorem dX6_parseItem_64 : decode cX6_parseItem 64 = .ok (.ifCond .ge 8, 3) := by decide +kernel
theorem dX6_parseItem_67 : decode cX6_parseItem 67 = .ok (.aload_n 0, 1) := by decide +kernel
theorem dX6_parseItem_68 : decode cX6_parseItem 68 = .ok (.getfield 15, 3) := by decide +kernel
theorem dX6_parseItem_71 : decode cX6_parseItem 71 = .ok (.ireturn, 1) := by decide +kernel
theorem dX6_parseItem_72 : decode cX6_parseItem 72 = .ok (.aload_n 0, 1) := by decide +kernel
theorem dX6_parseItem_73 : decode cX6_parseItem 73 = .ok (.aload_n 1, 1) := by decide +kernel
theorem dX6_parseItem_74 : decode cX6_parseItem 74 = .ok (.getfield 38, 3) := by decide +kernel
theorem dX6_parseItem_77 : decode cX6_parseItem 77 = .ok (.invokevirtual 41, 3) := by decide +kernel
theorem dX6_parseItem_80 : decode cX6_parseItem 80 = .ok (.istore 5, 2) := by decide +kernel
theorem dX6_parseItem_82 : decode cX6_parseItem 82 = .ok (.aload_n 0, 1) := by decide +kernel
theorem dX6_parseItem_83 : decode cX6_parseItem 83 = .ok (.bipush 58, 2) := by decide +kernel
theorem dX6_parseItem_85 : decode cX6_parseItem 85 = .ok (.iconst 1, 1) := by decide +kernel
theorem dX6_parseItem_86 : decode cX6_parseItem 86 = .ok (.invokevirtual 34, 3) := by decide +kernel
theorem dX6_parseItem_89 : decode cX6_parseItem 89 = .ok (.ifCond .ge 8, 3) := by decide +kernel
theorem dX6_parseItem_92 : decode cX6_parseItem 92 = .ok (.aload_n 0, 1) := by decide +kernel
theorem dX6_parseItem_93 : decode cX6_parseItem 93 = .ok (.getfield 15, 3) := by decide +kernel
theorem dX6_parseItem_96 : decode cX6_parseItem 96 = .ok (.ireturn, 1) := by decide +kernel
theorem dX6_parseItem_97 : decode cX6_parseItem 97 = .ok (.aload_n 0, 1) := by decide +kernel
theorem dX6_parseItem_98 : decode cX6_parseItem 98 = .ok (.getfield 15, 3) := by decide +kernel
theorem dX6_parseItem_101 : decode cX6_parseItem 101 = .ok (.istore 6, 2) := by decide +kernel
theorem dX6_parseItem_103 : decode cX6_parseItem 103 = .ok (.aload_n 0, 1) := by decide +kernel
theorem dX6_parseItem_104 : decode cX6_parseItem 104 = .ok (.invokevirtual 45, 3) := by decide +kernel
theorem dX6_parseItem_107 : decode cX6_parseItem 107 = .ok (.istore 7, 2) := by decide +kernel
theorem dX6_parseItem_109 : decode cX6_parseItem 109 = .ok (.iload 7, 2) := by decide +kernel
theorem dX6_parseItem_111 : decode cX6_parseItem 111 = .ok (.ifCond .ge 8, 3) := by decide +kernel
theorem dX6_parseItem_114 : decode cX6_parseItem 114 = .ok (.aload_n 0, 1) := by decide +kernel
theorem dX6_parseItem_115 : decode cX6_parseItem 115 = .ok (.getfield 15, 3) := by decide +kernel
theorem dX6_parseItem_118 : decode cX6_parseItem 118 = .ok (.ireturn, 1) := by decide +kernel
theorem dX6_parseItem_119 : decode cX6_parseItem 119 = .ok (.iload 7, 2) := by decide +kernel
theorem dX6_parseItem_121 : decode cX6_parseItem 121 = .ok (.invokestatic 49, 3) := by decide +kernel
theorem dX6_parseItem_124 : decode cX6_parseItem 124 = .ok (.ifCond .ne 6, 3) := by decide +kernel
theorem dX6_parseItem_127 : decode cX6_parseItem 127 = .ok (.iload 6, 2) := by decide +kernel
theorem dX6_parseItem_129 : decode cX6_parseItem 129 = .ok (.ireturn, 1) := by decide +kernel
theorem dX6_parseItem_130 : decode cX6_parseItem 130 = .ok (.aload_n 0, 1) := by decide +kernel
theorem dX6_parseItem_131 : decode cX6_parseItem 131 = .ok (.bipush 59, 2) := by decide +kernel
theorem dX6_parseItem_133 : decode cX6_parseItem 133 = .ok (.iconst 1, 1) := by decide +kernel
theorem dX6_parseItem_134 : decode cX6_parseItem 134 = .ok (.invokevirtual 34, 3) := by decide +kernel
theorem dX6_parseItem_137 : decode cX6_parseItem 137 = .ok (.ifCond .ge 8, 3) := by decide +kernel
theorem dX6_parseItem_140 : decode cX6_parseItem 140 = .ok (.aload_n 0, 1) := by decide +kernel
theorem dX6_parseItem_141 : decode cX6_parseItem 141 = .ok (.getfield 15, 3) := by decide +kernel
theorem dX6_parseItem_144 : decode cX6_parseItem 144 = .ok (.ireturn, 1) := by decide +kernel
theorem dX6_parseItem_145 : decode cX6_parseItem 145 = .ok (.aload_n 1, 1) := by decide +kernel
theorem dX6_parseItem_146 : decode cX6_parseItem 146 = .ok (.iload_n 2, 1) := by decide +kernel
theorem dX6_parseItem_147 : decode cX6_parseItem 147 = .ok (.iload_n 3, 1) := by decide +kernel
theorem dX6_parseItem_148 : decode cX6_parseItem 148 = .ok (.iconst 1, 1) := by decide +kernel
theorem dX6_parseItem_149 : decode cX6_parseItem 149 = .ok (.iadd, 1) := by decide +kernel
theorem dX6_parseItem_150 : decode cX6_parseItem 150 = .ok (.iload 4, 2) := by decide +kernel
theorem dX6_parseItem_152 : decode cX6_parseItem 152 = .ok (.iload 5, 2) := by decide +kernel
theorem dX6_parseItem_154 : decode cX6_parseItem 154 = .ok (.invokevirtual 53, 3) := by decide +kernel
theorem dX6_parseItem_157 : decode cX6_parseItem 157 = .ok (.ifCond .eq 10, 3) := by decide +kernel
theorem dX6_parseItem_160 : decode cX6_parseItem 160 = .ok (.aload_n 0, 1) := by decide +kernel
theorem dX6_parseItem_161 : decode cX6_parseItem 161 = .ok (.getfield 15, 3) := by decide +kernel
theorem dX6_parseItem_164 : decode cX6_parseItem 164 = .ok (.iconst 1, 1) := by decide +kernel
theorem dX6_parseItem_165 : decode cX6_parseItem 165 = .ok (.isub, 1) := by decide +kernel
theorem dX6_parseItem_166 : decode cX6_parseItem 166 = .ok (.ireturn, 1) := by decide +kernel
theorem dX6_parseItem_167 : decode cX6_parseItem 167 = .ok (.aload_n 1, 1) := by decide +kernel
theorem dX6_parseItem_168 : decode cX6_parseItem 168 = .ok (.iload_n 2, 1) := by decide +kernel
theorem dX6_parseItem_169 : decode cX6_parseItem 169 = .ok (.iload_n 3, 1) := by decide +kernel
theorem dX6_parseItem_170 : decode cX6_parseItem 170 = .ok (.iconst 1, 1) := by decide +kernel
theorem dX6_parseItem_171 : decode cX6_parseItem 171 = .ok (.iadd, 1) := by decide +kernel
theorem dX6_parseItem_172 : decode cX6_parseItem 172 = .ok (.iload 4, 2) := by decide +kernel
theorem dX6_parseItem_174 : decode cX6_parseItem 174 = .ok (.iload 5, 2) := by decide +kernel
theorem dX6_parseItem_176 : decode cX6_parseItem 176 = .ok (.iload 7, 2) := by decide +kernel
theorem dX6_parseItem_178 : decode cX6_parseItem 178 = .ok (.invokevirtual 57, 3) := by decide +kernel
theorem dX6_parseItem_181 : decode cX6_parseItem 181 = .ok (.bipush (-6), 2) := by decide +kernel
theorem dX6_parseItem_183 : decode cX6_parseItem 183 = .ok (.ireturn, 1) := by decide +kernel
theorem dX6_takeOneOf_0 : decode cX6_takeOneOf 0 = .ok (.aload_n 0, 1) := by decide +kernel
theorem dX6_takeOneOf_1 : decode cX6_takeOneOf 1 = .ok (.getfield 15, 3) := by decide +kernel
theorem dX6_takeOneOf_4 : decode cX6_takeOneOf 4 = .ok (.aload_n 0, 1) := by decide +kernel
theorem dX6_takeOneOf_5 : decode cX6_takeOneOf 5 = .ok (.getfield 9, 3) := by decide +kernel
theorem dX6_takeOneOf_8 : decode cX6_takeOneOf 8 = .ok (.if_icmp .ge 31, 3) := by decide +kernel
theorem dX6_takeOneOf_11 : decode cX6_takeOneOf 11 = .ok (.aload_n 0, 1) := by decide +kernel
theorem dX6_takeOneOf_12 : decode cX6_takeOneOf 12 = .ok (.getfield 18, 3) := by decide +kernel
theorem dX6_takeOneOf_15 : decode cX6_takeOneOf 15 = .ok (.aload_n 0, 1) := by decide +kernel
theorem dX6_takeOneOf_16 : decode cX6_takeOneOf 16 = .ok (.getfield 15, 3) := by decide +kernel
theorem dX6_takeOneOf_19 : decode cX6_takeOneOf 19 = .ok (.iaload, 1) := by decide +kernel
theorem dX6_takeOneOf_20 : decode cX6_takeOneOf 20 = .ok (.iload_n 1, 1) := by decide +kernel
theorem dX6_takeOneOf_21 : decode cX6_takeOneOf 21 = .ok (.if_icmp .lt 18, 3) := by decide +kernel
theorem dX6_takeOneOf_24 : decode cX6_takeOneOf 24 = .ok (.aload_n 0, 1) := by decide +kernel
theorem dX6_takeOneOf_25 : decode cX6_takeOneOf 25 = .ok (.getfield 18, 3) := by decide +kernel
theorem dX6_takeOneOf_28 : decode cX6_takeOneOf 28 = .ok (.aload_n 0, 1) := by decide +kernel
theorem dX6_takeOneOf_29 : decode cX6_takeOneOf 29 = .ok (.getfield 15, 3) := by decide +kernel
theorem dX6_takeOneOf_32 : decode cX6_takeOneOf 32 = .ok (.iaload, 1) := by decide +kernel
theorem dX6_takeOneOf_33 : decode cX6_takeOneOf 33 = .ok (.iload_n 1, 1) := by decide +kernel
theorem dX6_takeOneOf_34 : decode cX6_takeOneOf 34 = .ok (.iload_n 2, 1) := by decide +kernel
theorem dX6_takeOneOf_35 : decode cX6_takeOneOf 35 = .ok (.iadd, 1) := by decide +kernel
theorem dX6_takeOneOf_36 : decode cX6_takeOneOf 36 = .ok (.if_icmp .lt 5, 3) := by decide +kernel
theorem dX6_takeOneOf_39 : decode cX6_takeOneOf 39 = .ok (.iconst (-1), 1) := by decide +kernel
theorem dX6_takeOneOf_40 : decode cX6_takeOneOf 40 = .ok (.ireturn, 1) := by decide +kernel
theorem dX6_takeOneOf_41 : decode cX6_takeOneOf 41 = .ok (.aload_n 0, 1) := by decide +kernel
theorem dX6_takeOneOf_42 : decode cX6_takeOneOf 42 = .ok (.getfield 18, 3) := by decide +kernel
theorem dX6_takeOneOf_45 : decode cX6_takeOneOf 45 = .ok (.aload_n 0, 1) := by decide +kernel
theorem dX6_takeOneOf_46 : decode cX6_takeOneOf 46 = .ok (.getfield 15, 3) := by decide +kernel
theorem dX6_takeOneOf_49 : decode cX6_takeOneOf 49 = .ok (.iaload, 1) := by decide +kernel
theorem dX6_takeOneOf_50 : decode cX6_takeOneOf 50 = .ok (.iload_n 1, 1) := by decide +kernel
theorem dX6_takeOneOf_51 : decode cX6_takeOneOf 51 = .ok (.isub, 1) := by decide +kernel
theorem dX6_takeOneOf_52 : decode cX6_takeOneOf 52 = .ok (.istore_n 3, 1) := by decide +kernel
theorem dX6_takeOneOf_53 : decode cX6_takeOneOf 53 = .ok (.aload_n 0, 1) := by decide +kernel
theorem dX6_takeOneOf_54 : decode cX6_takeOneOf 54 = .ok (.dup, 1) := by decide +kernel
theorem dX6_takeOneOf_55 : decode cX6_takeOneOf 55 = .ok (.getfield 15, 3) := by decide +kernel
theorem dX6_takeOneOf_58 : decode cX6_takeOneOf 58 = .ok (.iconst 1, 1) := by decide +kernel
theorem dX6_takeOneOf_59 : decode cX6_takeOneOf 59 = .ok (.iadd, 1) := by decide +kernel
theorem dX6_takeOneOf_60 : decode cX6_takeOneOf 60 = .ok (.putfield 15, 3) := by decide +kernel
theorem dX6_takeOneOf_63 : decode cX6_takeOneOf 63 = .ok (.iload_n 3, 1) := by decide +kernel
theorem dX6_takeOneOf_64 : decode cX6_takeOneOf 64 = .ok (.ireturn, 1) := by decide +kernel
theorem dX6_takeWord_0 : decode cX6_takeWord 0 = .ok (.iconst 0, 1) := by decide +kernel
theorem dX6_takeWord_1 : decode cX6_takeWord 1 = .ok (.istore_n 2, 1) := by decide +kernel
theorem dX6_takeWord_2 : decode cX6_takeWord 2 = .ok (.iconst 0, 1) := by decide +kernel
theorem dX6_takeWord_3 : decode cX6_takeWord 3 = .ok (.istore_n 3, 1) := by decide +kernel
theorem dX6_takeWord_4 : decode cX6_takeWord 4 = .ok (.iload_n 3, 1) := by decide +kernel
theorem dX6_takeWord_5 : decode cX6_takeWord 5 = .ok (.iconst 2, 1) := by decide +kernel
theorem dX6_takeWord_6 : decode cX6_takeWord 6 = .ok (.if_icmp .ge 35, 3) := by decide +kernel
theorem dX6_takeWord_9 : decode cX6_takeWord 9 = .ok (.aload_n 0, 1) := by decide +kernel
theorem dX6_takeWord_10 : decode cX6_takeWord 10 = .ok (.bipush 97, 2) := by decide +kernel
theorem dX6_takeWord_12 : decode cX6_takeWord 12 = .ok (.iload_n 1, 1) := by decide +kernel
theorem dX6_takeWord_13 : decode cX6_takeWord 13 = .ok (.invokevirtual 34, 3) := by decide +kernel
theorem dX6_takeWord_16 : decode cX6_takeWord 16 = .ok (.istore 4, 2) := by decide +kernel
theorem dX6_takeWord_18 : decode cX6_takeWord 18 = .ok (.iload 4, 2) := by decide +kernel
theorem dX6_takeWord_20 : decode cX6_takeWord 20 = .ok (.ifCond .ge 5, 3) := by decide +kernel
theorem dX6_takeWord_23 : decode cX6_takeWord 23 = .ok (.iload_n 2, 1) := by decide +kernel
theorem dX6_takeWord_24 : decode cX6_takeWord 24 = .ok (.ireturn, 1) := by decide +kernel
theorem dX6_takeWord_25 : decode cX6_takeWord 25 = .ok (.iload_n 2, 1) := by decide +kernel
theorem dX6_takeWord_26 : decode cX6_takeWord 26 = .ok (.bipush 10, 2) := by decide +kernel
theorem dX6_takeWord_28 : decode cX6_takeWord 28 = .ok (.imul, 1) := by decide +kernel
theorem dX6_takeWord_29 : decode cX6_takeWord 29 = .ok (.iload 4, 2) := by decide +kernel
theorem dX6_takeWord_31 : decode cX6_takeWord 31 = .ok (.iadd, 1) := by decide +kernel
theorem dX6_takeWord_32 : decode cX6_takeWord 32 = .ok (.iconst 1, 1) := by decide +kernel
theorem dX6_takeWord_33 : decode cX6_takeWord 33 = .ok (.iadd, 1) := by decide +kernel
theorem dX6_takeWord_34 : decode cX6_takeWord 34 = .ok (.istore_n 2, 1) := by decide +kernel
theorem dX6_takeWord_35 : decode cX6_takeWord 35 = .ok (.iinc 3 1, 3) := by decide +kernel
theorem dX6_takeWord_38 : decode cX6_takeWord 38 = .ok (.goto (-34), 3) := by decide +kernel
theorem dX6_takeWord_41 : decode cX6_takeWord 41 = .ok (.iload_n 2, 1) := by decide +kernel
theorem dX6_takeWord_42 : decode cX6_takeWord 42 = .ok (.ireturn, 1) := by decide +kernel
theorem dX6_takeWeight_0 : decode cX6_takeWeight 0 = .ok (.aload_n 0, 1) := by decide +kernel
theorem dX6_takeWeight_1 : decode cX6_takeWeight 1 = .ok (.bipush 48, 2) := by decide +kernel
theorem dX6_takeWeight_3 : decode cX6_takeWeight 3 = .ok (.bipush 10, 2) := by decide +kernel
theorem dX6_takeWeight_5 : decode cX6_takeWeight 5 = .ok (.invokevirtual 34, 3) := by decide +kernel
theorem dX6_takeWeight_8 : decode cX6_takeWeight 8 = .ok (.istore_n 1, 1) := by decide +kernel
theorem dX6_takeWeight_9 : decode cX6_takeWeight 9 = .ok (.iload_n 1, 1) := by decide +kernel
theorem dX6_takeWeight_10 : decode cX6_takeWeight 10 = .ok (.ifCond .ge 5, 3) := by decide +kernel
theorem dX6_takeWeight_13 : decode cX6_takeWeight 13 = .ok (.iconst (-1), 1) := by decide +kernel
theorem dX6_takeWeight_14 : decode cX6_takeWeight 14 = .ok (.ireturn, 1) := by decide +kernel
theorem dX6_takeWeight_15 : decode cX6_takeWeight 15 = .ok (.aload_n 0, 1) := by decide +kernel
theorem dX6_takeWeight_16 : decode cX6_takeWeight 16 = .ok (.bipush 48, 2) := by decide +kernel
theorem dX6_takeWeight_18 : decode cX6_takeWeight 18 = .ok (.bipush 10, 2) := by decide +kernel
theorem dX6_takeWeight_20 : decode cX6_takeWeight 20 = .ok (.invokevirtual 34, 3) := by decide +kernel
theorem dX6_takeWeight_23 : decode cX6_takeWeight 23 = .ok (.istore_n 2, 1) := by decide +kernel
theorem dX6_takeWeight_24 : decode cX6_takeWeight 24 = .ok (.iload_n 2, 1) := by decide +kernel
theorem dX6_takeWeight_25 : decode cX6_takeWeight 25 = .ok (.ifCond .ge 7, 3) := by decide +kernel
theorem dX6_takeWeight_28 : decode cX6_takeWeight 28 = .ok (.iload_n 1, 1) := by decide +kernel
theorem dX6_takeWeight_29 : decode cX6_takeWeight 29 = .ok (.goto 9, 3) := by decide +kernel
theorem dX6_takeWeight_32 : decode cX6_takeWeight 32 = .ok (.iload_n 1, 1) := by decide +kernel
theorem dX6_takeWeight_33 : decode cX6_takeWeight 33 = .ok (.bipush 10, 2) := by decide +kernel
theorem dX6_takeWeight_35 : decode cX6_takeWeight 35 = .ok (.imul, 1) := by decide +kernel
theorem dX6_takeWeight_36 : decode cX6_takeWeight 36 = .ok (.iload_n 2, 1) := by decide +kernel
theorem dX6_takeWeight_37 : decode cX6_takeWeight 37 = .ok (.iadd, 1) := by decide +kernel
theorem dX6_takeWeight_38 : decode cX6_takeWeight 38 = .ok (.ireturn, 1) := by decide +kernel
theorem dX7_init_0 : decode cX7_init 0 = .ok (.aload_n 0, 1) := by decide +kernel
theorem dX7_init_1 : decode cX7_init 1 = .ok (.invokespecial 3, 3) := by decide +kernel
theorem dX7_init_4 : decode cX7_init 4 = .ok (.aload_n 0, 1) := by decide +kernel
theorem dX7_init_5 : decode cX7_init 5 = .ok (.iconst 0, 1) := by decide +kernel
theorem dX7_init_6 : decode cX7_init 6 = .ok (.putfield 9, 3) := by decide +kernel
theorem dX7_init_9 : decode cX7_init 9 = .ok (.aload_n 0, 1) := by decide +kernel
theorem dX7_init_10 : decode cX7_init 10 = .ok (.iconst 0, 1) := by decide +kernel
theorem dX7_init_11 : decode cX7_init 11 = .ok (.putfield 15, 3) := by decide +kernel
theorem dX7_init_14 : decode cX7_init 14 = .ok (.aload_n 0, 1) := by decide +kernel
theorem dX7_init_15 : decode cX7_init 15 = .ok (.iconst 0, 1) := by decide +kernel
theorem dX7_init_16 : decode cX7_init 16 = .ok (.putfield 18, 3) := by decide +kernel
theorem dX7_init_19 : decode cX7_init 19 = .ok (.aload_n 0, 1) := by decide +kernel
theorem dX7_init_20 : decode cX7_init 20 = .ok (.iconst 0, 1) := by decide +kernel
theorem dX7_init_21 : decode cX7_init 21 = .ok (.putfield 22, 3) := by decide +kernel
theorem dX7_init_24 : decode cX7_init 24 = .ok (.aload_n 0, 1) := by decide +kernel
theorem dX7_init_25 : decode cX7_init 25 = .ok (.sipush 301, 3) := by decide +kernel
theorem dX7_init_28 : decode cX7_init 28 = .ok (.newarray .int, 2) := by decide +kernel
theorem dX7_init_30 : decode cX7_init 30 = .ok (.putfield 25, 3) := by decide +kernel
theorem dX7_init_33 : decode cX7_init 33 = .ok (.aload_n 0, 1) := by decide +kernel
theorem dX7_init_34 : decode cX7_init 34 = .ok (.sipush 301, 3) := by decide +kernel
theorem dX7_init_37 : decode cX7_init 37 = .ok (.newarray .int, 2) := by decide +kernel
theorem dX7_init_39 : decode cX7_init 39 = .ok (.putfield 29, 3) := by decide +kernel
theorem dX7_init_42 : decode cX7_init 42 = .ok (.aload_n 0, 1) := by decide +kernel
theorem dX7_init_43 : decode cX7_init 43 = .ok (.sipush 301, 3) := by decide +kernel
theorem dX7_init_46 : decode cX7_init 46 = .ok (.newarray .int, 2) := by decide +kernel
theorem dX7_init_48 : decode cX7_init 48 = .ok (.putfield 32, 3) := by decide +kernel
theorem dX7_init_51 : decode cX7_init 51 = .ok (.aload_n 0, 1) := by decide +kernel
theorem dX7_init_52 : decode cX7_init 52 = .ok (.sipush 301, 3) := by decide +kernel
theorem dX7_init_55 : decode cX7_init 55 = .ok (.newarray .int, 2) := by decide +kernel
theorem dX7_init_57 : decode cX7_init 57 = .ok (.putfield 35, 3) := by decide +kernel
theorem dX7_init_60 : decode cX7_init 60 = .ok (.return_, 1) := by decide +kernel
theorem dX7_follow_0 : decode cX7_follow 0 = .ok (.aload_n 0, 1) := by decide +kernel
theorem dX7_follow_1 : decode cX7_follow 1 = .ok (.getfield 9, 3) := by decide +kernel
theorem dX7_follow_4 : decode cX7_follow 4 = .ok (.ifCond .eq 4, 3) := by decide +kernel
theorem dX7_follow_7 : decode cX7_follow 7 = .ok (.return_, 1) := by decide +kernel
theorem dX7_follow_8 : decode cX7_follow 8 = .ok (.aload_n 2, 1) := by decide +kernel
theorem dX7_follow_9 : decode cX7_follow 9 = .ok (.getfield 38, 3) := by decide +kernel
theorem dX7_follow_12 : decode cX7_follow 12 = .ok (.istore_n 3, 1) := by decide +kernel
theorem dX7_follow_13 : decode cX7_follow 13 = .ok (.aload_n 1, 1) := by decide +kernel
theorem dX7_follow_14 : decode cX7_follow 14 = .ok (.iload_n 3, 1) := by decide +kernel
theorem dX7_follow_15 : decode cX7_follow 15 = .ok (.aload_n 2, 1) := by decide +kernel
theorem dX7_follow_16 : decode cX7_follow 16 = .ok (.getfield 43, 3) := by decide +kernel
theorem dX7_follow_19 : decode cX7_follow 19 = .ok (.invokevirtual 47, 3) := by decide +kernel
theorem dX7_follow_22 : decode cX7_follow 22 = .ok (.lstore 4, 2) := by decide +kernel
theorem dX7_follow_24 : decode cX7_follow 24 = .ok (.aload_n 0, 1) := by decide +kernel
theorem dX7_follow_25 : decode cX7_follow 25 = .ok (.iconst 0, 1) := by decide +kernel
theorem dX7_follow_26 : decode cX7_follow 26 = .ok (.putfield 18, 3) := by decide +kernel
theorem dX7_follow_29 : decode cX7_follow 29 = .ok (.aload_n 0, 1) := by decide +kernel
theorem dX7_follow_30 : decode cX7_follow 30 = .ok (.iconst 0, 1) := by decide +kernel
theorem dX7_follow_31 : decode cX7_follow 31 = .ok (.putfield 22, 3) := by decide +kernel
theorem dX7_follow_34 : decode cX7_follow 34 = .ok (.iconst 0, 1) := by decide +kernel
theorem dX7_follow_35 : decode cX7_follow 35 = .ok (.istore 6, 2) := by decide +kernel
theorem dX7_follow_37 : decode cX7_follow 37 = .ok (.iload 6, 2) := by decide +kernel
theorem dX7_follow_39 : decode cX7_follow 39 = .ok (.sipush 301, 3) := by decide +kernel
theorem dX7_follow_42 : decode cX7_follow 42 = .ok (.if_icmp .ge 113, 3) := by decide +kernel
theorem dX7_follow_45 : decode cX7_follow 45 = .ok (.lload 4, 2) := by decide +kernel
theorem dX7_follow_47 : decode cX7_follow 47 = .ok (.lconst 0, 1) := by decide +kernel
theorem dX7_follow_48 : decode cX7_follow 48 = .ok (.lcmp, 1) := by decide +kernel
theorem dX7_follow_49 : decode cX7_follow 49 = .ok (.ifCond .le 106, 3) := by decide +kernel
theorem dX7_follow_52 : decode cX7_follow 52 = .ok (.aload_n 0, 1) := by decide +kernel
theorem dX7_follow_53 : decode cX7_follow 53 = .ok (.getfield 29, 3) := by decide +kernel
theorem dX7_follow_56 : decode cX7_follow 56 = .ok (.iload 6, 2) := by decide +kernel
theorem dX7_follow_58 : decode cX7_follow 58 = .ok (.iload_n 3, 1) := by decide +kernel
theorem dX7_follow_59 : decode cX7_follow 59 = .ok (.iastore, 1) := by decide +kernel
theorem dX7_follow_60 : decode cX7_follow 60 = .ok (.aload_n 0, 1) := by decide +kernel
theorem dX7_follow_61 : decode cX7_follow 61 = .ok (.getfield 32, 3) := by decide +kernel
theorem dX7_follow_64 : decode cX7_follow 64 = .ok (.iload 6, 2) := by decide +kernel
theorem dX7_follow_66 : decode cX7_follow 66 = .ok (.aload_n 1, 1) := by decide +kernel
theorem dX7_follow_67 : decode cX7_follow 67 = .ok (.invokevirtual 53, 3) := by decide +kernel
theorem dX7_follow_70 : decode cX7_follow 70 = .ok (.iastore, 1) := by decide +kernel
theorem dX7_follow_71 : decode cX7_follow 71 = .ok (.aload_n 0, 1) := by decide +kernel
theorem dX7_follow_72 : decode cX7_follow 72 = .ok (.getfield 35, 3) := by decide +kernel
theorem dX7_follow_75 : decode cX7_follow 75 = .ok (.iload 6, 2) := by decide +kernel
theorem dX7_follow_77 : decode cX7_follow 77 = .ok (.aload_n 1, 1) := by decide +kernel
theorem dX7_follow_78 : decode cX7_follow 78 = .ok (.getfield 57, 3) := by decide +kernel
theorem dX7_follow_81 : decode cX7_follow 81 = .ok (.iastore, 1) := by decide +kernel
theorem dX7_follow_82 : decode cX7_follow 82 = .ok (.aload_n 1, 1) := by decide +kernel
theorem dX7_follow_83 : decode cX7_follow 83 = .ok (.iload_n 3, 1) := by decide +kernel
theorem dX7_follow_84 : decode cX7_follow 84 = .ok (.lload 4, 2) := by decide +kernel
theorem dX7_follow_86 : decode cX7_follow 86 = .ok (.invokevirtual 60, 3) := by decide +kernel
theorem dX7_follow_89 : decode cX7_follow 89 = .ok (.istore 7, 2) := by decide +kernel
theorem dX7_follow_91 : decode cX7_follow 91 = .ok (.iload 7, 2) := by decide +kernel
theorem dX7_follow_93 : decode cX7_follow 93 = .ok (.ifCond .ge 6, 3) := by decide +kernel
theorem dX7_follow_96 : decode cX7_follow 96 = .ok (.goto 59, 3) := by decide +kernel
theorem dX7_follow_99 : decode cX7_follow 99 = .ok (.aload_n 0, 1) := by decide +kernel
theorem dX7_follow_100 : decode cX7_follow 100 = .ok (.getfield 25, 3) := by decide +kernel
theorem dX7_follow_103 : decode cX7_follow 103 = .ok (.iload 6, 2) := by decide +kernel
theorem dX7_follow_105 : decode cX7_follow 105 = .ok (.iload 7, 2) := by decide +kernel
theorem dX7_follow_107 : decode cX7_follow 107 = .ok (.iastore, 1) := by decide +kernel
theorem dX7_follow_108 : decode cX7_follow 108 = .ok (.aload_n 0, 1) := by decide +kernel
theorem dX7_follow_109 : decode cX7_follow 109 = .ok (.dup, 1) := by decide +kernel
theorem dX7_follow_110 : decode cX7_follow 110 = .ok (.getfield 22, 3) := by decide +kernel
theorem dX7_follow_113 : decode cX7_follow 113 = .ok (.iconst 1, 1) := by decide +kernel
theorem dX7_follow_114 : decode cX7_follow 114 = .ok (.iload 7, 2) := by decide +kernel
theorem dX7_follow_116 : decode cX7_follow 116 = .ok (.ishl, 1) := by decide +kernel
theorem dX7_follow_117 : decode cX7_follow 117 = .ok (.ior, 1) := by decide +kernel
theorem dX7_follow_118 : decode cX7_follow 118 = .ok (.putfield 22, 3) := by decide +kernel
theorem dX7_follow_121 : decode cX7_follow 121 = .ok (.aload_n 0, 1) := by decide +kernel
theorem dX7_follow_122 : decode cX7_follow 122 = .ok (.iload 6, 2) := by decide +kernel
theorem dX7_follow_124 : decode cX7_follow 124 = .ok (.iconst 1, 1) := by decide +kernel
theorem dX7_follow_125 : decode cX7_follow 125 = .ok (.iadd, 1) := by decide +kernel
theorem dX7_follow_126 : decode cX7_follow 126 = .ok (.putfield 18, 3) := by decide +kernel
theorem dX7_follow_129 : decode cX7_follow 129 = .ok (.lload 4, 2) := by decide +kernel
theorem dX7_follow_131 : decode cX7_follow 131 = .ok (.aload_n 2, 1) := by decide +kernel
theorem dX7_follow_132 : decode cX7_follow 132 = .ok (.getfield 64, 3) := by decide +kernel
theorem dX7_follow_135 : decode cX7_follow 135 = .ok (.iload 7, 2) := by decide +kernel
theorem dX7_follow_137 : decode cX7_follow 137 = .ok (.laload, 1) := by decide +kernel
theorem dX7_follow_138 : decode cX7_follow 138 = .ok (.lsub, 1) := by decide +kernel
theorem dX7_follow_139 : decode cX7_follow 139 = .ok (.lstore 4, 2) := by decide +kernel
theorem dX7_follow_141 : decode cX7_follow 141 = .ok (.aload_n 2, 1) := by decide +kernel
theorem dX7_follow_142 : decode cX7_follow 142 = .ok (.getfield 68, 3) := by decide +kernel
theorem dX7_follow_145 : decode cX7_follow 145 = .ok (.iload 7, 2) := by decide +kernel
theorem dX7_follow_147 : decode cX7_follow 147 = .ok (.iaload, 1) := by decide +kernel
theorem dX7_follow_148 : decode cX7_follow 148 = .ok (.istore_n 3, 1) := by decide +kernel
theorem dX7_follow_149 : decode cX7_follow 149 = .ok (.iinc 6 1, 3) := by decide +kernel
theorem dX7_follow_152 : decode cX7_follow 152 = .ok (.goto (-115), 3) := by decide +kernel
theorem dX7_follow_155 : decode cX7_follow 155 = .ok (.aload_n 0, 1) := by decide +kernel
theorem dX7_follow_156 : decode cX7_follow 156 = .ok (.lload 4, 2) := by decide +kernel
theorem dX7_follow_158 : decode cX7_follow 158 = .ok (.lconst 0, 1) := by decide +kernel
theorem dX7_follow_159 : decode cX7_follow 159 = .ok (.lcmp, 1) := by decide +kernel
theorem dX7_follow_160 : decode cX7_follow 160 = .ok (.ifCond .ne 7, 3) := by decide +kernel
theorem dX7_follow_163 : decode cX7_follow 163 = .ok (.iconst 1, 1) := by decide +kernel
theorem dX7_follow_164 : decode cX7_follow 164 = .ok (.goto 4, 3) := by decide +kernel
theorem dX7_follow_167 : decode cX7_follow 167 = .ok (.iconst 0, 1) := by decide +kernel
theorem dX7_follow_168 : decode cX7_follow 168 = .ok (.putfield 15, 3) := by decide +kernel
theorem dX7_follow_171 : decode cX7_follow 171 = .ok (.aload_n 0, 1) := by decide +kernel
theorem dX7_follow_172 : decode cX7_follow 172 = .ok (.iconst 1, 1) := by decide +kernel
theorem dX7_follow_173 : decode cX7_follow 173 = .ok (.putfield 9, 3) := by decide +kernel
theorem dX7_follow_176 : decode cX7_follow 176 = .ok (.return_, 1) := by decide +kernel
theorem dX7_part_0 : decode cX7_part 0 = .ok (.iload_n 2, 1) := by decide +kernel
theorem dX7_part_1 : decode cX7_part 1 = .ok (.tableswitch 48 0 2 #[27, 34, 41], 27) := by decide +kernel
theorem dX7_part_28 : decode cX7_part 28 = .ok (.aload_n 0, 1) := by decide +kernel
theorem dX7_part_29 : decode cX7_part 29 = .ok (.getfield 25, 3) := by decide +kernel
theorem dX7_part_32 : decode cX7_part 32 = .ok (.iload_n 1, 1) := by decide +kernel
theorem dX7_part_33 : decode cX7_part 33 = .ok (.iaload, 1) := by decide +kernel
theorem dX7_part_34 : decode cX7_part 34 = .ok (.ireturn, 1) := by decide +kernel
theorem dX7_part_35 : decode cX7_part 35 = .ok (.aload_n 0, 1) := by decide +kernel
theorem dX7_part_36 : decode cX7_part 36 = .ok (.getfield 29, 3) := by decide +kernel
theorem dX7_part_39 : decode cX7_part 39 = .ok (.iload_n 1, 1) := by decide +kernel
theorem dX7_part_40 : decode cX7_part 40 = .ok (.iaload, 1) := by decide +kernel
theorem dX7_part_41 : decode cX7_part 41 = .ok (.ireturn, 1) := by decide +kernel
theorem dX7_part_42 : decode cX7_part 42 = .ok (.aload_n 0, 1) := by decide +kernel
theorem dX7_part_43 : decode cX7_part 43 = .ok (.getfield 32, 3) := by decide +kernel
theorem dX7_part_46 : decode cX7_part 46 = .ok (.iload_n 1, 1) := by decide +kernel
theorem dX7_part_47 : decode cX7_part 47 = .ok (.iaload, 1) := by decide +kernel
theorem dX7_part_48 : decode cX7_part 48 = .ok (.ireturn, 1) := by decide +kernel
theorem dX7_part_49 : decode cX7_part 49 = .ok (.aload_n 0, 1) := by decide +kernel
theorem dX7_part_50 : decode cX7_part 50 = .ok (.getfield 35, 3) := by decide +kernel
theorem dX7_part_53 : decode cX7_part 53 = .ok (.iload_n 1, 1) := by decide +kernel
theorem dX7_part_54 : decode cX7_part 54 = .ok (.iaload, 1) := by decide +kernel
theorem dX7_part_55 : decode cX7_part 55 = .ok (.ireturn, 1) := by decide +kernel
theorem dX8_init_0 : decode cX8_init 0 = .ok (.aload_n 0, 1) := by decide +kernel
theorem dX8_init_1 : decode cX8_init 1 = .ok (.invokespecial 3, 3) := by decide +kernel
theorem dX8_init_4 : decode cX8_init 4 = .ok (.aload_n 0, 1) := by decide +kernel
theorem dX8_init_5 : decode cX8_init 5 = .ok (.iconst 0, 1) := by decide +kernel
theorem dX8_init_6 : decode cX8_init 6 = .ok (.putfield 9, 3) := by decide +kernel
theorem dX8_init_9 : decode cX8_init 9 = .ok (.aload_n 0, 1) := by decide +kernel
theorem dX8_init_10 : decode cX8_init 10 = .ok (.bipush 10, 2) := by decide +kernel
theorem dX8_init_12 : decode cX8_init 12 = .ok (.newarray .int, 2) := by decide +kernel
theorem dX8_init_14 : decode cX8_init 14 = .ok (.putfield 15, 3) := by decide +kernel
theorem dX8_init_17 : decode cX8_init 17 = .ok (.return_, 1) := by decide +kernel
theorem dX8_take_0 : decode cX8_take 0 = .ok (.aload_n 0, 1) := by decide +kernel
theorem dX8_take_1 : decode cX8_take 1 = .ok (.iconst 0, 1) := by decide +kernel
theorem dX8_take_2 : decode cX8_take 2 = .ok (.putfield 9, 3) := by decide +kernel
theorem dX8_take_5 : decode cX8_take 5 = .ok (.iload_n 1, 1) := by decide +kernel
theorem dX8_take_6 : decode cX8_take 6 = .ok (.ifCond .ge 5, 3) := by decide +kernel
theorem dX8_take_9 : decode cX8_take 9 = .ok (.iconst 0, 1) := by decide +kernel
theorem dX8_take_10 : decode cX8_take 10 = .ok (.ireturn, 1) := by decide +kernel
theorem dX8_take_11 : decode cX8_take 11 = .ok (.iload_n 1, 1) := by decide +kernel
theorem dX8_take_12 : decode cX8_take 12 = .ok (.invokestatic 19, 3) := by decide +kernel
theorem dX8_take_15 : decode cX8_take 15 = .ok (.istore_n 3, 1) := by decide +kernel
theorem dX8_take_16 : decode cX8_take 16 = .ok (.iload_n 1, 1) := by decide +kernel
theorem dX8_take_17 : decode cX8_take 17 = .ok (.istore 4, 2) := by decide +kernel
theorem dX8_take_19 : decode cX8_take 19 = .ok (.iload_n 3, 1) := by decide +kernel
theorem dX8_take_20 : decode cX8_take 20 = .ok (.iconst 1, 1) := by decide +kernel
theorem dX8_take_21 : decode cX8_take 21 = .ok (.isub, 1) := by decide +kernel
theorem dX8_take_22 : decode cX8_take 22 = .ok (.istore 5, 2) := by decide +kernel
theorem dX8_take_24 : decode cX8_take 24 = .ok (.iload 5, 2) := by decide +kernel
theorem dX8_take_26 : decode cX8_take 26 = .ok (.ifCond .lt 45, 3) := by decide +kernel
theorem dX8_take_29 : decode cX8_take 29 = .ok (.iload 4, 2) := by decide +kernel
theorem dX8_take_31 : decode cX8_take 31 = .ok (.bipush 10, 2) := by decide +kernel
theorem dX8_take_33 : decode cX8_take 33 = .ok (.irem, 1) := by decide +kernel
theorem dX8_take_34 : decode cX8_take 34 = .ok (.istore 6, 2) := by decide +kernel
theorem dX8_take_36 : decode cX8_take 36 = .ok (.iload 6, 2) := by decide +kernel
theorem dX8_take_38 : decode cX8_take 38 = .ok (.ifCond .eq 9, 3) := by decide +kernel
theorem dX8_take_41 : decode cX8_take 41 = .ok (.iload 6, 2) := by decide +kernel
theorem dX8_take_43 : decode cX8_take 43 = .ok (.iload_n 2, 1) := by decide +kernel
theorem dX8_take_44 : decode cX8_take 44 = .ok (.if_icmp .le 5, 3) := by decide +kernel
theorem dX8_take_47 : decode cX8_take 47 = .ok (.iconst 0, 1) := by decide +kernel
theorem dX8_take_48 : decode cX8_take 48 = .ok (.ireturn, 1) := by decide +kernel
theorem dX8_take_49 : decode cX8_take 49 = .ok (.aload_n 0, 1) := by decide +kernel
theorem dX8_take_50 : decode cX8_take 50 = .ok (.getfield 15, 3) := by decide +kernel
theorem dX8_take_53 : decode cX8_take 53 = .ok (.iload 5, 2) := by decide +kernel
theorem dX8_take_55 : decode cX8_take 55 = .ok (.iload 6, 2) := by decide +kernel
theorem dX8_take_57 : decode cX8_take 57 = .ok (.iastore, 1) := by decide +kernel
theorem dX8_take_58 : decode cX8_take 58 = .ok (.iload 4, 2) := by decide +kernel
theorem dX8_take_60 : decode cX8_take 60 = .ok (.bipush 10, 2) := by decide +kernel
theorem dX8_take_62 : decode cX8_take 62 = .ok (.idiv, 1) := by decide +kernel
theorem dX8_take_63 : decode cX8_take 63 = .ok (.istore 4, 2) := by decide +kernel
theorem dX8_take_65 : decode cX8_take 65 = .ok (.iinc 5 (-1), 3) := by decide +kernel
theorem dX8_take_68 : decode cX8_take 68 = .ok (.goto (-44), 3) := by decide +kernel
theorem dX8_take_71 : decode cX8_take 71 = .ok (.aload_n 0, 1) := by decide +kernel
theorem dX8_take_72 : decode cX8_take 72 = .ok (.iload_n 3, 1) := by decide +kernel
theorem dX8_take_73 : decode cX8_take 73 = .ok (.putfield 9, 3) := by decide +kernel
theorem dX8_take_76 : decode cX8_take 76 = .ok (.iconst 1, 1) := by decide +kernel
theorem dX8_take_77 : decode cX8_take 77 = .ok (.ireturn, 1) := by decide +kernel
theorem dJ9_min_7cf53_0 : decode cJ9_min_7cf53 0 = .ok (.iload_n 0, 1) := by decide +kernel
theorem dJ9_min_7cf53_1 : decode cJ9_min_7cf53 1 = .ok (.iload_n 1, 1) := by decide +kernel
theorem dJ9_min_7cf53_2 : decode cJ9_min_7cf53 2 = .ok (.if_icmp .gt 7, 3) := by decide +kernel
theorem dJ9_min_7cf53_5 : decode cJ9_min_7cf53 5 = .ok (.iload_n 0, 1) := by decide +kernel
theorem dJ9_min_7cf53_6 : decode cJ9_min_7cf53 6 = .ok (.goto 4, 3) := by decide +kernel
theorem dJ9_min_7cf53_9 : decode cJ9_min_7cf53 9 = .ok (.iload_n 1, 1) := by decide +kernel
theorem dJ9_min_7cf53_10 : decode cJ9_min_7cf53 10 = .ok (.ireturn, 1) := by decide +kernel
theorem dJ9_min_f86c9_0 : decode cJ9_min_f86c9 0 = .ok (.lload_n 0, 1) := by decide +kernel
theorem dJ9_min_f86c9_1 : decode cJ9_min_f86c9 1 = .ok (.lload_n 2, 1) := by decide +kernel
theorem dJ9_min_f86c9_2 : decode cJ9_min_f86c9 2 = .ok (.lcmp, 1) := by decide +kernel
theorem dJ9_min_f86c9_3 : decode cJ9_min_f86c9 3 = .ok (.ifCond .gt 7, 3) := by decide +kernel
theorem dJ9_min_f86c9_6 : decode cJ9_min_f86c9 6 = .ok (.lload_n 0, 1) := by decide +kernel
theorem dJ9_min_f86c9_7 : decode cJ9_min_f86c9 7 = .ok (.goto 4, 3) := by decide +kernel
theorem dJ9_min_f86c9_10 : decode cJ9_min_f86c9 10 = .ok (.lload_n 2, 1) := by decide +kernel
theorem dJ9_min_f86c9_11 : decode cJ9_min_f86c9 11 = .ok (.lreturn, 1) := by decide +kernel
theorem dJ7_fill_d0a16_0 : decode cJ7_fill_d0a16 0 = .ok (.iconst 0, 1) := by decide +kernel
theorem dJ7_fill_d0a16_1 : decode cJ7_fill_d0a16 1 = .ok (.istore_n 3, 1) := by decide +kernel
theorem dJ7_fill_d0a16_2 : decode cJ7_fill_d0a16 2 = .ok (.aload_n 0, 1) := by decide +kernel
theorem dJ7_fill_d0a16_3 : decode cJ7_fill_d0a16 3 = .ok (.arraylength, 1) := by decide +kernel
theorem dJ7_fill_d0a16_4 : decode cJ7_fill_d0a16 4 = .ok (.istore 4, 2) := by decide +kernel
theorem dJ7_fill_d0a16_6 : decode cJ7_fill_d0a16 6 = .ok (.iload_n 3, 1) := by decide +kernel
theorem dJ7_fill_d0a16_7 : decode cJ7_fill_d0a16 7 = .ok (.iload 4, 2) := by decide +kernel
theorem dJ7_fill_d0a16_9 : decode cJ7_fill_d0a16 9 = .ok (.if_icmp .ge 13, 3) := by decide +kernel
theorem dJ7_fill_d0a16_12 : decode cJ7_fill_d0a16 12 = .ok (.aload_n 0, 1) := by decide +kernel
theorem dJ7_fill_d0a16_13 : decode cJ7_fill_d0a16 13 = .ok (.iload_n 3, 1) := by decide +kernel
theorem dJ7_fill_d0a16_14 : decode cJ7_fill_d0a16 14 = .ok (.lload_n 1, 1) := by decide +kernel
theorem dJ7_fill_d0a16_15 : decode cJ7_fill_d0a16 15 = .ok (.lastore, 1) := by decide +kernel
theorem dJ7_fill_d0a16_16 : decode cJ7_fill_d0a16 16 = .ok (.iinc 3 1, 3) := by decide +kernel
theorem dJ7_fill_d0a16_19 : decode cJ7_fill_d0a16 19 = .ok (.goto (-13), 3) := by decide +kernel
theorem dJ7_fill_d0a16_22 : decode cJ7_fill_d0a16 22 = .ok (.return_, 1) := by decide +kernel
theorem dJ7_fill_53178_0 : decode cJ7_fill_53178 0 = .ok (.iconst 0, 1) := by decide +kernel
theorem dJ7_fill_53178_1 : decode cJ7_fill_53178 1 = .ok (.istore_n 2, 1) := by decide +kernel
theorem dJ7_fill_53178_2 : decode cJ7_fill_53178 2 = .ok (.aload_n 0, 1) := by decide +kernel
theorem dJ7_fill_53178_3 : decode cJ7_fill_53178 3 = .ok (.arraylength, 1) := by decide +kernel
theorem dJ7_fill_53178_4 : decode cJ7_fill_53178 4 = .ok (.istore_n 3, 1) := by decide +kernel
theorem dJ7_fill_53178_5 : decode cJ7_fill_53178 5 = .ok (.iload_n 2, 1) := by decide +kernel
theorem dJ7_fill_53178_6 : decode cJ7_fill_53178 6 = .ok (.iload_n 3, 1) := by decide +kernel
theorem dJ7_fill_53178_7 : decode cJ7_fill_53178 7 = .ok (.if_icmp .ge 13, 3) := by decide +kernel
theorem dJ7_fill_53178_10 : decode cJ7_fill_53178 10 = .ok (.aload_n 0, 1) := by decide +kernel
theorem dJ7_fill_53178_11 : decode cJ7_fill_53178 11 = .ok (.iload_n 2, 1) := by decide +kernel
theorem dJ7_fill_53178_12 : decode cJ7_fill_53178 12 = .ok (.iload_n 1, 1) := by decide +kernel
theorem dJ7_fill_53178_13 : decode cJ7_fill_53178 13 = .ok (.iastore, 1) := by decide +kernel
theorem dJ7_fill_53178_14 : decode cJ7_fill_53178 14 = .ok (.iinc 2 1, 3) := by decide +kernel
theorem dJ7_fill_53178_17 : decode cJ7_fill_53178 17 = .ok (.goto (-12), 3) := by decide +kernel
theorem dJ7_fill_53178_20 : decode cJ7_fill_53178 20 = .ok (.return_, 1) := by decide +kernel
end
section
theorem dX9_init_0 : decode cX9_init 0 = .ok (.aload_n 0, 1) := by decide +kernel
theorem dX9_init_1 : decode cX9_init 1 = .ok (.invokespecial 3, 3) := by decide +kernel
theorem dX9_init_4 : decode cX9_init 4 = .ok (.aload_n 0, 1) := by decide +kernel
theorem dX9_init_5 : decode cX9_init 5 = .ok (.new 9, 3) := by decide +kernel
theorem dX9_init_8 : decode cX9_init 8 = .ok (.dup, 1) := by decide +kernel
theorem dX9_init_9 : decode cX9_init 9 = .ok (.invokespecial 11, 3) := by decide +kernel
theorem dX9_init_12 : decode cX9_init 12 = .ok (.putfield 12, 3) := by decide +kernel
theorem dX9_init_15 : decode cX9_init 15 = .ok (.aload_n 0, 1) := by decide +kernel
theorem dX9_init_16 : decode cX9_init 16 = .ok (.new 9, 3) := by decide +kernel
theorem dX9_init_19 : decode cX9_init 19 = .ok (.dup, 1) := by decide +kernel
theorem dX9_init_20 : decode cX9_init 20 = .ok (.invokespecial 11, 3) := by decide +kernel
theorem dX9_init_23 : decode cX9_init 23 = .ok (.putfield 16, 3) := by decide +kernel
theorem dX9_init_26 : decode cX9_init 26 = .ok (.aload_n 0, 1) := by decide +kernel
theorem dX9_init_27 : decode cX9_init 27 = .ok (.new 19, 3) := by decide +kernel
theorem dX9_init_30 : decode cX9_init 30 = .ok (.dup, 1) := by decide +kernel
theorem dX9_init_31 : decode cX9_init 31 = .ok (.invokespecial 21, 3) := by decide +kernel
theorem dX9_init_34 : decode cX9_init 34 = .ok (.putfield 22, 3) := by decide +kernel
theorem dX9_init_37 : decode cX9_init 37 = .ok (.aload_n 0, 1) := by decide +kernel
theorem dX9_init_38 : decode cX9_init 38 = .ok (.new 26, 3) := by decide +kernel
theorem dX9_init_41 : decode cX9_init 41 = .ok (.dup, 1) := by decide +kernel
theorem dX9_init_42 : decode cX9_init 42 = .ok (.invokespecial 28, 3) := by decide +kernel
theorem dX9_init_45 : decode cX9_init 45 = .ok (.putfield 29, 3) := by decide +kernel
theorem dX9_init_48 : decode cX9_init 48 = .ok (.aload_n 0, 1) := by decide +kernel
theorem dX9_init_49 : decode cX9_init 49 = .ok (.new 33, 3) := by decide +kernel
theorem dX9_init_52 : decode cX9_init 52 = .ok (.dup, 1) := by decide +kernel
theorem dX9_init_53 : decode cX9_init 53 = .ok (.invokespecial 35, 3) := by decide +kernel
theorem dX9_init_56 : decode cX9_init 56 = .ok (.putfield 36, 3) := by decide +kernel
theorem dX9_init_59 : decode cX9_init 59 = .ok (.aload_n 0, 1) := by decide +kernel
theorem dX9_init_60 : decode cX9_init 60 = .ok (.new 33, 3) := by decide +kernel
theorem dX9_init_63 : decode cX9_init 63 = .ok (.dup, 1) := by decide +kernel
theorem dX9_init_64 : decode cX9_init 64 = .ok (.invokespecial 35, 3) := by decide +kernel
theorem dX9_init_67 : decode cX9_init 67 = .ok (.putfield 40, 3) := by decide +kernel
theorem dX9_init_70 : decode cX9_init 70 = .ok (.aload_n 0, 1) := by decide +kernel
theorem dX9_init_71 : decode cX9_init 71 = .ok (.new 43, 3) := by decide +kernel
theorem dX9_init_74 : decode cX9_init 74 = .ok (.dup, 1) := by decide +kernel
theorem dX9_init_75 : decode cX9_init 75 = .ok (.invokespecial 45, 3) := by decide +kernel
theorem dX9_init_78 : decode cX9_init 78 = .ok (.putfield 46, 3) := by decide +kernel
theorem dX9_init_81 : decode cX9_init 81 = .ok (.aload_n 0, 1) := by decide +kernel
theorem dX9_init_82 : decode cX9_init 82 = .ok (.new 50, 3) := by decide +kernel
theorem dX9_init_85 : decode cX9_init 85 = .ok (.dup, 1) := by decide +kernel
theorem dX9_init_86 : decode cX9_init 86 = .ok (.aload_n 0, 1) := by decide +kernel
theorem dX9_init_87 : decode cX9_init 87 = .ok (.getfield 46, 3) := by decide +kernel
theorem dX9_init_90 : decode cX9_init 90 = .ok (.invokespecial 52, 3) := by decide +kernel
theorem dX9_init_93 : decode cX9_init 93 = .ok (.putfield 55, 3) := by decide +kernel
theorem dX9_init_96 : decode cX9_init 96 = .ok (.aload_n 0, 1) := by decide +kernel
theorem dX9_init_97 : decode cX9_init 97 = .ok (.new 50, 3) := by decide +kernel
theorem dX9_init_100 : decode cX9_init 100 = .ok (.dup, 1) := by decide +kernel
theorem dX9_init_101 : decode cX9_init 101 = .ok (.aload_n 0, 1) := by decide +kernel
theorem dX9_init_102 : decode cX9_init 102 = .ok (.getfield 46, 3) := by decide +kernel
theorem dX9_init_105 : decode cX9_init 105 = .ok (.invokespecial 52, 3) := by decide +kernel
theorem dX9_init_108 : decode cX9_init 108 = .ok (.putfield 59, 3) := by decide +kernel
theorem dX9_init_111 : decode cX9_init 111 = .ok (.aload_n 0, 1) := by decide +kernel
theorem dX9_init_112 : decode cX9_init 112 = .ok (.new 62, 3) := by decide +kernel
theorem dX9_init_115 : decode cX9_init 115 = .ok (.dup, 1) := by decide +kernel
theorem dX9_init_116 : decode cX9_init 116 = .ok (.aload_n 0, 1) := by decide +kernel
theorem dX9_init_117 : decode cX9_init 117 = .ok (.getfield 46, 3) := by decide +kernel
theorem dX9_init_120 : decode cX9_init 120 = .ok (.aload_n 0, 1) := by decide +kernel
theorem dX9_init_121 : decode cX9_init 121 = .ok (.getfield 55, 3) := by decide +kernel
theorem dX9_init_124 : decode cX9_init 124 = .ok (.sipush 310, 3) := by decide +kernel
theorem dX9_init_127 : decode cX9_init 127 = .ok (.invokespecial 64, 3) := by decide +kernel
theorem dX9_init_130 : decode cX9_init 130 = .ok (.putfield 67, 3) := by decide +kernel
theorem dX9_init_133 : decode cX9_init 133 = .ok (.aload_n 0, 1) := by decide +kernel
theorem dX9_init_134 : decode cX9_init 134 = .ok (.new 62, 3) := by decide +kernel
theorem dX9_init_137 : decode cX9_init 137 = .ok (.dup, 1) := by decide +kernel
theorem dX9_init_138 : decode cX9_init 138 = .ok (.aload_n 0, 1) := by decide +kernel
theorem dX9_init_139 : decode cX9_init 139 = .ok (.getfield 46, 3) := by decide +kernel
theorem dX9_init_142 : decode cX9_init 142 = .ok (.aload_n 0, 1) := by decide +kernel
theorem dX9_init_143 : decode cX9_init 143 = .ok (.getfield 55, 3) := by decide +kernel
theorem dX9_init_146 : decode cX9_init 146 = .ok (.bipush 6, 2) := by decide +kernel
theorem dX9_init_148 : decode cX9_init 148 = .ok (.invokespecial 64, 3) := by decide +kernel
theorem dX9_init_151 : decode cX9_init 151 = .ok (.putfield 71, 3) := by decide +kernel
theorem dX9_init_154 : decode cX9_init 154 = .ok (.aload_n 0, 1) := by decide +kernel
theorem dX9_init_155 : decode cX9_init 155 = .ok (.new 62, 3) := by decide +kernel
theorem dX9_init_158 : decode cX9_init 158 = .ok (.dup, 1) := by decide +kernel
theorem dX9_init_159 : decode cX9_init 159 = .ok (.aload_n 0, 1) := by decide +kernel
theorem dX9_init_160 : decode cX9_init 160 = .ok (.getfield 46, 3) := by decide +kernel
theorem dX9_init_163 : decode cX9_init 163 = .ok (.aload_n 0, 1) := by decide +kernel
theorem dX9_init_164 : decode cX9_init 164 = .ok (.getfield 59, 3) := by decide +kernel
theorem dX9_init_167 : decode cX9_init 167 = .ok (.bipush 6, 2) := by decide +kernel
theorem dX9_init_169 : decode cX9_init 169 = .ok (.invokespecial 64, 3) := by decide +kernel
theorem dX9_init_172 : decode cX9_init 172 = .ok (.putfield 74, 3) := by decide +kernel
theorem dX9_init_175 : decode cX9_init 175 = .ok (.aload_n 0, 1) := by decide +kernel
theorem dX9_init_176 : decode cX9_init 176 = .ok (.new 77, 3) := by decide +kernel
theorem dX9_init_179 : decode cX9_init 179 = .ok (.dup, 1) := by decide +kernel
theorem dX9_init_180 : decode cX9_init 180 = .ok (.invokespecial 79, 3) := by decide +kernel
theorem dX9_init_183 : decode cX9_init 183 = .ok (.putfield 80, 3) := by decide +kernel
theorem dX9_init_186 : decode cX9_init 186 = .ok (.aload_n 0, 1) := by decide +kernel
theorem dX9_init_187 : decode cX9_init 187 = .ok (.new 84, 3) := by decide +kernel
theorem dX9_init_190 : decode cX9_init 190 = .ok (.dup, 1) := by decide +kernel
theorem dX9_init_191 : decode cX9_init 191 = .ok (.aload_n 0, 1) := by decide +kernel
theorem dX9_init_192 : decode cX9_init 192 = .ok (.getfield 46, 3) := by decide +kernel
theorem dX9_init_195 : decode cX9_init 195 = .ok (.aload_n 0, 1) := by decide +kernel
theorem dX9_init_196 : decode cX9_init 196 = .ok (.getfield 55, 3) := by decide +kernel
theorem dX9_init_199 : decode cX9_init 199 = .ok (.invokespecial 86, 3) := by decide +kernel
theorem dX9_init_202 : decode cX9_init 202 = .ok (.putfield 89, 3) := by decide +kernel
theorem dX9_init_205 : decode cX9_init 205 = .ok (.return_, 1) := by decide +kernel
theorem dX9_begin_0 : decode cX9_begin 0 = .ok (.iload_n 1, 1) := by decide +kernel
theorem dX9_begin_1 : decode cX9_begin 1 = .ok (.iconst 1, 1) := by decide +kernel
theorem dX9_begin_2 : decode cX9_begin 2 = .ok (.if_icmp .lt 18, 3) := by decide +kernel
theorem dX9_begin_5 : decode cX9_begin 5 = .ok (.iload_n 1, 1) := by decide +kernel
theorem dX9_begin_6 : decode cX9_begin 6 = .ok (.iconst 4, 1) := by decide +kernel
theorem dX9_begin_7 : decode cX9_begin 7 = .ok (.if_icmp .gt 13, 3) := by decide +kernel
theorem dX9_begin_10 : decode cX9_begin 10 = .ok (.iload_n 2, 1) := by decide +kernel
theorem dX9_begin_11 : decode cX9_begin 11 = .ok (.iconst 1, 1) := by decide +kernel
theorem dX9_begin_12 : decode cX9_begin 12 = .ok (.if_icmp .lt 8, 3) := by decide +kernel
theorem dX9_begin_15 : decode cX9_begin 15 = .ok (.iload_n 2, 1) := by decide +kernel
theorem dX9_begin_16 : decode cX9_begin 16 = .ok (.iconst 5, 1) := by decide +kernel
theorem dX9_begin_17 : decode cX9_begin 17 = .ok (.if_icmp .le 6, 3) := by decide +kernel
theorem dX9_begin_20 : decode cX9_begin 20 = .ok (.bipush (-2), 2) := by decide +kernel
theorem dX9_begin_22 : decode cX9_begin 22 = .ok (.ireturn, 1) := by decide +kernel
theorem dX9_begin_23 : decode cX9_begin 23 = .ok (.aload_n 0, 1) := by decide +kernel
theorem dX9_begin_24 : decode cX9_begin 24 = .ok (.getfield 12, 3) := by decide +kernel
theorem dX9_begin_27 : decode cX9_begin 27 = .ok (.getfield 93, 3) := by decide +kernel
theorem dX9_begin_30 : decode cX9_begin 30 = .ok (.istore_n 3, 1) := by decide +kernel
theorem dX9_begin_31 : decode cX9_begin 31 = .ok (.aload_n 0, 1) := by decide +kernel
theorem dX9_begin_32 : decode cX9_begin 32 = .ok (.invokevirtual 97, 3) := by decide +kernel
theorem dX9_begin_35 : decode cX9_begin 35 = .ok (.aload_n 0, 1) := by decide +kernel
theorem dX9_begin_36 : decode cX9_begin 36 = .ok (.getfield 12, 3) := by decide +kernel
theorem dX9_begin_39 : decode cX9_begin 39 = .ok (.iload_n 1, 1) := by decide +kernel
theorem dX9_begin_40 : decode cX9_begin 40 = .ok (.iload_n 2, 1) := by decide +kernel
theorem dX9_begin_41 : decode cX9_begin 41 = .ok (.invokevirtual 100, 3) := by decide +kernel
theorem dX9_begin_44 : decode cX9_begin 44 = .ok (.iload_n 3, 1) := by decide +kernel
theorem dX9_begin_45 : decode cX9_begin 45 = .ok (.ireturn, 1) := by decide +kernel
theorem dX9_addRule_0 : decode cX9_addRule 0 = .ok (.aload_n 0, 1) := by decide +kernel
theorem dX9_addRule_1 : decode cX9_addRule 1 = .ok (.iload_n 1, 1) := by decide +kernel
theorem dX9_addRule_2 : decode cX9_addRule 2 = .ok (.invokevirtual 104, 3) := by decide +kernel
theorem dX9_addRule_5 : decode cX9_addRule 5 = .ok (.ifCond .eq 30, 3) := by decide +kernel
theorem dX9_addRule_8 : decode cX9_addRule 8 = .ok (.aload_n 0, 1) := by decide +kernel
theorem dX9_addRule_9 : decode cX9_addRule 9 = .ok (.iload_n 2, 1) := by decide +kernel
theorem dX9_addRule_10 : decode cX9_addRule 10 = .ok (.invokevirtual 108, 3) := by decide +kernel
theorem dX9_addRule_13 : decode cX9_addRule 13 = .ok (.ifCond .eq 22, 3) := by decide +kernel
theorem dX9_addRule_16 : decode cX9_addRule 16 = .ok (.aload_n 0, 1) := by decide +kernel
theorem dX9_addRule_17 : decode cX9_addRule 17 = .ok (.iload_n 3, 1) := by decide +kernel
theorem dX9_addRule_18 : decode cX9_addRule 18 = .ok (.invokevirtual 104, 3) := by decide +kernel
theorem dX9_addRule_21 : decode cX9_addRule 21 = .ok (.ifCond .eq 14, 3) := by decide +kernel
theorem dX9_addRule_24 : decode cX9_addRule 24 = .ok (.aload_n 0, 1) := by decide +kernel
theorem dX9_addRule_25 : decode cX9_addRule 25 = .ok (.iload 4, 2) := by decide +kernel
theorem dX9_addRule_27 : decode cX9_addRule 27 = .ok (.iconst 0, 1) := by decide +kernel
theorem dX9_addRule_28 : decode cX9_addRule 28 = .ok (.iconst 2, 1) := by decide +kernel
theorem dX9_addRule_29 : decode cX9_addRule 29 = .ok (.invokevirtual 111, 3) := by decide +kernel
theorem dX9_addRule_32 : decode cX9_addRule 32 = .ok (.ifCond .ne 5, 3) := by decide +kernel
theorem dX9_addRule_35 : decode cX9_addRule 35 = .ok (.iconst (-1), 1) := by decide +kernel
theorem dX9_addRule_36 : decode cX9_addRule 36 = .ok (.ireturn, 1) := by decide +kernel
theorem dX9_addRule_37 : decode cX9_addRule 37 = .ok (.iload 5, 2) := by decide +kernel
theorem dX9_addRule_39 : decode cX9_addRule 39 = .ok (.invokestatic 115, 3) := by decide +kernel
theorem dX9_addRule_42 : decode cX9_addRule 42 = .ok (.ifCond .ne 6, 3) := by decide +kernel
theorem dX9_addRule_45 : decode cX9_addRule 45 = .ok (.bipush (-2), 2) := by decide +kernel
theorem dX9_addRule_47 : decode cX9_addRule 47 = .ok (.ireturn, 1) := by decide +kernel
theorem dX9_addRule_48 : decode cX9_addRule 48 = .ok (.aload_n 0, 1) := by decide +kernel
theorem dX9_addRule_49 : decode cX9_addRule 49 = .ok (.getfield 12, 3) := by decide +kernel
theorem dX9_addRule_52 : decode cX9_addRule 52 = .ok (.iload_n 1, 1) := by decide +kernel
theorem dX9_addRule_53 : decode cX9_addRule 53 = .ok (.iload_n 2, 1) := by decide +kernel
theorem dX9_addRule_54 : decode cX9_addRule 54 = .ok (.iload_n 3, 1) := by decide +kernel
theorem dX9_addRule_55 : decode cX9_addRule 55 = .ok (.iload 4, 2) := by decide +kernel
theorem dX9_addRule_57 : decode cX9_addRule 57 = .ok (.invokevirtual 118, 3) := by decide +kernel
theorem dX9_addRule_60 : decode cX9_addRule 60 = .ok (.ifCond .eq 6, 3) := by decide +kernel
theorem dX9_addRule_63 : decode cX9_addRule 63 = .ok (.bipush (-3), 2) := by decide +kernel
theorem dX9_addRule_65 : decode cX9_addRule 65 = .ok (.ireturn, 1) := by decide +kernel
theorem dX9_addRule_66 : decode cX9_addRule 66 = .ok (.aload_n 0, 1) := by decide +kernel
theorem dX9_addRule_67 : decode cX9_addRule 67 = .ok (.getfield 12, 3) := by decide +kernel
theorem dX9_addRule_70 : decode cX9_addRule 70 = .ok (.getfield 93, 3) := by decide +kernel
theorem dX9_addRule_73 : decode cX9_addRule 73 = .ok (.bipush 20, 2) := by decide +kernel
theorem dX9_addRule_75 : decode cX9_addRule 75 = .ok (.if_icmp .lt 6, 3) := by decide +kernel
theorem dX9_addRule_78 : decode cX9_addRule 78 = .ok (.bipush (-4), 2) := by decide +kernel
theorem dX9_addRule_80 : decode cX9_addRule 80 = .ok (.ireturn, 1) := by decide +kernel
theorem dX9_addRule_81 : decode cX9_addRule 81 = .ok (.aload_n 0, 1) := by decide +kernel
theorem dX9_addRule_82 : decode cX9_addRule 82 = .ok (.invokevirtual 97, 3) := by decide +kernel
theorem dX9_addRule_85 : decode cX9_addRule 85 = .ok (.aload_n 0, 1) := by decide +kernel
theorem dX9_addRule_86 : decode cX9_addRule 86 = .ok (.getfield 12, 3) := by decide +kernel
theorem dX9_addRule_89 : decode cX9_addRule 89 = .ok (.iload_n 1, 1) := by decide +kernel
theorem dX9_addRule_90 : decode cX9_addRule 90 = .ok (.iload_n 2, 1) := by decide +kernel
theorem dX9_addRule_91 : decode cX9_addRule 91 = .ok (.iload_n 3, 1) := by decide +kernel
theorem dX9_addRule_92 : decode cX9_addRule 92 = .ok (.iload 4, 2) := by decide +kernel
theorem dX9_addRule_94 : decode cX9_addRule 94 = .ok (.iload 5, 2) := by decide +kernel
theorem dX9_addRule_96 : decode cX9_addRule 96 = .ok (.invokevirtual 122, 3) := by decide +kernel
theorem dX9_addRule_99 : decode cX9_addRule 99 = .ok (.aload_n 0, 1) := by decide +kernel
theorem dX9_addRule_100 : decode cX9_addRule 100 = .ok (.getfield 12, 3) := by decide +kernel
theorem dX9_addRule_103 : decode cX9_addRule 103 = .ok (.getfield 93, 3) := by decide +kernel
theorem dX9_addRule_106 : decode cX9_addRule 106 = .ok (.iconst 1, 1) := by decide +kernel
theorem dX9_addRule_107 : decode cX9_addRule 107 = .ok (.isub, 1) := by decide +kernel
theorem dX9_addRule_108 : decode cX9_addRule 108 = .ok (.ireturn, 1) := by decide +kernel
theorem dX9_removeRule_0 : decode cX9_removeRule 0 = .ok (.aload_n 0, 1) := by decide +kernel
theorem dX9_removeRule_1 : decode cX9_removeRule 1 = .ok (.iload_n 1, 1) := by decide +kernel
theorem dX9_removeRule_2 : decode cX9_removeRule 2 = .ok (.invokevirtual 126, 3) := by decide +kernel
theorem dX9_removeRule_5 : decode cX9_removeRule 5 = .ok (.ifCond .ne 5, 3) := by decide +kernel
theorem dX9_removeRule_8 : decode cX9_removeRule 8 = .ok (.iconst (-1), 1) := by decide +kernel
theorem dX9_removeRule_9 : decode cX9_removeRule 9 = .ok (.ireturn, 1) := by decide +kernel
theorem dX9_removeRule_10 : decode cX9_removeRule 10 = .ok (.aload_n 0, 1) := by decide +kernel
theorem dX9_removeRule_11 : decode cX9_removeRule 11 = .ok (.invokevirtual 97, 3) := by decide +kernel
theorem dX9_removeRule_14 : decode cX9_removeRule 14 = .ok (.aload_n 0, 1) := by decide +kernel
theorem dX9_removeRule_15 : decode cX9_removeRule 15 = .ok (.getfield 12, 3) := by decide +kernel
theorem dX9_removeRule_18 : decode cX9_removeRule 18 = .ok (.iload_n 1, 1) := by decide +kernel
theorem dX9_removeRule_19 : decode cX9_removeRule 19 = .ok (.invokevirtual 129, 3) := by decide +kernel
theorem dX9_removeRule_22 : decode cX9_removeRule 22 = .ok (.aload_n 0, 1) := by decide +kernel
theorem dX9_removeRule_23 : decode cX9_removeRule 23 = .ok (.getfield 12, 3) := by decide +kernel
theorem dX9_removeRule_26 : decode cX9_removeRule 26 = .ok (.getfield 93, 3) := by decide +kernel
theorem dX9_removeRule_29 : decode cX9_removeRule 29 = .ok (.ireturn, 1) := by decide +kernel
theorem dX9_setWeight_0 : decode cX9_setWeight 0 = .ok (.aload_n 0, 1) := by decide +kernel
theorem dX9_setWeight_1 : decode cX9_setWeight 1 = .ok (.iload_n 1, 1) := by decide +kernel
theorem dX9_setWeight_2 : decode cX9_setWeight 2 = .ok (.invokevirtual 126, 3) := by decide +kernel
theorem dX9_setWeight_5 : decode cX9_setWeight 5 = .ok (.ifCond .ne 5, 3) := by decide +kernel
theorem dX9_setWeight_8 : decode cX9_setWeight 8 = .ok (.iconst (-1), 1) := by decide +kernel
theorem dX9_setWeight_9 : decode cX9_setWeight 9 = .ok (.ireturn, 1) := by decide +kernel
theorem dX9_setWeight_10 : decode cX9_setWeight 10 = .ok (.iload_n 2, 1) := by decide +kernel
theorem dX9_setWeight_11 : decode cX9_setWeight 11 = .ok (.invokestatic 115, 3) := by decide +kernel
theorem dX9_setWeight_14 : decode cX9_setWeight 14 = .ok (.ifCond .ne 6, 3) := by decide +kernel
theorem dX9_setWeight_17 : decode cX9_setWeight 17 = .ok (.bipush (-2), 2) := by decide +kernel
theorem dX9_setWeight_19 : decode cX9_setWeight 19 = .ok (.ireturn, 1) := by decide +kernel
theorem dX9_setWeight_20 : decode cX9_setWeight 20 = .ok (.aload_n 0, 1) := by decide +kernel
theorem dX9_setWeight_21 : decode cX9_setWeight 21 = .ok (.getfield 12, 3) := by decide +kernel
theorem dX9_setWeight_24 : decode cX9_setWeight 24 = .ok (.iload_n 1, 1) := by decide +kernel
theorem dX9_setWeight_25 : decode cX9_setWeight 25 = .ok (.iconst 4, 1) := by decide +kernel
theorem dX9_setWeight_26 : decode cX9_setWeight 26 = .ok (.invokevirtual 133, 3) := by decide +kernel
theorem dX9_setWeight_29 : decode cX9_setWeight 29 = .ok (.istore_n 3, 1) := by decide +kernel
theorem dX9_setWeight_30 : decode cX9_setWeight 30 = .ok (.aload_n 0, 1) := by decide +kernel
theorem dX9_setWeight_31 : decode cX9_setWeight 31 = .ok (.invokevirtual 97, 3) := by decide +kernel
theorem dX9_setWeight_34 : decode cX9_setWeight 34 = .ok (.aload_n 0, 1) := by decide +kernel
theorem dX9_setWeight_35 : decode cX9_setWeight 35 = .ok (.getfield 12, 3) := by decide +kernel
theorem dX9_setWeight_38 : decode cX9_setWeight 38 = .ok (.iload_n 1, 1) := by decide +kernel
theorem dX9_setWeight_39 : decode cX9_setWeight 39 = .ok (.iload_n 2, 1) := by decide +kernel
theorem dX9_setWeight_40 : decode cX9_setWeight 40 = .ok (.invokevirtual 137, 3) := by decide +kernel
theorem dX9_setWeight_43 : decode cX9_setWeight 43 = .ok (.iload_n 3, 1) := by decide +kernel
theorem dX9_setWeight_44 : decode cX9_setWeight 44 = .ok (.ireturn, 1) := by decide +kernel
theorem dX9_setStart_0 : decode cX9_setStart 0 = .ok (.aload_n 0, 1) := by decide +kernel
theorem dX9_setStart_1 : decode cX9_setStart 1 = .ok (.iload_n 1, 1) := by decide +kernel
theorem dX9_setStart_2 : decode cX9_setStart 2 = .ok (.invokevirtual 104, 3) := by decide +kernel
theorem dX9_setStart_5 : decode cX9_setStart 5 = .ok (.ifCond .eq 13, 3) := by decide +kernel
theorem dX9_setStart_8 : decode cX9_setStart 8 = .ok (.aload_n 0, 1) := by decide +kernel
theorem dX9_setStart_9 : decode cX9_setStart 9 = .ok (.iload_n 2, 1) := by decide +kernel
theorem dX9_setStart_10 : decode cX9_setStart 10 = .ok (.iconst 1, 1) := by decide +kernel
theorem dX9_setStart_11 : decode cX9_setStart 11 = .ok (.iconst 4, 1) := by decide +kernel
theorem dX9_setStart_12 : decode cX9_setStart 12 = .ok (.invokevirtual 111, 3) := by decide +kernel
theorem dX9_setStart_15 : decode cX9_setStart 15 = .ok (.ifCond .ne 5, 3) := by decide +kernel
theorem dX9_setStart_18 : decode cX9_setStart 18 = .ok (.iconst (-1), 1) := by decide +kernel
theorem dX9_setStart_19 : decode cX9_setStart 19 = .ok (.ireturn, 1) := by decide +kernel
theorem dX9_setStart_20 : decode cX9_setStart 20 = .ok (.aload_n 0, 1) := by decide +kernel
theorem dX9_setStart_21 : decode cX9_setStart 21 = .ok (.getfield 12, 3) := by decide +kernel
theorem dX9_setStart_24 : decode cX9_setStart 24 = .ok (.getfield 140, 3) := by decide +kernel
theorem dX9_setStart_27 : decode cX9_setStart 27 = .ok (.invokestatic 143, 3) := by decide +kernel
theorem dX9_setStart_30 : decode cX9_setStart 30 = .ok (.istore_n 3, 1) := by decide +kernel
theorem dX9_setStart_31 : decode cX9_setStart 31 = .ok (.aload_n 0, 1) := by decide +kernel
theorem dX9_setStart_32 : decode cX9_setStart 32 = .ok (.invokevirtual 97, 3) := by decide +kernel
theorem dX9_setStart_35 : decode cX9_setStart 35 = .ok (.aload_n 0, 1) := by decide +kernel
theorem dX9_setStart_36 : decode cX9_setStart 36 = .ok (.getfield 12, 3) := by decide +kernel
theorem dX9_setStart_39 : decode cX9_setStart 39 = .ok (.iload_n 1, 1) := by decide +kernel
theorem dX9_setStart_40 : decode cX9_setStart 40 = .ok (.putfield 147, 3) := by decide +kernel
theorem dX9_setStart_43 : decode cX9_setStart 43 = .ok (.aload_n 0, 1) := by decide +kernel
theorem dX9_setStart_44 : decode cX9_setStart 44 = .ok (.getfield 12, 3) := by decide +kernel
theorem dX9_setStart_47 : decode cX9_setStart 47 = .ok (.iload_n 2, 1) := by decide +kernel
theorem dX9_setStart_48 : decode cX9_setStart 48 = .ok (.putfield 140, 3) := by decide +kernel
theorem dX9_setStart_51 : decode cX9_setStart 51 = .ok (.iload_n 3, 1) := by decide +kernel
theorem dX9_setStart_52 : decode cX9_setStart 52 = .ok (.ireturn, 1) := by decide +kernel
theorem dX9_undo_0 : decode cX9_undo 0 = .ok (.aload_n 0, 1) := by decide +kernel
theorem dX9_undo_1 : decode cX9_undo 1 = .ok (.getfield 22, 3) := by decide +kernel
theorem dX9_undo_4 : decode cX9_undo 4 = .ok (.getfield 150, 3) := by decide +kernel
theorem dX9_undo_7 : decode cX9_undo 7 = .ok (.ifCond .ne 6, 3) := by decide +kernel
theorem dX9_undo_10 : decode cX9_undo 10 = .ok (.bipush (-5), 2) := by decide +kernel
theorem dX9_undo_12 : decode cX9_undo 12 = .ok (.ireturn, 1) := by decide +kernel
theorem dX9_undo_13 : decode cX9_undo 13 = .ok (.aload_n 0, 1) := by decide +kernel
theorem dX9_undo_14 : decode cX9_undo 14 = .ok (.getfield 22, 3) := by decide +kernel
theorem dX9_undo_17 : decode cX9_undo 17 = .ok (.aload_n 0, 1) := by decide +kernel
theorem dX9_undo_18 : decode cX9_undo 18 = .ok (.getfield 12, 3) := by decide +kernel
theorem dX9_undo_21 : decode cX9_undo 21 = .ok (.invokevirtual 153, 3) := by decide +kernel
theorem dX9_undo_24 : decode cX9_undo 24 = .ok (.aload_n 0, 1) := by decide +kernel
theorem dX9_undo_25 : decode cX9_undo 25 = .ok (.invokevirtual 157, 3) := by decide +kernel
theorem dX9_undo_28 : decode cX9_undo 28 = .ok (.aload_n 0, 1) := by decide +kernel
theorem dX9_undo_29 : decode cX9_undo 29 = .ok (.getfield 22, 3) := by decide +kernel
theorem dX9_undo_32 : decode cX9_undo 32 = .ok (.getfield 150, 3) := by decide +kernel
theorem dX9_undo_35 : decode cX9_undo 35 = .ok (.ireturn, 1) := by decide +kernel
theorem dX9_told_0 : decode cX9_told 0 = .ok (.iload_n 1, 1) := by decide +kernel
theorem dX9_told_1 : decode cX9_told 1 = .ok (.tableswitch 114 0 7 #[47, 55, 63, 71, 79, 87, 96, 105], 47) := by decide +kernel
theorem dX9_told_48 : decode cX9_told 48 = .ok (.aload_n 0, 1) := by decide +kernel
theorem dX9_told_49 : decode cX9_told 49 = .ok (.getfield 12, 3) := by decide +kernel
theorem dX9_told_52 : decode cX9_told 52 = .ok (.getfield 160, 3) := by decide +kernel
theorem dX9_told_55 : decode cX9_told 55 = .ok (.ireturn, 1) := by decide +kernel
theorem dX9_told_56 : decode cX9_told 56 = .ok (.aload_n 0, 1) := by decide +kernel
theorem dX9_told_57 : decode cX9_told 57 = .ok (.getfield 12, 3) := by decide +kernel
theorem dX9_told_60 : decode cX9_told 60 = .ok (.getfield 163, 3) := by decide +kernel
theorem dX9_told_63 : decode cX9_told 63 = .ok (.ireturn, 1) := by decide +kernel
theorem dX9_told_64 : decode cX9_told 64 = .ok (.aload_n 0, 1) := by decide +kernel
theorem dX9_told_65 : decode cX9_told 65 = .ok (.getfield 12, 3) := by decide +kernel
theorem dX9_told_68 : decode cX9_told 68 = .ok (.getfield 93, 3) := by decide +kernel
theorem dX9_told_71 : decode cX9_told 71 = .ok (.ireturn, 1) := by decide +kernel
theorem dX9_told_72 : decode cX9_told 72 = .ok (.aload_n 0, 1) := by decide +kernel
theorem dX9_told_73 : decode cX9_told 73 = .ok (.getfield 12, 3) := by decide +kernel
theorem dX9_told_76 : decode cX9_told 76 = .ok (.getfield 147, 3) := by decide +kernel
theorem dX9_told_79 : decode cX9_told 79 = .ok (.ireturn, 1) := by decide +kernel
theorem dX9_told_80 : decode cX9_told 80 = .ok (.aload_n 0, 1) := by decide +kernel
theorem dX9_told_81 : decode cX9_told 81 = .ok (.getfield 12, 3) := by decide +kernel
theorem dX9_told_84 : decode cX9_told 84 = .ok (.getfield 140, 3) := by decide +kernel
theorem dX9_told_87 : decode cX9_told 87 = .ok (.ireturn, 1) := by decide +kernel
theorem dX9_told_88 : decode cX9_told 88 = .ok (.aload_n 0, 1) := by decide +kernel
theorem dX9_told_89 : decode cX9_told 89 = .ok (.getfield 12, 3) := by decide +kernel
theorem dX9_told_92 : decode cX9_told 92 = .ok (.iconst 0, 1) := by decide +kernel
theorem dX9_told_93 : decode cX9_told 93 = .ok (.invokevirtual 166, 3) := by decide +kernel
theorem dX9_told_96 : decode cX9_told 96 = .ok (.ireturn, 1) := by decide +kernel
theorem dX9_told_97 : decode cX9_told 97 = .ok (.aload_n 0, 1) := by decide +kernel
theorem dX9_told_98 : decode cX9_told 98 = .ok (.getfield 12, 3) := by decide +kernel
theorem dX9_told_101 : decode cX9_told 101 = .ok (.iconst 1, 1) := by decide +kernel
theorem dX9_told_102 : decode cX9_told 102 = .ok (.invokevirtual 166, 3) := by decide +kernel
theorem dX9_told_105 : decode cX9_told 105 = .ok (.ireturn, 1) := by decide +kernel
theorem dX9_told_106 : decode cX9_told 106 = .ok (.aload_n 0, 1) := by decide +kernel
theorem dX9_told_107 : decode cX9_told 107 = .ok (.getfield 12, 3) := by decide +kernel
theorem dX9_told_110 : decode cX9_told 110 = .ok (.iconst 2, 1) := by decide +kernel
theorem dX9_told_111 : decode cX9_told 111 = .ok (.invokevirtual 166, 3) := by decide +kernel
theorem dX9_told_114 : decode cX9_told 114 = .ok (.ireturn, 1) := by decide +kernel
theorem dX9_told_115 : decode cX9_told 115 = .ok (.bipush (-2), 2) := by decide +kernel
theorem dX9_told_117 : decode cX9_told 117 = .ok (.ireturn, 1) := by decide +kernel
theorem dX9_rule_0 : decode cX9_rule 0 = .ok (.aload_n 0, 1) := by decide +kernel
theorem dX9_rule_1 : decode cX9_rule 1 = .ok (.iload_n 1, 1) := by decide +kernel
theorem dX9_rule_2 : decode cX9_rule 2 = .ok (.invokevirtual 126, 3) := by decide +kernel
theorem dX9_rule_5 : decode cX9_rule 5 = .ok (.ifCond .ne 5, 3) := by decide +kernel
theorem dX9_rule_8 : decode cX9_rule 8 = .ok (.iconst (-1), 1) := by decide +kernel
theorem dX9_rule_9 : decode cX9_rule 9 = .ok (.ireturn, 1) := by decide +kernel
theorem dX9_rule_10 : decode cX9_rule 10 = .ok (.iload_n 2, 1) := by decide +kernel
theorem dX9_rule_11 : decode cX9_rule 11 = .ok (.ifCond .lt 8, 3) := by decide +kernel
theorem dX9_rule_14 : decode cX9_rule 14 = .ok (.iload_n 2, 1) := by decide +kernel
theorem dX9_rule_15 : decode cX9_rule 15 = .ok (.iconst 5, 1) := by decide +kernel
theorem dX9_rule_16 : decode cX9_rule 16 = .ok (.if_icmp .lt 6, 3) := by decide +kernel
theorem dX9_rule_19 : decode cX9_rule 19 = .ok (.bipush (-2), 2) := by decide +kernel
theorem dX9_rule_21 : decode cX9_rule 21 = .ok (.ireturn, 1) := by decide +kernel
theorem dX9_rule_22 : decode cX9_rule 22 = .ok (.aload_n 0, 1) := by decide +kernel
theorem dX9_rule_23 : decode cX9_rule 23 = .ok (.getfield 12, 3) := by decide +kernel
theorem dX9_rule_26 : decode cX9_rule 26 = .ok (.iload_n 1, 1) := by decide +kernel
theorem dX9_rule_27 : decode cX9_rule 27 = .ok (.iload_n 2, 1) := by decide +kernel
theorem dX9_rule_28 : decode cX9_rule 28 = .ok (.invokevirtual 133, 3) := by decide +kernel
theorem dX9_rule_31 : decode cX9_rule 31 = .ok (.ireturn, 1) := by decide +kernel
theorem dX9_distance_0 : decode cX9_distance 0 = .ok (.aload_n 0, 1) := by decide +kernel
theorem dX9_distance_1 : decode cX9_distance 1 = .ok (.iload_n 1, 1) := by decide +kernel
theorem dX9_distance_2 : decode cX9_distance 2 = .ok (.iload_n 2, 1) := by decide +kernel
theorem dX9_distance_3 : decode cX9_distance 3 = .ok (.invokevirtual 169, 3) := by decide +kernel
theorem dX9_distance_6 : decode cX9_distance 6 = .ok (.ifCond .ne 5, 3) := by decide +kernel
theorem dX9_distance_9 : decode cX9_distance 9 = .ok (.iconst (-1), 1) := by decide +kernel
theorem dX9_distance_10 : decode cX9_distance 10 = .ok (.ireturn, 1) := by decide +kernel
theorem dX9_distance_11 : decode cX9_distance 11 = .ok (.aload_n 0, 1) := by decide +kernel
theorem dX9_distance_12 : decode cX9_distance 12 = .ok (.iload_n 1, 1) := by decide +kernel
theorem dX9_distance_13 : decode cX9_distance 13 = .ok (.invokevirtual 173, 3) := by decide +kernel
theorem dX9_distance_16 : decode cX9_distance 16 = .ok (.invokestatic 177, 3) := by decide +kernel
theorem dX9_distance_19 : decode cX9_distance 19 = .ok (.ireturn, 1) := by decide +kernel
theorem dX9_steps_0 : decode cX9_steps 0 = .ok (.aload_n 0, 1) := by decide +kernel
theorem dX9_steps_1 : decode cX9_steps 1 = .ok (.iload_n 1, 1) := by decide +kernel
theorem dX9_steps_2 : decode cX9_steps 2 = .ok (.iload_n 2, 1) := by decide +kernel
theorem dX9_steps_3 : decode cX9_steps 3 = .ok (.invokevirtual 169, 3) := by decide +kernel
theorem dX9_steps_6 : decode cX9_steps 6 = .ok (.ifCond .ne 5, 3) := by decide +kernel
theorem dX9_steps_9 : decode cX9_steps 9 = .ok (.iconst (-1), 1) := by decide +kernel
theorem dX9_steps_10 : decode cX9_steps 10 = .ok (.ireturn, 1) := by decide +kernel
theorem dX9_steps_11 : decode cX9_steps 11 = .ok (.aload_n 0, 1) := by decide +kernel
theorem dX9_steps_12 : decode cX9_steps 12 = .ok (.iload_n 1, 1) := by decide +kernel
theorem dX9_steps_13 : decode cX9_steps 13 = .ok (.invokevirtual 173, 3) := by decide +kernel
theorem dX9_steps_16 : decode cX9_steps 16 = .ok (.lstore_n 3, 1) := by decide +kernel
theorem dX9_steps_17 : decode cX9_steps 17 = .ok (.lload_n 3, 1) := by decide +kernel
theorem dX9_steps_18 : decode cX9_steps 18 = .ok (.ldc2_w 181, 3) := by decide +kernel
theorem dX9_steps_21 : decode cX9_steps 21 = .ok (.lcmp, 1) := by decide +kernel
theorem dX9_steps_22 : decode cX9_steps 22 = .ok (.ifCond .lt 8, 3) := by decide +kernel
theorem dX9_steps_25 : decode cX9_steps 25 = .ok (.bipush (-6), 2) := by decide +kernel
theorem dX9_steps_27 : decode cX9_steps 27 = .ok (.goto 7, 3) := by decide +kernel
theorem dX9_steps_30 : decode cX9_steps 30 = .ok (.lload_n 3, 1) := by decide +kernel
theorem dX9_steps_31 : decode cX9_steps 31 = .ok (.invokestatic 183, 3) := by decide +kernel
theorem dX9_steps_34 : decode cX9_steps 34 = .ok (.ireturn, 1) := by decide +kernel
theorem dX9_witness_0 : decode cX9_witness 0 = .ok (.aload_n 0, 1) := by decide +kernel
theorem dX9_witness_1 : decode cX9_witness 1 = .ok (.iload_n 1, 1) := by decide +kernel
theorem dX9_witness_2 : decode cX9_witness 2 = .ok (.iload_n 2, 1) := by decide +kernel
theorem dX9_witness_3 : decode cX9_witness 3 = .ok (.invokevirtual 169, 3) := by decide +kernel
theorem dX9_witness_6 : decode cX9_witness 6 = .ok (.ifCond .ne 5, 3) := by decide +kernel
theorem dX9_witness_9 : decode cX9_witness 9 = .ok (.iconst (-1), 1) := by decide +kernel
theorem dX9_witness_10 : decode cX9_witness 10 = .ok (.ireturn, 1) := by decide +kernel
theorem dX9_witness_11 : decode cX9_witness 11 = .ok (.iload_n 3, 1) := by decide +kernel
theorem dX9_witness_12 : decode cX9_witness 12 = .ok (.ifCond .lt 21, 3) := by decide +kernel
theorem dX9_witness_15 : decode cX9_witness 15 = .ok (.iload_n 3, 1) := by decide +kernel
theorem dX9_witness_16 : decode cX9_witness 16 = .ok (.sipush 301, 3) := by decide +kernel
theorem dX9_witness_19 : decode cX9_witness 19 = .ok (.if_icmp .ge 14, 3) := by decide +kernel
theorem dX9_witness_22 : decode cX9_witness 22 = .ok (.iload 4, 2) := by decide +kernel
theorem dX9_witness_24 : decode cX9_witness 24 = .ok (.ifCond .lt 9, 3) := by decide +kernel
theorem dX9_witness_27 : decode cX9_witness 27 = .ok (.iload 4, 2) := by decide +kernel
theorem dX9_witness_29 : decode cX9_witness 29 = .ok (.iconst 3, 1) := by decide +kernel
theorem dX9_witness_30 : decode cX9_witness 30 = .ok (.if_icmp .le 6, 3) := by decide +kernel
theorem dX9_witness_33 : decode cX9_witness 33 = .ok (.bipush (-2), 2) := by decide +kernel
theorem dX9_witness_35 : decode cX9_witness 35 = .ok (.ireturn, 1) := by decide +kernel
theorem dX9_witness_36 : decode cX9_witness 36 = .ok (.aload_n 0, 1) := by decide +kernel
theorem dX9_witness_37 : decode cX9_witness 37 = .ok (.iload_n 1, 1) := by decide +kernel
theorem dX9_witness_38 : decode cX9_witness 38 = .ok (.invokevirtual 173, 3) := by decide +kernel
theorem dX9_witness_41 : decode cX9_witness 41 = .ok (.ldc2_w 181, 3) := by decide +kernel
theorem dX9_witness_44 : decode cX9_witness 44 = .ok (.lcmp, 1) := by decide +kernel
theorem dX9_witness_45 : decode cX9_witness 45 = .ok (.ifCond .lt 6, 3) := by decide +kernel
theorem dX9_witness_48 : decode cX9_witness 48 = .ok (.bipush (-6), 2) := by decide +kernel
theorem dX9_witness_50 : decode cX9_witness 50 = .ok (.ireturn, 1) := by decide +kernel
theorem dX9_witness_51 : decode cX9_witness 51 = .ok (.aload_n 0, 1) := by decide +kernel
theorem dX9_witness_52 : decode cX9_witness 52 = .ok (.getfield 80, 3) := by decide +kernel
theorem dX9_witness_55 : decode cX9_witness 55 = .ok (.aload_n 0, 1) := by decide +kernel
theorem dX9_witness_56 : decode cX9_witness 56 = .ok (.getfield 67, 3) := by decide +kernel
theorem dX9_witness_59 : decode cX9_witness 59 = .ok (.aload_n 0, 1) := by decide +kernel
theorem dX9_witness_60 : decode cX9_witness 60 = .ok (.getfield 46, 3) := by decide +kernel
theorem dX9_witness_63 : decode cX9_witness 63 = .ok (.invokevirtual 186, 3) := by decide +kernel
theorem dX9_witness_66 : decode cX9_witness 66 = .ok (.iload_n 3, 1) := by decide +kernel
theorem dX9_witness_67 : decode cX9_witness 67 = .ok (.aload_n 0, 1) := by decide +kernel
theorem dX9_witness_68 : decode cX9_witness 68 = .ok (.getfield 80, 3) := by decide +kernel
theorem dX9_witness_71 : decode cX9_witness 71 = .ok (.getfield 190, 3) := by decide +kernel
theorem dX9_witness_74 : decode cX9_witness 74 = .ok (.if_icmp .ge 16, 3) := by decide +kernel
theorem dX9_witness_77 : decode cX9_witness 77 = .ok (.aload_n 0, 1) := by decide +kernel
theorem dX9_witness_78 : decode cX9_witness 78 = .ok (.getfield 80, 3) := by decide +kernel
theorem dX9_witness_81 : decode cX9_witness 81 = .ok (.iload_n 3, 1) := by decide +kernel
theorem dX9_witness_82 : decode cX9_witness 82 = .ok (.iload 4, 2) := by decide +kernel
theorem dX9_witness_84 : decode cX9_witness 84 = .ok (.invokevirtual 193, 3) := by decide +kernel
theorem dX9_witness_87 : decode cX9_witness 87 = .ok (.goto 5, 3) := by decide +kernel
theorem dX9_witness_90 : decode cX9_witness 90 = .ok (.bipush (-6), 2) := by decide +kernel
theorem dX9_witness_92 : decode cX9_witness 92 = .ok (.ireturn, 1) := by decide +kernel
theorem dX9_mean_0 : decode cX9_mean 0 = .ok (.aload_n 0, 1) := by decide +kernel
theorem dX9_mean_1 : decode cX9_mean 1 = .ok (.iload_n 1, 1) := by decide +kernel
theorem dX9_mean_2 : decode cX9_mean 2 = .ok (.iload_n 2, 1) := by decide +kernel
theorem dX9_mean_3 : decode cX9_mean 3 = .ok (.invokevirtual 169, 3) := by decide +kernel
theorem dX9_mean_6 : decode cX9_mean 6 = .ok (.ifCond .ne 6, 3) := by decide +kernel
theorem dX9_mean_9 : decode cX9_mean 9 = .ok (.ldc 194, 2) := by decide +kernel
theorem dX9_mean_11 : decode cX9_mean 11 = .ok (.freturn, 1) := by decide +kernel
theorem dX9_mean_12 : decode cX9_mean 12 = .ok (.aload_n 0, 1) := by decide +kernel
theorem dX9_mean_13 : decode cX9_mean 13 = .ok (.iload_n 1, 1) := by decide +kernel
theorem dX9_mean_14 : decode cX9_mean 14 = .ok (.invokevirtual 173, 3) := by decide +kernel
theorem dX9_mean_17 : decode cX9_mean 17 = .ok (.lstore_n 3, 1) := by decide +kernel
theorem dX9_mean_18 : decode cX9_mean 18 = .ok (.lload_n 3, 1) := by decide +kernel
theorem dX9_mean_19 : decode cX9_mean 19 = .ok (.ldc2_w 181, 3) := by decide +kernel
theorem dX9_mean_22 : decode cX9_mean 22 = .ok (.lcmp, 1) := by decide +kernel
theorem dX9_mean_23 : decode cX9_mean 23 = .ok (.ifCond .lt 6, 3) := by decide +kernel
theorem dX9_mean_26 : decode cX9_mean 26 = .ok (.ldc 195, 2) := by decide +kernel
theorem dX9_mean_28 : decode cX9_mean 28 = .ok (.freturn, 1) := by decide +kernel
theorem dX9_mean_29 : decode cX9_mean 29 = .ok (.lload_n 3, 1) := by decide +kernel
theorem dX9_mean_30 : decode cX9_mean 30 = .ok (.invokestatic 183, 3) := by decide +kernel
theorem dX9_mean_33 : decode cX9_mean 33 = .ok (.istore 5, 2) := by decide +kernel
theorem dX9_mean_35 : decode cX9_mean 35 = .ok (.iload 5, 2) := by decide +kernel
theorem dX9_mean_37 : decode cX9_mean 37 = .ok (.ifCond .ne 7, 3) := by decide +kernel
theorem dX9_mean_40 : decode cX9_mean 40 = .ok (.fconst 0, 1) := by decide +kernel
theorem dX9_mean_41 : decode cX9_mean 41 = .ok (.goto 12, 3) := by decide +kernel
theorem dX9_mean_44 : decode cX9_mean 44 = .ok (.lload_n 3, 1) := by decide +kernel
theorem dX9_mean_45 : decode cX9_mean 45 = .ok (.invokestatic 196, 3) := by decide +kernel
theorem dX9_mean_48 : decode cX9_mean 48 = .ok (.i2f, 1) := by decide +kernel
theorem dX9_mean_49 : decode cX9_mean 49 = .ok (.iload 5, 2) := by decide +kernel
theorem dX9_mean_51 : decode cX9_mean 51 = .ok (.i2f, 1) := by decide +kernel
theorem dX9_mean_52 : decode cX9_mean 52 = .ok (.fdiv, 1) := by decide +kernel
theorem dX9_mean_53 : decode cX9_mean 53 = .ok (.freturn, 1) := by decide +kernel
theorem dX9_headDistance_0 : decode cX9_headDistance 0 = .ok (.aload_n 0, 1) := by decide +kernel
theorem dX9_headDistance_1 : decode cX9_headDistance 1 = .ok (.iload_n 1, 1) := by decide +kernel
theorem dX9_headDistance_2 : decode cX9_headDistance 2 = .ok (.invokevirtual 104, 3) := by decide +kernel
theorem dX9_headDistance_5 : decode cX9_headDistance 5 = .ok (.ifCond .eq 11, 3) := by decide +kernel
theorem dX9_headDistance_8 : decode cX9_headDistance 8 = .ok (.aload_n 0, 1) := by decide +kernel
theorem dX9_headDistance_9 : decode cX9_headDistance 9 = .ok (.iload_n 2, 1) := by decide +kernel
theorem dX9_headDistance_10 : decode cX9_headDistance 10 = .ok (.invokevirtual 108, 3) := by decide +kernel
theorem dX9_headDistance_13 : decode cX9_headDistance 13 = .ok (.ifCond .ne 5, 3) := by decide +kernel
theorem dX9_headDistance_16 : decode cX9_headDistance 16 = .ok (.iconst (-1), 1) := by decide +kernel
theorem dX9_headDistance_17 : decode cX9_headDistance 17 = .ok (.ireturn, 1) := by decide +kernel
theorem dX9_headDistance_18 : decode cX9_headDistance 18 = .ok (.aload_n 0, 1) := by decide +kernel
theorem dX9_headDistance_19 : decode cX9_headDistance 19 = .ok (.invokevirtual 199, 3) := by decide +kernel
theorem dX9_headDistance_22 : decode cX9_headDistance 22 = .ok (.aload_n 0, 1) := by decide +kernel
theorem dX9_headDistance_23 : decode cX9_headDistance 23 = .ok (.getfield 89, 3) := by decide +kernel
theorem dX9_headDistance_26 : decode cX9_headDistance 26 = .ok (.iload_n 1, 1) := by decide +kernel
theorem dX9_headDistance_27 : decode cX9_headDistance 27 = .ok (.iload_n 2, 1) := by decide +kernel
theorem dX9_headDistance_28 : decode cX9_headDistance 28 = .ok (.invokestatic 202, 3) := by decide +kernel
theorem dX9_headDistance_31 : decode cX9_headDistance 31 = .ok (.invokevirtual 205, 3) := by decide +kernel
theorem dX9_headDistance_34 : decode cX9_headDistance 34 = .ok (.invokestatic 177, 3) := by decide +kernel
theorem dX9_headDistance_37 : decode cX9_headDistance 37 = .ok (.ireturn, 1) := by decide +kernel
theorem dX9_nearestStack_0 : decode cX9_nearestStack 0 = .ok (.aload_n 0, 1) := by decide +kernel
theorem dX9_nearestStack_1 : decode cX9_nearestStack 1 = .ok (.iload_n 1, 1) := by decide +kernel
theorem dX9_nearestStack_2 : decode cX9_nearestStack 2 = .ok (.invokevirtual 104, 3) := by decide +kernel
theorem dX9_nearestStack_5 : decode cX9_nearestStack 5 = .ok (.ifCond .eq 11, 3) := by decide +kernel
theorem dX9_nearestStack_8 : decode cX9_nearestStack 8 = .ok (.aload_n 0, 1) := by decide +kernel
theorem dX9_nearestStack_9 : decode cX9_nearestStack 9 = .ok (.iload_n 2, 1) := by decide +kernel
theorem dX9_nearestStack_10 : decode cX9_nearestStack 10 = .ok (.invokevirtual 108, 3) := by decide +kernel
theorem dX9_nearestStack_13 : decode cX9_nearestStack 13 = .ok (.ifCond .ne 5, 3) := by decide +kernel
theorem dX9_nearestStack_16 : decode cX9_nearestStack 16 = .ok (.iconst (-1), 1) := by decide +kernel
theorem dX9_nearestStack_17 : decode cX9_nearestStack 17 = .ok (.ireturn, 1) := by decide +kernel
theorem dX9_nearestStack_18 : decode cX9_nearestStack 18 = .ok (.aload_n 0, 1) := by decide +kernel
theorem dX9_nearestStack_19 : decode cX9_nearestStack 19 = .ok (.invokevirtual 199, 3) := by decide +kernel
theorem dX9_nearestStack_22 : decode cX9_nearestStack 22 = .ok (.aload_n 0, 1) := by decide +kernel
theorem dX9_nearestStack_23 : decode cX9_nearestStack 23 = .ok (.getfield 89, 3) := by decide +kernel
theorem dX9_nearestStack_26 : decode cX9_nearestStack 26 = .ok (.iload_n 1, 1) := by decide +kernel
theorem dX9_nearestStack_27 : decode cX9_nearestStack 27 = .ok (.iload_n 2, 1) := by decide +kernel
theorem dX9_nearestStack_28 : decode cX9_nearestStack 28 = .ok (.invokestatic 202, 3) := by decide +kernel
theorem dX9_nearestStack_31 : decode cX9_nearestStack 31 = .ok (.iload_n 2, 1) := by decide +kernel
theorem dX9_nearestStack_32 : decode cX9_nearestStack 32 = .ok (.invokevirtual 208, 3) := by decide +kernel
theorem dX9_nearestStack_35 : decode cX9_nearestStack 35 = .ok (.ireturn, 1) := by decide +kernel
theorem dX9_heads_0 : decode cX9_heads 0 = .ok (.aload_n 0, 1) := by decide +kernel
theorem dX9_heads_1 : decode cX9_heads 1 = .ok (.invokevirtual 199, 3) := by decide +kernel
theorem dX9_heads_4 : decode cX9_heads 4 = .ok (.iconst 0, 1) := by decide +kernel
theorem dX9_heads_5 : decode cX9_heads 5 = .ok (.istore_n 1, 1) := by decide +kernel
theorem dX9_heads_6 : decode cX9_heads 6 = .ok (.iconst 0, 1) := by decide +kernel
theorem dX9_heads_7 : decode cX9_heads 7 = .ok (.istore_n 2, 1) := by decide +kernel
theorem dX9_heads_8 : decode cX9_heads 8 = .ok (.iload_n 2, 1) := by decide +kernel
theorem dX9_heads_9 : decode cX9_heads 9 = .ok (.bipush 20, 2) := by decide +kernel
theorem dX9_heads_11 : decode cX9_heads 11 = .ok (.if_icmp .ge 27, 3) := by decide +kernel
theorem dX9_heads_14 : decode cX9_heads 14 = .ok (.aload_n 0, 1) := by decide +kernel
theorem dX9_heads_15 : decode cX9_heads 15 = .ok (.getfield 89, 3) := by decide +kernel
theorem dX9_heads_18 : decode cX9_heads 18 = .ok (.iload_n 2, 1) := by decide +kernel
theorem dX9_heads_19 : decode cX9_heads 19 = .ok (.invokevirtual 205, 3) := by decide +kernel
theorem dX9_heads_22 : decode cX9_heads 22 = .ok (.ldc2_w 181, 3) := by decide +kernel
theorem dX9_heads_25 : decode cX9_heads 25 = .ok (.lcmp, 1) := by decide +kernel
theorem dX9_heads_26 : decode cX9_heads 26 = .ok (.ifCond .ge 6, 3) := by decide +kernel
theorem dX9_heads_29 : decode cX9_heads 29 = .ok (.iinc 1 1, 3) := by decide +kernel
theorem dX9_heads_32 : decode cX9_heads 32 = .ok (.iinc 2 1, 3) := by decide +kernel
theorem dX9_heads_35 : decode cX9_heads 35 = .ok (.goto (-27), 3) := by decide +kernel
theorem dX9_heads_38 : decode cX9_heads 38 = .ok (.iload_n 1, 1) := by decide +kernel
theorem dX9_heads_39 : decode cX9_heads 39 = .ok (.ireturn, 1) := by decide +kernel
theorem dX9_price_0 : decode cX9_price 0 = .ok (.aload_n 0, 1) := by decide +kernel
theorem dX9_price_1 : decode cX9_price 1 = .ok (.iload_n 1, 1) := by decide +kernel
theorem dX9_price_2 : decode cX9_price 2 = .ok (.invokevirtual 104, 3) := by decide +kernel
theorem dX9_price_5 : decode cX9_price 5 = .ok (.ifCond .eq 19, 3) := by decide +kernel
theorem dX9_price_8 : decode cX9_price 8 = .ok (.aload_n 0, 1) := by decide +kernel
theorem dX9_price_9 : decode cX9_price 9 = .ok (.iload_n 2, 1) := by decide +kernel
theorem dX9_price_10 : decode cX9_price 10 = .ok (.invokevirtual 108, 3) := by decide +kernel
theorem dX9_price_13 : decode cX9_price 13 = .ok (.ifCond .eq 11, 3) := by decide +kernel
theorem dX9_price_16 : decode cX9_price 16 = .ok (.aload_n 0, 1) := by decide +kernel
theorem dX9_price_17 : decode cX9_price 17 = .ok (.iload_n 3, 1) := by decide +kernel
theorem dX9_price_18 : decode cX9_price 18 = .ok (.invokevirtual 104, 3) := by decide +kernel
theorem dX9_price_21 : decode cX9_price 21 = .ok (.ifCond .ne 5, 3) := by decide +kernel
theorem dX9_price_24 : decode cX9_price 24 = .ok (.iconst (-1), 1) := by decide +kernel
theorem dX9_price_25 : decode cX9_price 25 = .ok (.ireturn, 1) := by decide +kernel
theorem dX9_price_26 : decode cX9_price 26 = .ok (.aload_n 0, 1) := by decide +kernel
theorem dX9_price_27 : decode cX9_price 27 = .ok (.invokevirtual 211, 3) := by decide +kernel
theorem dX9_price_30 : decode cX9_price 30 = .ok (.aload_n 0, 1) := by decide +kernel
theorem dX9_price_31 : decode cX9_price 31 = .ok (.getfield 55, 3) := by decide +kernel
theorem dX9_price_34 : decode cX9_price 34 = .ok (.iload_n 1, 1) := by decide +kernel
theorem dX9_price_35 : decode cX9_price 35 = .ok (.iload_n 2, 1) := by decide +kernel
theorem dX9_price_36 : decode cX9_price 36 = .ok (.invokestatic 202, 3) := by decide +kernel
theorem dX9_price_39 : decode cX9_price 39 = .ok (.iload_n 3, 1) := by decide +kernel
theorem dX9_price_40 : decode cX9_price 40 = .ok (.invokevirtual 214, 3) := by decide +kernel
theorem dX9_price_43 : decode cX9_price 43 = .ok (.invokestatic 177, 3) := by decide +kernel
theorem dX9_price_46 : decode cX9_price 46 = .ok (.ireturn, 1) := by decide +kernel
theorem dX9_wordPrice_0 : decode cX9_wordPrice 0 = .ok (.aload_n 0, 1) := by decide +kernel
theorem dX9_wordPrice_1 : decode cX9_wordPrice 1 = .ok (.iload_n 1, 1) := by decide +kernel
theorem dX9_wordPrice_2 : decode cX9_wordPrice 2 = .ok (.invokevirtual 104, 3) := by decide +kernel
theorem dX9_wordPrice_5 : decode cX9_wordPrice 5 = .ok (.ifCond .eq 22, 3) := by decide +kernel
theorem dX9_wordPrice_8 : decode cX9_wordPrice 8 = .ok (.aload_n 0, 1) := by decide +kernel
theorem dX9_wordPrice_9 : decode cX9_wordPrice 9 = .ok (.iload_n 2, 1) := by decide +kernel
theorem dX9_wordPrice_10 : decode cX9_wordPrice 10 = .ok (.iconst 0, 1) := by decide +kernel
theorem dX9_wordPrice_11 : decode cX9_wordPrice 11 = .ok (.bipush 6, 2) := by decide +kernel
theorem dX9_wordPrice_13 : decode cX9_wordPrice 13 = .ok (.invokevirtual 111, 3) := by decide +kernel
theorem dX9_wordPrice_16 : decode cX9_wordPrice 16 = .ok (.ifCond .eq 11, 3) := by decide +kernel
theorem dX9_wordPrice_19 : decode cX9_wordPrice 19 = .ok (.aload_n 0, 1) := by decide +kernel
theorem dX9_wordPrice_20 : decode cX9_wordPrice 20 = .ok (.iload_n 3, 1) := by decide +kernel
theorem dX9_wordPrice_21 : decode cX9_wordPrice 21 = .ok (.invokevirtual 104, 3) := by decide +kernel
theorem dX9_wordPrice_24 : decode cX9_wordPrice 24 = .ok (.ifCond .ne 5, 3) := by decide +kernel
theorem dX9_wordPrice_27 : decode cX9_wordPrice 27 = .ok (.iconst (-1), 1) := by decide +kernel
theorem dX9_wordPrice_28 : decode cX9_wordPrice 28 = .ok (.ireturn, 1) := by decide +kernel
theorem dX9_wordPrice_29 : decode cX9_wordPrice 29 = .ok (.aload_n 0, 1) := by decide +kernel
theorem dX9_wordPrice_30 : decode cX9_wordPrice 30 = .ok (.invokevirtual 211, 3) := by decide +kernel
theorem dX9_wordPrice_33 : decode cX9_wordPrice 33 = .ok (.aload_n 0, 1) := by decide +kernel
theorem dX9_wordPrice_34 : decode cX9_wordPrice 34 = .ok (.getfield 71, 3) := by decide +kernel
theorem dX9_wordPrice_37 : decode cX9_wordPrice 37 = .ok (.iload_n 3, 1) := by decide +kernel
theorem dX9_wordPrice_38 : decode cX9_wordPrice 38 = .ok (.aload_n 0, 1) := by decide +kernel
theorem dX9_wordPrice_39 : decode cX9_wordPrice 39 = .ok (.getfield 40, 3) := by decide +kernel
theorem dX9_wordPrice_42 : decode cX9_wordPrice 42 = .ok (.invokevirtual 218, 3) := by decide +kernel
theorem dX9_wordPrice_45 : decode cX9_wordPrice 45 = .ok (.aload_n 0, 1) := by decide +kernel
theorem dX9_wordPrice_46 : decode cX9_wordPrice 46 = .ok (.getfield 71, 3) := by decide +kernel
theorem dX9_wordPrice_49 : decode cX9_wordPrice 49 = .ok (.iload_n 1, 1) := by decide +kernel
theorem dX9_wordPrice_50 : decode cX9_wordPrice 50 = .ok (.aload_n 0, 1) := by decide +kernel
theorem dX9_wordPrice_51 : decode cX9_wordPrice 51 = .ok (.getfield 36, 3) := by decide +kernel
theorem dX9_wordPrice_54 : decode cX9_wordPrice 54 = .ok (.invokevirtual 222, 3) := by decide +kernel
theorem dX9_wordPrice_57 : decode cX9_wordPrice 57 = .ok (.invokestatic 177, 3) := by decide +kernel
theorem dX9_wordPrice_60 : decode cX9_wordPrice 60 = .ok (.ireturn, 1) := by decide +kernel
theorem dX9_arcs_0 : decode cX9_arcs 0 = .ok (.aload_n 0, 1) := by decide +kernel
theorem dX9_arcs_1 : decode cX9_arcs 1 = .ok (.invokevirtual 199, 3) := by decide +kernel
theorem dX9_arcs_4 : decode cX9_arcs 4 = .ok (.aload_n 0, 1) := by decide +kernel
theorem dX9_arcs_5 : decode cX9_arcs 5 = .ok (.getfield 89, 3) := by decide +kernel
theorem dX9_arcs_8 : decode cX9_arcs 8 = .ok (.getfield 226, 3) := by decide +kernel
theorem dX9_arcs_11 : decode cX9_arcs 11 = .ok (.ireturn, 1) := by decide +kernel
theorem dX9_arc_0 : decode cX9_arc 0 = .ok (.iload_n 1, 1) := by decide +kernel
theorem dX9_arc_1 : decode cX9_arc 1 = .ok (.ifCond .lt 12, 3) := by decide +kernel
theorem dX9_arc_4 : decode cX9_arc 4 = .ok (.iload_n 2, 1) := by decide +kernel
theorem dX9_arc_5 : decode cX9_arc 5 = .ok (.ifCond .lt 8, 3) := by decide +kernel
theorem dX9_arc_8 : decode cX9_arc 8 = .ok (.iload_n 2, 1) := by decide +kernel
theorem dX9_arc_9 : decode cX9_arc 9 = .ok (.iconst 3, 1) := by decide +kernel
theorem dX9_arc_10 : decode cX9_arc 10 = .ok (.if_icmp .le 6, 3) := by decide +kernel
theorem dX9_arc_13 : decode cX9_arc 13 = .ok (.bipush (-2), 2) := by decide +kernel
theorem dX9_arc_15 : decode cX9_arc 15 = .ok (.ireturn, 1) := by decide +kernel
theorem dX9_arc_16 : decode cX9_arc 16 = .ok (.aload_n 0, 1) := by decide +kernel
theorem dX9_arc_17 : decode cX9_arc 17 = .ok (.invokevirtual 199, 3) := by decide +kernel
theorem dX9_arc_20 : decode cX9_arc 20 = .ok (.iload_n 1, 1) := by decide +kernel
theorem dX9_arc_21 : decode cX9_arc 21 = .ok (.aload_n 0, 1) := by decide +kernel
theorem dX9_arc_22 : decode cX9_arc 22 = .ok (.getfield 89, 3) := by decide +kernel
theorem dX9_arc_25 : decode cX9_arc 25 = .ok (.getfield 226, 3) := by decide +kernel
theorem dX9_arc_28 : decode cX9_arc 28 = .ok (.if_icmp .ge 15, 3) := by decide +kernel
theorem dX9_arc_31 : decode cX9_arc 31 = .ok (.aload_n 0, 1) := by decide +kernel
theorem dX9_arc_32 : decode cX9_arc 32 = .ok (.getfield 89, 3) := by decide +kernel
theorem dX9_arc_35 : decode cX9_arc 35 = .ok (.iload_n 1, 1) := by decide +kernel
theorem dX9_arc_36 : decode cX9_arc 36 = .ok (.iload_n 2, 1) := by decide +kernel
theorem dX9_arc_37 : decode cX9_arc 37 = .ok (.invokevirtual 227, 3) := by decide +kernel
theorem dX9_arc_40 : decode cX9_arc 40 = .ok (.goto 5, 3) := by decide +kernel
theorem dX9_arc_43 : decode cX9_arc 43 = .ok (.bipush (-6), 2) := by decide +kernel
theorem dX9_arc_45 : decode cX9_arc 45 = .ok (.ireturn, 1) := by decide +kernel
theorem dX9_arcWeight_0 : decode cX9_arcWeight 0 = .ok (.iload_n 1, 1) := by decide +kernel
theorem dX9_arcWeight_1 : decode cX9_arcWeight 1 = .ok (.invokestatic 228, 3) := by decide +kernel
theorem dX9_arcWeight_4 : decode cX9_arcWeight 4 = .ok (.istore 4, 2) := by decide +kernel
theorem dX9_arcWeight_6 : decode cX9_arcWeight 6 = .ok (.iload_n 3, 1) := by decide +kernel
theorem dX9_arcWeight_7 : decode cX9_arcWeight 7 = .ok (.invokestatic 228, 3) := by decide +kernel
theorem dX9_arcWeight_10 : decode cX9_arcWeight 10 = .ok (.iconst 4, 1) := by decide +kernel
theorem dX9_arcWeight_11 : decode cX9_arcWeight 11 = .ok (.isub, 1) := by decide +kernel
theorem dX9_arcWeight_12 : decode cX9_arcWeight 12 = .ok (.istore 5, 2) := by decide +kernel
theorem dX9_arcWeight_14 : decode cX9_arcWeight 14 = .ok (.iload 4, 2) := by decide +kernel
theorem dX9_arcWeight_16 : decode cX9_arcWeight 16 = .ok (.ifCond .lt 18, 3) := by decide +kernel
theorem dX9_arcWeight_19 : decode cX9_arcWeight 19 = .ok (.iload 5, 2) := by decide +kernel
theorem dX9_arcWeight_21 : decode cX9_arcWeight 21 = .ok (.ifCond .lt 13, 3) := by decide +kernel
theorem dX9_arcWeight_24 : decode cX9_arcWeight 24 = .ok (.iload_n 2, 1) := by decide +kernel
theorem dX9_arcWeight_25 : decode cX9_arcWeight 25 = .ok (.ifCond .lt 9, 3) := by decide +kernel
theorem dX9_arcWeight_28 : decode cX9_arcWeight 28 = .ok (.iload_n 2, 1) := by decide +kernel
theorem dX9_arcWeight_29 : decode cX9_arcWeight 29 = .ok (.bipush 6, 2) := by decide +kernel
theorem dX9_arcWeight_31 : decode cX9_arcWeight 31 = .ok (.if_icmp .lt 6, 3) := by decide +kernel
theorem dX9_arcWeight_34 : decode cX9_arcWeight 34 = .ok (.bipush (-6), 2) := by decide +kernel
theorem dX9_arcWeight_36 : decode cX9_arcWeight 36 = .ok (.ireturn, 1) := by decide +kernel
theorem dX9_arcWeight_37 : decode cX9_arcWeight 37 = .ok (.aload_n 0, 1) := by decide +kernel
theorem dX9_arcWeight_38 : decode cX9_arcWeight 38 = .ok (.invokevirtual 199, 3) := by decide +kernel
theorem dX9_arcWeight_41 : decode cX9_arcWeight 41 = .ok (.aload_n 0, 1) := by decide +kernel
theorem dX9_arcWeight_42 : decode cX9_arcWeight 42 = .ok (.getfield 89, 3) := by decide +kernel
theorem dX9_arcWeight_45 : decode cX9_arcWeight 45 = .ok (.iload 4, 2) := by decide +kernel
theorem dX9_arcWeight_47 : decode cX9_arcWeight 47 = .ok (.iload_n 2, 1) := by decide +kernel
theorem dX9_arcWeight_48 : decode cX9_arcWeight 48 = .ok (.iload 5, 2) := by decide +kernel
theorem dX9_arcWeight_50 : decode cX9_arcWeight 50 = .ok (.invokevirtual 231, 3) := by decide +kernel
theorem dX9_arcWeight_53 : decode cX9_arcWeight 53 = .ok (.ireturn, 1) := by decide +kernel
theorem dX9_distanceWithout_0 : decode cX9_distanceWithout 0 = .ok (.aload_n 0, 1) := by decide +kernel
theorem dX9_distanceWithout_1 : decode cX9_distanceWithout 1 = .ok (.iload_n 1, 1) := by decide +kernel
theorem dX9_distanceWithout_2 : decode cX9_distanceWithout 2 = .ok (.invokevirtual 126, 3) := by decide +kernel
theorem dX9_distanceWithout_5 : decode cX9_distanceWithout 5 = .ok (.ifCond .eq 12, 3) := by decide +kernel
theorem dX9_distanceWithout_8 : decode cX9_distanceWithout 8 = .ok (.aload_n 0, 1) := by decide +kernel
theorem dX9_distanceWithout_9 : decode cX9_distanceWithout 9 = .ok (.iload_n 2, 1) := by decide +kernel
theorem dX9_distanceWithout_10 : decode cX9_distanceWithout 10 = .ok (.iload_n 3, 1) := by decide +kernel
theorem dX9_distanceWithout_11 : decode cX9_distanceWithout 11 = .ok (.invokevirtual 169, 3) := by decide +kernel
theorem dX9_distanceWithout_14 : decode cX9_distanceWithout 14 = .ok (.ifCond .ne 5, 3) := by decide +kernel
theorem dX9_distanceWithout_17 : decode cX9_distanceWithout 17 = .ok (.iconst (-1), 1) := by decide +kernel
theorem dX9_distanceWithout_18 : decode cX9_distanceWithout 18 = .ok (.ireturn, 1) := by decide +kernel
theorem dX9_distanceWithout_19 : decode cX9_distanceWithout 19 = .ok (.aload_n 0, 1) := by decide +kernel
theorem dX9_distanceWithout_20 : decode cX9_distanceWithout 20 = .ok (.iload_n 1, 1) := by decide +kernel
theorem dX9_distanceWithout_21 : decode cX9_distanceWithout 21 = .ok (.iload_n 2, 1) := by decide +kernel
theorem dX9_distanceWithout_22 : decode cX9_distanceWithout 22 = .ok (.invokevirtual 235, 3) := by decide +kernel
theorem dX9_distanceWithout_25 : decode cX9_distanceWithout 25 = .ok (.invokestatic 177, 3) := by decide +kernel
theorem dX9_distanceWithout_28 : decode cX9_distanceWithout 28 = .ok (.ireturn, 1) := by decide +kernel
theorem dX9_critical_0 : decode cX9_critical 0 = .ok (.aload_n 0, 1) := by decide +kernel
theorem dX9_critical_1 : decode cX9_critical 1 = .ok (.iload_n 1, 1) := by decide +kernel
theorem dX9_critical_2 : decode cX9_critical 2 = .ok (.iload_n 2, 1) := by decide +kernel
theorem dX9_critical_3 : decode cX9_critical 3 = .ok (.invokevirtual 169, 3) := by decide +kernel
theorem dX9_critical_6 : decode cX9_critical 6 = .ok (.ifCond .ne 5, 3) := by decide +kernel
theorem dX9_critical_9 : decode cX9_critical 9 = .ok (.iconst (-1), 1) := by decide +kernel
theorem dX9_critical_10 : decode cX9_critical 10 = .ok (.ireturn, 1) := by decide +kernel
theorem dX9_critical_11 : decode cX9_critical 11 = .ok (.aload_n 0, 1) := by decide +kernel
theorem dX9_critical_12 : decode cX9_critical 12 = .ok (.iload_n 1, 1) := by decide +kernel
theorem dX9_critical_13 : decode cX9_critical 13 = .ok (.invokevirtual 173, 3) := by decide +kernel
theorem dX9_critical_16 : decode cX9_critical 16 = .ok (.lstore_n 3, 1) := by decide +kernel
theorem dX9_critical_17 : decode cX9_critical 17 = .ok (.lload_n 3, 1) := by decide +kernel
theorem dX9_critical_18 : decode cX9_critical 18 = .ok (.ldc2_w 181, 3) := by decide +kernel
theorem dX9_critical_21 : decode cX9_critical 21 = .ok (.lcmp, 1) := by decide +kernel
theorem dX9_critical_22 : decode cX9_critical 22 = .ok (.ifCond .lt 6, 3) := by decide +kernel
theorem dX9_critical_25 : decode cX9_critical 25 = .ok (.bipush (-6), 2) := by decide +kernel
theorem dX9_critical_27 : decode cX9_critical 27 = .ok (.ireturn, 1) := by decide +kernel
theorem dX9_critical_28 : decode cX9_critical 28 = .ok (.aload_n 0, 1) := by decide +kernel
theorem dX9_critical_29 : decode cX9_critical 29 = .ok (.invokevirtual 238, 3) := by decide +kernel
theorem dX9_critical_32 : decode cX9_critical 32 = .ok (.istore 5, 2) := by decide +kernel
theorem dX9_critical_34 : decode cX9_critical 34 = .ok (.iconst 0, 1) := by decide +kernel
theorem dX9_critical_35 : decode cX9_critical 35 = .ok (.istore 6, 2) := by decide +kernel
theorem dX9_critical_37 : decode cX9_critical 37 = .ok (.iconst 0, 1) := by decide +kernel
theorem dX9_critical_38 : decode cX9_critical 38 = .ok (.istore 7, 2) := by decide +kernel
theorem dX9_critical_40 : decode cX9_critical 40 = .ok (.iload 7, 2) := by decide +kernel
theorem dX9_critical_42 : decode cX9_critical 42 = .ok (.aload_n 0, 1) := by decide +kernel
theorem dX9_critical_43 : decode cX9_critical 43 = .ok (.getfield 12, 3) := by decide +kernel
theorem dX9_critical_46 : decode cX9_critical 46 = .ok (.getfield 93, 3) := by decide +kernel
theorem dX9_critical_49 : decode cX9_critical 49 = .ok (.if_icmp .ge 45, 3) := by decide +kernel
theorem dX9_critical_52 : decode cX9_critical 52 = .ok (.iload 5, 2) := by decide +kernel
theorem dX9_critical_54 : decode cX9_critical 54 = .ok (.iload 7, 2) := by decide +kernel
theorem dX9_critical_56 : decode cX9_critical 56 = .ok (.ishr, 1) := by decide +kernel
theorem dX9_critical_57 : decode cX9_critical 57 = .ok (.iconst 1, 1) := by decide +kernel
theorem dX9_critical_58 : decode cX9_critical 58 = .ok (.iand, 1) := by decide +kernel
theorem dX9_critical_59 : decode cX9_critical 59 = .ok (.ifCond .eq 29, 3) := by decide +kernel
theorem dX9_critical_62 : decode cX9_critical 62 = .ok (.aload_n 0, 1) := by decide +kernel
theorem dX9_critical_63 : decode cX9_critical 63 = .ok (.iload 7, 2) := by decide +kernel
theorem dX9_critical_65 : decode cX9_critical 65 = .ok (.iload_n 1, 1) := by decide +kernel
theorem dX9_critical_66 : decode cX9_critical 66 = .ok (.invokevirtual 235, 3) := by decide +kernel
theorem dX9_critical_69 : decode cX9_critical 69 = .ok (.invokestatic 196, 3) := by decide +kernel
theorem dX9_critical_72 : decode cX9_critical 72 = .ok (.lload_n 3, 1) := by decide +kernel
theorem dX9_critical_73 : decode cX9_critical 73 = .ok (.invokestatic 196, 3) := by decide +kernel
theorem dX9_critical_76 : decode cX9_critical 76 = .ok (.if_icmp .eq 12, 3) := by decide +kernel
theorem dX9_critical_79 : decode cX9_critical 79 = .ok (.iload 6, 2) := by decide +kernel
theorem dX9_critical_81 : decode cX9_critical 81 = .ok (.iconst 1, 1) := by decide +kernel
theorem dX9_critical_82 : decode cX9_critical 82 = .ok (.iload 7, 2) := by decide +kernel
theorem dX9_critical_84 : decode cX9_critical 84 = .ok (.ishl, 1) := by decide +kernel
theorem dX9_critical_85 : decode cX9_critical 85 = .ok (.ior, 1) := by decide +kernel
theorem dX9_critical_86 : decode cX9_critical 86 = .ok (.istore 6, 2) := by decide +kernel
theorem dX9_critical_88 : decode cX9_critical 88 = .ok (.iinc 7 1, 3) := by decide +kernel
theorem dX9_critical_91 : decode cX9_critical 91 = .ok (.goto (-51), 3) := by decide +kernel
theorem dX9_critical_94 : decode cX9_critical 94 = .ok (.iload 6, 2) := by decide +kernel
theorem dX9_critical_96 : decode cX9_critical 96 = .ok (.ireturn, 1) := by decide +kernel
theorem dX9_tolerance_0 : decode cX9_tolerance 0 = .ok (.aload_n 0, 1) := by decide +kernel
theorem dX9_tolerance_1 : decode cX9_tolerance 1 = .ok (.iload_n 1, 1) := by decide +kernel
theorem dX9_tolerance_2 : decode cX9_tolerance 2 = .ok (.invokevirtual 126, 3) := by decide +kernel
theorem dX9_tolerance_5 : decode cX9_tolerance 5 = .ok (.ifCond .eq 12, 3) := by decide +kernel
theorem dX9_tolerance_8 : decode cX9_tolerance 8 = .ok (.aload_n 0, 1) := by decide +kernel
theorem dX9_tolerance_9 : decode cX9_tolerance 9 = .ok (.iload_n 2, 1) := by decide +kernel
theorem dX9_tolerance_10 : decode cX9_tolerance 10 = .ok (.iload_n 3, 1) := by decide +kernel
theorem dX9_tolerance_11 : decode cX9_tolerance 11 = .ok (.invokevirtual 169, 3) := by decide +kernel
theorem dX9_tolerance_14 : decode cX9_tolerance 14 = .ok (.ifCond .ne 5, 3) := by decide +kernel
theorem dX9_tolerance_17 : decode cX9_tolerance 17 = .ok (.iconst (-1), 1) := by decide +kernel
theorem dX9_tolerance_18 : decode cX9_tolerance 18 = .ok (.ireturn, 1) := by decide +kernel
theorem dX9_tolerance_19 : decode cX9_tolerance 19 = .ok (.aload_n 0, 1) := by decide +kernel
theorem dX9_tolerance_20 : decode cX9_tolerance 20 = .ok (.iload_n 2, 1) := by decide +kernel
theorem dX9_tolerance_21 : decode cX9_tolerance 21 = .ok (.invokevirtual 173, 3) := by decide +kernel
theorem dX9_tolerance_24 : decode cX9_tolerance 24 = .ok (.lstore 4, 2) := by decide +kernel
theorem dX9_tolerance_26 : decode cX9_tolerance 26 = .ok (.lload 4, 2) := by decide +kernel
theorem dX9_tolerance_28 : decode cX9_tolerance 28 = .ok (.ldc2_w 181, 3) := by decide +kernel
theorem dX9_tolerance_31 : decode cX9_tolerance 31 = .ok (.lcmp, 1) := by decide +kernel
theorem dX9_tolerance_32 : decode cX9_tolerance 32 = .ok (.ifCond .lt 6, 3) := by decide +kernel
theorem dX9_tolerance_35 : decode cX9_tolerance 35 = .ok (.bipush (-6), 2) := by decide +kernel
theorem dX9_tolerance_37 : decode cX9_tolerance 37 = .ok (.ireturn, 1) := by decide +kernel
theorem dX9_tolerance_38 : decode cX9_tolerance 38 = .ok (.aload_n 0, 1) := by decide +kernel
theorem dX9_tolerance_39 : decode cX9_tolerance 39 = .ok (.iload_n 1, 1) := by decide +kernel
theorem dX9_tolerance_40 : decode cX9_tolerance 40 = .ok (.iload_n 2, 1) := by decide +kernel
theorem dX9_tolerance_41 : decode cX9_tolerance 41 = .ok (.invokevirtual 235, 3) := by decide +kernel
theorem dX9_tolerance_44 : decode cX9_tolerance 44 = .ok (.invokestatic 196, 3) := by decide +kernel
theorem dX9_tolerance_47 : decode cX9_tolerance 47 = .ok (.lload 4, 2) := by decide +kernel
theorem dX9_tolerance_49 : decode cX9_tolerance 49 = .ok (.invokestatic 196, 3) := by decide +kernel
theorem dX9_tolerance_52 : decode cX9_tolerance 52 = .ok (.if_icmp .ne 7, 3) := by decide +kernel
theorem dX9_tolerance_55 : decode cX9_tolerance 55 = .ok (.iconst 1, 1) := by decide +kernel
theorem dX9_tolerance_56 : decode cX9_tolerance 56 = .ok (.goto 4, 3) := by decide +kernel
theorem dX9_tolerance_59 : decode cX9_tolerance 59 = .ok (.iconst 0, 1) := by decide +kernel
theorem dX9_tolerance_60 : decode cX9_tolerance 60 = .ok (.istore 6, 2) := by decide +kernel
theorem dX9_tolerance_62 : decode cX9_tolerance 62 = .ok (.iload 6, 2) := by decide +kernel
theorem dX9_tolerance_64 : decode cX9_tolerance 64 = .ok (.ifCond .eq 18, 3) := by decide +kernel
theorem dX9_tolerance_67 : decode cX9_tolerance 67 = .ok (.bipush 20, 2) := by decide +kernel
theorem dX9_tolerance_69 : decode cX9_tolerance 69 = .ok (.aload_n 0, 1) := by decide +kernel
theorem dX9_tolerance_70 : decode cX9_tolerance 70 = .ok (.getfield 12, 3) := by decide +kernel
theorem dX9_tolerance_73 : decode cX9_tolerance 73 = .ok (.iload_n 1, 1) := by decide +kernel
theorem dX9_tolerance_74 : decode cX9_tolerance 74 = .ok (.iconst 4, 1) := by decide +kernel
theorem dX9_tolerance_75 : decode cX9_tolerance 75 = .ok (.invokevirtual 133, 3) := by decide +kernel
theorem dX9_tolerance_78 : decode cX9_tolerance 78 = .ok (.isub, 1) := by decide +kernel
theorem dX9_tolerance_79 : decode cX9_tolerance 79 = .ok (.goto 4, 3) := by decide +kernel
theorem dX9_tolerance_82 : decode cX9_tolerance 82 = .ok (.iconst 0, 1) := by decide +kernel
theorem dX9_tolerance_83 : decode cX9_tolerance 83 = .ok (.ireturn, 1) := by decide +kernel
theorem dX9_write_0 : decode cX9_write 0 = .ok (.iload_n 1, 1) := by decide +kernel
theorem dX9_write_1 : decode cX9_write 1 = .ok (.bipush 32, 2) := by decide +kernel
theorem dX9_write_3 : decode cX9_write 3 = .ok (.if_icmp .lt 9, 3) := by decide +kernel
theorem dX9_write_6 : decode cX9_write 6 = .ok (.iload_n 1, 1) := by decide +kernel
theorem dX9_write_7 : decode cX9_write 7 = .ok (.bipush 126, 2) := by decide +kernel
theorem dX9_write_9 : decode cX9_write 9 = .ok (.if_icmp .le 6, 3) := by decide +kernel
theorem dX9_write_12 : decode cX9_write 12 = .ok (.bipush (-2), 2) := by decide +kernel
theorem dX9_write_14 : decode cX9_write 14 = .ok (.ireturn, 1) := by decide +kernel
theorem dX9_write_15 : decode cX9_write 15 = .ok (.aload_n 0, 1) := by decide +kernel
theorem dX9_write_16 : decode cX9_write 16 = .ok (.getfield 29, 3) := by decide +kernel
theorem dX9_write_19 : decode cX9_write 19 = .ok (.getfield 242, 3) := by decide +kernel
theorem dX9_write_22 : decode cX9_write 22 = .ok (.sipush 200, 3) := by decide +kernel
theorem dX9_write_25 : decode cX9_write 25 = .ok (.if_icmp .lt 6, 3) := by decide +kernel
theorem dX9_write_28 : decode cX9_write 28 = .ok (.bipush (-4), 2) := by decide +kernel
theorem dX9_write_30 : decode cX9_write 30 = .ok (.ireturn, 1) := by decide +kernel
theorem dX9_write_31 : decode cX9_write 31 = .ok (.aload_n 0, 1) := by decide +kernel
theorem dX9_write_32 : decode cX9_write 32 = .ok (.getfield 29, 3) := by decide +kernel
theorem dX9_write_35 : decode cX9_write 35 = .ok (.iload_n 1, 1) := by decide +kernel
theorem dX9_write_36 : decode cX9_write 36 = .ok (.invokevirtual 243, 3) := by decide +kernel
theorem dX9_write_39 : decode cX9_write 39 = .ok (.aload_n 0, 1) := by decide +kernel
theorem dX9_write_40 : decode cX9_write 40 = .ok (.getfield 29, 3) := by decide +kernel
theorem dX9_write_43 : decode cX9_write 43 = .ok (.getfield 242, 3) := by decide +kernel
theorem dX9_write_46 : decode cX9_write 46 = .ok (.ireturn, 1) := by decide +kernel
theorem dX9_wipe_0 : decode cX9_wipe 0 = .ok (.aload_n 0, 1) := by decide +kernel
theorem dX9_wipe_1 : decode cX9_wipe 1 = .ok (.getfield 29, 3) := by decide +kernel
theorem dX9_wipe_4 : decode cX9_wipe 4 = .ok (.getfield 242, 3) := by decide +kernel
theorem dX9_wipe_7 : decode cX9_wipe 7 = .ok (.istore_n 1, 1) := by decide +kernel
theorem dX9_wipe_8 : decode cX9_wipe 8 = .ok (.aload_n 0, 1) := by decide +kernel
theorem dX9_wipe_9 : decode cX9_wipe 9 = .ok (.getfield 29, 3) := by decide +kernel
theorem dX9_wipe_12 : decode cX9_wipe 12 = .ok (.iconst 0, 1) := by decide +kernel
theorem dX9_wipe_13 : decode cX9_wipe 13 = .ok (.putfield 242, 3) := by decide +kernel
theorem dX9_wipe_16 : decode cX9_wipe 16 = .ok (.iload_n 1, 1) := by decide +kernel
theorem dX9_wipe_17 : decode cX9_wipe 17 = .ok (.ireturn, 1) := by decide +kernel
theorem dX9_fault_0 : decode cX9_fault 0 = .ok (.aload_n 0, 1) := by decide +kernel
theorem dX9_fault_1 : decode cX9_fault 1 = .ok (.invokevirtual 245, 3) := by decide +kernel
theorem dX9_fault_4 : decode cX9_fault 4 = .ok (.ireturn, 1) := by decide +kernel
theorem dX9_load_0 : decode cX9_load 0 = .ok (.aload_n 0, 1) := by decide +kernel
theorem dX9_load_1 : decode cX9_load 1 = .ok (.invokevirtual 245, 3) := by decide +kernel
theorem dX9_load_4 : decode cX9_load 4 = .ok (.bipush (-6), 2) := by decide +kernel
theorem dX9_load_6 : decode cX9_load 6 = .ok (.if_icmp .eq 6, 3) := by decide +kernel
theorem dX9_load_9 : decode cX9_load 9 = .ok (.bipush (-5), 2) := by decide +kernel
theorem dX9_load_11 : decode cX9_load 11 = .ok (.ireturn, 1) := by decide +kernel
theorem dX9_load_12 : decode cX9_load 12 = .ok (.aload_n 0, 1) := by decide +kernel
theorem dX9_load_13 : decode cX9_load 13 = .ok (.invokevirtual 97, 3) := by decide +kernel
theorem dX9_load_16 : decode cX9_load 16 = .ok (.aload_n 0, 1) := by decide +kernel
theorem dX9_load_17 : decode cX9_load 17 = .ok (.getfield 12, 3) := by decide +kernel
theorem dX9_load_20 : decode cX9_load 20 = .ok (.aload_n 0, 1) := by decide +kernel
theorem dX9_load_21 : decode cX9_load 21 = .ok (.getfield 16, 3) := by decide +kernel
theorem dX9_load_24 : decode cX9_load 24 = .ok (.invokevirtual 248, 3) := by decide +kernel
theorem dX9_load_27 : decode cX9_load 27 = .ok (.aload_n 0, 1) := by decide +kernel
theorem dX9_load_28 : decode cX9_load 28 = .ok (.getfield 12, 3) := by decide +kernel
theorem dX9_load_31 : decode cX9_load 31 = .ok (.getfield 93, 3) := by decide +kernel
theorem dX9_load_34 : decode cX9_load 34 = .ok (.ireturn, 1) := by decide +kernel
theorem dX9_isState_0 : decode cX9_isState 0 = .ok (.iload_n 1, 1) := by decide +kernel
theorem dX9_isState_1 : decode cX9_isState 1 = .ok (.ifCond .lt 18, 3) := by decide +kernel
theorem dX9_isState_4 : decode cX9_isState 4 = .ok (.iload_n 1, 1) := by decide +kernel
theorem dX9_isState_5 : decode cX9_isState 5 = .ok (.aload_n 0, 1) := by decide +kernel
theorem dX9_isState_6 : decode cX9_isState 6 = .ok (.getfield 12, 3) := by decide +kernel
theorem dX9_isState_9 : decode cX9_isState 9 = .ok (.getfield 160, 3) := by decide +kernel
theorem dX9_isState_12 : decode cX9_isState 12 = .ok (.if_icmp .ge 7, 3) := by decide +kernel
theorem dX9_isState_15 : decode cX9_isState 15 = .ok (.iconst 1, 1) := by decide +kernel
theorem dX9_isState_16 : decode cX9_isState 16 = .ok (.goto 4, 3) := by decide +kernel
theorem dX9_isState_19 : decode cX9_isState 19 = .ok (.iconst 0, 1) := by decide +kernel
theorem dX9_isState_20 : decode cX9_isState 20 = .ok (.ireturn, 1) := by decide +kernel
theorem dX9_isSymbol_0 : decode cX9_isSymbol 0 = .ok (.iload_n 1, 1) := by decide +kernel
theorem dX9_isSymbol_1 : decode cX9_isSymbol 1 = .ok (.iconst 1, 1) := by decide +kernel
theorem dX9_isSymbol_2 : decode cX9_isSymbol 2 = .ok (.if_icmp .lt 18, 3) := by decide +kernel
theorem dX9_isSymbol_5 : decode cX9_isSymbol 5 = .ok (.iload_n 1, 1) := by decide +kernel
theorem dX9_isSymbol_6 : decode cX9_isSymbol 6 = .ok (.aload_n 0, 1) := by decide +kernel
theorem dX9_isSymbol_7 : decode cX9_isSymbol 7 = .ok (.getfield 12, 3) := by decide +kernel
theorem dX9_isSymbol_10 : decode cX9_isSymbol 10 = .ok (.getfield 163, 3) := by decide +kernel
theorem dX9_isSymbol_13 : decode cX9_isSymbol 13 = .ok (.if_icmp .gt 7, 3) := by decide +kernel
theorem dX9_isSymbol_16 : decode cX9_isSymbol 16 = .ok (.iconst 1, 1) := by decide +kernel
theorem dX9_isSymbol_17 : decode cX9_isSymbol 17 = .ok (.goto 4, 3) := by decide +kernel
theorem dX9_isSymbol_20 : decode cX9_isSymbol 20 = .ok (.iconst 0, 1) := by decide +kernel
theorem dX9_isSymbol_21 : decode cX9_isSymbol 21 = .ok (.ireturn, 1) := by decide +kernel
theorem dX9_isRule_0 : decode cX9_isRule 0 = .ok (.iload_n 1, 1) := by decide +kernel
theorem dX9_isRule_1 : decode cX9_isRule 1 = .ok (.ifCond .lt 18, 3) := by decide +kernel
theorem dX9_isRule_4 : decode cX9_isRule 4 = .ok (.iload_n 1, 1) := by decide +kernel
theorem dX9_isRule_5 : decode cX9_isRule 5 = .ok (.aload_n 0, 1) := by decide +kernel
theorem dX9_isRule_6 : decode cX9_isRule 6 = .ok (.getfield 12, 3) := by decide +kernel
theorem dX9_isRule_9 : decode cX9_isRule 9 = .ok (.getfield 93, 3) := by decide +kernel
theorem dX9_isRule_12 : decode cX9_isRule 12 = .ok (.if_icmp .ge 7, 3) := by decide +kernel
theorem dX9_isRule_15 : decode cX9_isRule 15 = .ok (.iconst 1, 1) := by decide +kernel
theorem dX9_isRule_16 : decode cX9_isRule 16 = .ok (.goto 4, 3) := by decide +kernel
theorem dX9_isRule_19 : decode cX9_isRule 19 = .ok (.iconst 0, 1) := by decide +kernel
theorem dX9_isRule_20 : decode cX9_isRule 20 = .ok (.ireturn, 1) := by decide +kernel
theorem dX9_isWeight_0 : decode cX9_isWeight 0 = .ok (.iload_n 0, 1) := by decide +kernel
theorem dX9_isWeight_1 : decode cX9_isWeight 1 = .ok (.iconst 1, 1) := by decide +kernel
theorem dX9_isWeight_2 : decode cX9_isWeight 2 = .ok (.if_icmp .lt 13, 3) := by decide +kernel
theorem dX9_isWeight_5 : decode cX9_isWeight 5 = .ok (.iload_n 0, 1) := by decide +kernel
theorem dX9_isWeight_6 : decode cX9_isWeight 6 = .ok (.bipush 20, 2) := by decide +kernel
theorem dX9_isWeight_8 : decode cX9_isWeight 8 = .ok (.if_icmp .gt 7, 3) := by decide +kernel
theorem dX9_isWeight_11 : decode cX9_isWeight 11 = .ok (.iconst 1, 1) := by decide +kernel
theorem dX9_isWeight_12 : decode cX9_isWeight 12 = .ok (.goto 4, 3) := by decide +kernel
theorem dX9_isWeight_15 : decode cX9_isWeight 15 = .ok (.iconst 0, 1) := by decide +kernel
theorem dX9_isWeight_16 : decode cX9_isWeight 16 = .ok (.ireturn, 1) := by decide +kernel
theorem dX9_isWord_0 : decode cX9_isWord 0 = .ok (.aload_n 0, 1) := by decide +kernel
theorem dX9_isWord_1 : decode cX9_isWord 1 = .ok (.getfield 36, 3) := by decide +kernel
theorem dX9_isWord_4 : decode cX9_isWord 4 = .ok (.iload_n 1, 1) := by decide +kernel
theorem dX9_isWord_5 : decode cX9_isWord 5 = .ok (.aload_n 0, 1) := by decide +kernel
theorem dX9_isWord_6 : decode cX9_isWord 6 = .ok (.getfield 12, 3) := by decide +kernel
theorem dX9_isWord_9 : decode cX9_isWord 9 = .ok (.getfield 163, 3) := by decide +kernel
theorem dX9_isWord_12 : decode cX9_isWord 12 = .ok (.invokevirtual 251, 3) := by decide +kernel
theorem dX9_isWord_15 : decode cX9_isWord 15 = .ok (.ifCond .eq 29, 3) := by decide +kernel
theorem dX9_isWord_18 : decode cX9_isWord 18 = .ok (.aload_n 0, 1) := by decide +kernel
theorem dX9_isWord_19 : decode cX9_isWord 19 = .ok (.getfield 36, 3) := by decide +kernel
theorem dX9_isWord_22 : decode cX9_isWord 22 = .ok (.getfield 254, 3) := by decide +kernel
theorem dX9_isWord_25 : decode cX9_isWord 25 = .ok (.iload_n 2, 1) := by decide +kernel
theorem dX9_isWord_26 : decode cX9_isWord 26 = .ok (.if_icmp .lt 18, 3) := by decide +kernel
theorem dX9_isWord_29 : decode cX9_isWord 29 = .ok (.aload_n 0, 1) := by decide +kernel
theorem dX9_isWord_30 : decode cX9_isWord 30 = .ok (.getfield 36, 3) := by decide +kernel
theorem dX9_isWord_33 : decode cX9_isWord 33 = .ok (.getfield 254, 3) := by decide +kernel
theorem dX9_isWord_36 : decode cX9_isWord 36 = .ok (.iload_n 3, 1) := by decide +kernel
theorem dX9_isWord_37 : decode cX9_isWord 37 = .ok (.if_icmp .gt 7, 3) := by decide +kernel
theorem dX9_isWord_40 : decode cX9_isWord 40 = .ok (.iconst 1, 1) := by decide +kernel
theorem dX9_isWord_41 : decode cX9_isWord 41 = .ok (.goto 4, 3) := by decide +kernel
theorem dX9_isWord_44 : decode cX9_isWord 44 = .ok (.iconst 0, 1) := by decide +kernel
theorem dX9_isWord_45 : decode cX9_isWord 45 = .ok (.ireturn, 1) := by decide +kernel
theorem dX9_isAsked_0 : decode cX9_isAsked 0 = .ok (.aload_n 0, 1) := by decide +kernel
theorem dX9_isAsked_1 : decode cX9_isAsked 1 = .ok (.iload_n 1, 1) := by decide +kernel
theorem dX9_isAsked_2 : decode cX9_isAsked 2 = .ok (.invokevirtual 104, 3) := by decide +kernel
theorem dX9_isAsked_5 : decode cX9_isAsked 5 = .ok (.ifCond .eq 18, 3) := by decide +kernel
theorem dX9_isAsked_8 : decode cX9_isAsked 8 = .ok (.aload_n 0, 1) := by decide +kernel
theorem dX9_isAsked_9 : decode cX9_isAsked 9 = .ok (.iload_n 2, 1) := by decide +kernel
theorem dX9_isAsked_10 : decode cX9_isAsked 10 = .ok (.iconst 0, 1) := by decide +kernel
theorem dX9_isAsked_11 : decode cX9_isAsked 11 = .ok (.bipush 6, 2) := by decide +kernel
theorem dX9_isAsked_13 : decode cX9_isAsked 13 = .ok (.invokevirtual 111, 3) := by decide +kernel
theorem dX9_isAsked_16 : decode cX9_isAsked 16 = .ok (.ifCond .eq 7, 3) := by decide +kernel
theorem dX9_isAsked_19 : decode cX9_isAsked 19 = .ok (.iconst 1, 1) := by decide +kernel
theorem dX9_isAsked_20 : decode cX9_isAsked 20 = .ok (.goto 4, 3) := by decide +kernel
theorem dX9_isAsked_23 : decode cX9_isAsked 23 = .ok (.iconst 0, 1) := by decide +kernel
theorem dX9_isAsked_24 : decode cX9_isAsked 24 = .ok (.ireturn, 1) := by decide +kernel
theorem dX9_recordChange_0 : decode cX9_recordChange 0 = .ok (.aload_n 0, 1) := by decide +kernel
theorem dX9_recordChange_1 : decode cX9_recordChange 1 = .ok (.getfield 22, 3) := by decide +kernel
theorem dX9_recordChange_4 : decode cX9_recordChange 4 = .ok (.aload_n 0, 1) := by decide +kernel
theorem dX9_recordChange_5 : decode cX9_recordChange 5 = .ok (.getfield 12, 3) := by decide +kernel
theorem dX9_recordChange_8 : decode cX9_recordChange 8 = .ok (.invokevirtual 255, 3) := by decide +kernel
theorem dX9_recordChange_11 : decode cX9_recordChange 11 = .ok (.aload_n 0, 1) := by decide +kernel
theorem dX9_recordChange_12 : decode cX9_recordChange 12 = .ok (.invokevirtual 157, 3) := by decide +kernel
theorem dX9_recordChange_15 : decode cX9_recordChange 15 = .ok (.return_, 1) := by decide +kernel
theorem dX9_forgetAnswers_0 : decode cX9_forgetAnswers 0 = .ok (.aload_n 0, 1) := by decide +kernel
theorem dX9_forgetAnswers_1 : decode cX9_forgetAnswers 1 = .ok (.iconst 0, 1) := by decide +kernel
theorem dX9_forgetAnswers_2 : decode cX9_forgetAnswers 2 = .ok (.putfield 258, 3) := by decide +kernel
theorem dX9_forgetAnswers_5 : decode cX9_forgetAnswers 5 = .ok (.aload_n 0, 1) := by decide +kernel
theorem dX9_forgetAnswers_6 : decode cX9_forgetAnswers 6 = .ok (.getfield 67, 3) := by decide +kernel
theorem dX9_forgetAnswers_9 : decode cX9_forgetAnswers 9 = .ok (.invokevirtual 262, 3) := by decide +kernel
theorem dX9_forgetAnswers_12 : decode cX9_forgetAnswers 12 = .ok (.aload_n 0, 1) := by decide +kernel
theorem dX9_forgetAnswers_13 : decode cX9_forgetAnswers 13 = .ok (.getfield 89, 3) := by decide +kernel
theorem dX9_forgetAnswers_16 : decode cX9_forgetAnswers 16 = .ok (.iconst 0, 1) := by decide +kernel
theorem dX9_forgetAnswers_17 : decode cX9_forgetAnswers 17 = .ok (.putfield 265, 3) := by decide +kernel
theorem dX9_forgetAnswers_20 : decode cX9_forgetAnswers 20 = .ok (.return_, 1) := by decide +kernel
theorem dX9_makePlan_0 : decode cX9_makePlan 0 = .ok (.aload_n 0, 1) := by decide +kernel
theorem dX9_makePlan_1 : decode cX9_makePlan 1 = .ok (.getfield 258, 3) := by decide +kernel
theorem dX9_makePlan_4 : decode cX9_makePlan 4 = .ok (.ifCond .ne 28, 3) := by decide +kernel
theorem dX9_makePlan_7 : decode cX9_makePlan 7 = .ok (.aload_n 0, 1) := by decide +kernel
theorem dX9_makePlan_8 : decode cX9_makePlan 8 = .ok (.getfield 46, 3) := by decide +kernel
theorem dX9_makePlan_11 : decode cX9_makePlan 11 = .ok (.aload_n 0, 1) := by decide +kernel
theorem dX9_makePlan_12 : decode cX9_makePlan 12 = .ok (.getfield 12, 3) := by decide +kernel
theorem dX9_makePlan_15 : decode cX9_makePlan 15 = .ok (.invokevirtual 268, 3) := by decide +kernel
theorem dX9_makePlan_18 : decode cX9_makePlan 18 = .ok (.aload_n 0, 1) := by decide +kernel
theorem dX9_makePlan_19 : decode cX9_makePlan 19 = .ok (.getfield 55, 3) := by decide +kernel
theorem dX9_makePlan_22 : decode cX9_makePlan 22 = .ok (.bipush (-6), 2) := by decide +kernel
theorem dX9_makePlan_24 : decode cX9_makePlan 24 = .ok (.invokevirtual 271, 3) := by decide +kernel
theorem dX9_makePlan_27 : decode cX9_makePlan 27 = .ok (.aload_n 0, 1) := by decide +kernel
theorem dX9_makePlan_28 : decode cX9_makePlan 28 = .ok (.iconst 1, 1) := by decide +kernel
theorem dX9_makePlan_29 : decode cX9_makePlan 29 = .ok (.putfield 258, 3) := by decide +kernel
theorem dX9_makePlan_32 : decode cX9_makePlan 32 = .ok (.return_, 1) := by decide +kernel
theorem dX9_buildMachine_0 : decode cX9_buildMachine 0 = .ok (.aload_n 0, 1) := by decide +kernel
theorem dX9_buildMachine_1 : decode cX9_buildMachine 1 = .ok (.invokevirtual 211, 3) := by decide +kernel
theorem dX9_buildMachine_4 : decode cX9_buildMachine 4 = .ok (.aload_n 0, 1) := by decide +kernel
theorem dX9_buildMachine_5 : decode cX9_buildMachine 5 = .ok (.getfield 89, 3) := by decide +kernel
theorem dX9_buildMachine_8 : decode cX9_buildMachine 8 = .ok (.invokevirtual 274, 3) := by decide +kernel
theorem dX9_buildMachine_11 : decode cX9_buildMachine 11 = .ok (.return_, 1) := by decide +kernel
theorem dX9_costTo_0 : decode cX9_costTo 0 = .ok (.aload_n 0, 1) := by decide +kernel
theorem dX9_costTo_1 : decode cX9_costTo 1 = .ok (.invokevirtual 211, 3) := by decide +kernel
theorem dX9_costTo_4 : decode cX9_costTo 4 = .ok (.aload_n 0, 1) := by decide +kernel
theorem dX9_costTo_5 : decode cX9_costTo 5 = .ok (.getfield 67, 3) := by decide +kernel
theorem dX9_costTo_8 : decode cX9_costTo 8 = .ok (.iload_n 1, 1) := by decide +kernel
theorem dX9_costTo_9 : decode cX9_costTo 9 = .ok (.aload_n 0, 1) := by decide +kernel
theorem dX9_costTo_10 : decode cX9_costTo 10 = .ok (.getfield 36, 3) := by decide +kernel
theorem dX9_costTo_13 : decode cX9_costTo 13 = .ok (.invokevirtual 277, 3) := by decide +kernel
theorem dX9_costTo_16 : decode cX9_costTo 16 = .ok (.ifCond .ne 45, 3) := by decide +kernel
theorem dX9_costTo_19 : decode cX9_costTo 19 = .ok (.aload_n 0, 1) := by decide +kernel
theorem dX9_costTo_20 : decode cX9_costTo 20 = .ok (.getfield 67, 3) := by decide +kernel
theorem dX9_costTo_23 : decode cX9_costTo 23 = .ok (.iload_n 1, 1) := by decide +kernel
theorem dX9_costTo_24 : decode cX9_costTo 24 = .ok (.aload_n 0, 1) := by decide +kernel
theorem dX9_costTo_25 : decode cX9_costTo 25 = .ok (.getfield 36, 3) := by decide +kernel
theorem dX9_costTo_28 : decode cX9_costTo 28 = .ok (.invokevirtual 218, 3) := by decide +kernel
theorem dX9_costTo_31 : decode cX9_costTo 31 = .ok (.aload_n 0, 1) := by decide +kernel
theorem dX9_costTo_32 : decode cX9_costTo 32 = .ok (.getfield 67, 3) := by decide +kernel
theorem dX9_costTo_35 : decode cX9_costTo 35 = .ok (.aload_n 0, 1) := by decide +kernel
theorem dX9_costTo_36 : decode cX9_costTo 36 = .ok (.getfield 46, 3) := by decide +kernel
theorem dX9_costTo_39 : decode cX9_costTo 39 = .ok (.getfield 281, 3) := by decide +kernel
theorem dX9_costTo_42 : decode cX9_costTo 42 = .ok (.aload_n 0, 1) := by decide +kernel
theorem dX9_costTo_43 : decode cX9_costTo 43 = .ok (.getfield 46, 3) := by decide +kernel
theorem dX9_costTo_46 : decode cX9_costTo 46 = .ok (.getfield 282, 3) := by decide +kernel
theorem dX9_costTo_49 : decode cX9_costTo 49 = .ok (.invokevirtual 222, 3) := by decide +kernel
theorem dX9_costTo_52 : decode cX9_costTo 52 = .ok (.pop2, 1) := by decide +kernel
theorem dX9_costTo_53 : decode cX9_costTo 53 = .ok (.aload_n 0, 1) := by decide +kernel
theorem dX9_costTo_54 : decode cX9_costTo 54 = .ok (.getfield 80, 3) := by decide +kernel
theorem dX9_costTo_57 : decode cX9_costTo 57 = .ok (.iconst 0, 1) := by decide +kernel
theorem dX9_costTo_58 : decode cX9_costTo 58 = .ok (.putfield 285, 3) := by decide +kernel
theorem dX9_costTo_61 : decode cX9_costTo 61 = .ok (.aload_n 0, 1) := by decide +kernel
theorem dX9_costTo_62 : decode cX9_costTo 62 = .ok (.getfield 67, 3) := by decide +kernel
theorem dX9_costTo_65 : decode cX9_costTo 65 = .ok (.getfield 288, 3) := by decide +kernel
theorem dX9_costTo_68 : decode cX9_costTo 68 = .ok (.lreturn, 1) := by decide +kernel
theorem dX9_costWithout_0 : decode cX9_costWithout 0 = .ok (.aload_n 0, 1) := by decide +kernel
theorem dX9_costWithout_1 : decode cX9_costWithout 1 = .ok (.invokevirtual 211, 3) := by decide +kernel
theorem dX9_costWithout_4 : decode cX9_costWithout 4 = .ok (.aload_n 0, 1) := by decide +kernel
theorem dX9_costWithout_5 : decode cX9_costWithout 5 = .ok (.getfield 59, 3) := by decide +kernel
theorem dX9_costWithout_8 : decode cX9_costWithout 8 = .ok (.iload_n 1, 1) := by decide +kernel
theorem dX9_costWithout_9 : decode cX9_costWithout 9 = .ok (.invokevirtual 271, 3) := by decide +kernel
theorem dX9_costWithout_12 : decode cX9_costWithout 12 = .ok (.aload_n 0, 1) := by decide +kernel
theorem dX9_costWithout_13 : decode cX9_costWithout 13 = .ok (.getfield 74, 3) := by decide +kernel
theorem dX9_costWithout_16 : decode cX9_costWithout 16 = .ok (.iload_n 2, 1) := by decide +kernel
theorem dX9_costWithout_17 : decode cX9_costWithout 17 = .ok (.aload_n 0, 1) := by decide +kernel
theorem dX9_costWithout_18 : decode cX9_costWithout 18 = .ok (.getfield 36, 3) := by decide +kernel
theorem dX9_costWithout_21 : decode cX9_costWithout 21 = .ok (.invokevirtual 218, 3) := by decide +kernel
theorem dX9_costWithout_24 : decode cX9_costWithout 24 = .ok (.aload_n 0, 1) := by decide +kernel
theorem dX9_costWithout_25 : decode cX9_costWithout 25 = .ok (.getfield 74, 3) := by decide +kernel
theorem dX9_costWithout_28 : decode cX9_costWithout 28 = .ok (.aload_n 0, 1) := by decide +kernel
theorem dX9_costWithout_29 : decode cX9_costWithout 29 = .ok (.getfield 46, 3) := by decide +kernel
theorem dX9_costWithout_32 : decode cX9_costWithout 32 = .ok (.getfield 281, 3) := by decide +kernel
theorem dX9_costWithout_35 : decode cX9_costWithout 35 = .ok (.aload_n 0, 1) := by decide +kernel
theorem dX9_costWithout_36 : decode cX9_costWithout 36 = .ok (.getfield 46, 3) := by decide +kernel
theorem dX9_costWithout_39 : decode cX9_costWithout 39 = .ok (.getfield 282, 3) := by decide +kernel
theorem dX9_costWithout_42 : decode cX9_costWithout 42 = .ok (.invokevirtual 222, 3) := by decide +kernel
theorem dX9_costWithout_45 : decode cX9_costWithout 45 = .ok (.lreturn, 1) := by decide +kernel
theorem dX9_rulesOfWitness_0 : decode cX9_rulesOfWitness 0 = .ok (.aload_n 0, 1) := by decide +kernel
theorem dX9_rulesOfWitness_1 : decode cX9_rulesOfWitness 1 = .ok (.getfield 80, 3) := by decide +kernel
theorem dX9_rulesOfWitness_4 : decode cX9_rulesOfWitness 4 = .ok (.aload_n 0, 1) := by decide +kernel
theorem dX9_rulesOfWitness_5 : decode cX9_rulesOfWitness 5 = .ok (.getfield 67, 3) := by decide +kernel
theorem dX9_rulesOfWitness_8 : decode cX9_rulesOfWitness 8 = .ok (.aload_n 0, 1) := by decide +kernel
theorem dX9_rulesOfWitness_9 : decode cX9_rulesOfWitness 9 = .ok (.getfield 46, 3) := by decide +kernel
theorem dX9_rulesOfWitness_12 : decode cX9_rulesOfWitness 12 = .ok (.invokevirtual 186, 3) := by decide +kernel
theorem dX9_rulesOfWitness_15 : decode cX9_rulesOfWitness 15 = .ok (.aload_n 0, 1) := by decide +kernel
theorem dX9_rulesOfWitness_16 : decode cX9_rulesOfWitness 16 = .ok (.getfield 80, 3) := by decide +kernel
theorem dX9_rulesOfWitness_19 : decode cX9_rulesOfWitness 19 = .ok (.getfield 292, 3) := by decide +kernel
theorem dX9_rulesOfWitness_22 : decode cX9_rulesOfWitness 22 = .ok (.ifCond .eq 13, 3) := by decide +kernel
theorem dX9_rulesOfWitness_25 : decode cX9_rulesOfWitness 25 = .ok (.aload_n 0, 1) := by decide +kernel
theorem dX9_rulesOfWitness_26 : decode cX9_rulesOfWitness 26 = .ok (.getfield 80, 3) := by decide +kernel
theorem dX9_rulesOfWitness_29 : decode cX9_rulesOfWitness 29 = .ok (.getfield 295, 3) := by decide +kernel
theorem dX9_rulesOfWitness_32 : decode cX9_rulesOfWitness 32 = .ok (.goto 14, 3) := by decide +kernel
theorem dX9_rulesOfWitness_35 : decode cX9_rulesOfWitness 35 = .ok (.iconst 1, 1) := by decide +kernel
theorem dX9_rulesOfWitness_36 : decode cX9_rulesOfWitness 36 = .ok (.aload_n 0, 1) := by decide +kernel
theorem dX9_rulesOfWitness_37 : decode cX9_rulesOfWitness 37 = .ok (.getfield 12, 3) := by decide +kernel
theorem dX9_rulesOfWitness_40 : decode cX9_rulesOfWitness 40 = .ok (.getfield 93, 3) := by decide +kernel
theorem dX9_rulesOfWitness_43 : decode cX9_rulesOfWitness 43 = .ok (.ishl, 1) := by decide +kernel
theorem dX9_rulesOfWitness_44 : decode cX9_rulesOfWitness 44 = .ok (.iconst 1, 1) := by decide +kernel
theorem dX9_rulesOfWitness_45 : decode cX9_rulesOfWitness 45 = .ok (.isub, 1) := by decide +kernel
theorem dX9_rulesOfWitness_46 : decode cX9_rulesOfWitness 46 = .ok (.ireturn, 1) := by decide +kernel
theorem dX9_readText_0 : decode cX9_readText 0 = .ok (.aload_n 0, 1) := by decide +kernel
theorem dX9_readText_1 : decode cX9_readText 1 = .ok (.getfield 16, 3) := by decide +kernel
theorem dX9_readText_4 : decode cX9_readText 4 = .ok (.aload_n 0, 1) := by decide +kernel
theorem dX9_readText_5 : decode cX9_readText 5 = .ok (.getfield 12, 3) := by decide +kernel
theorem dX9_readText_8 : decode cX9_readText 8 = .ok (.invokevirtual 248, 3) := by decide +kernel
theorem dX9_readText_11 : decode cX9_readText 11 = .ok (.aload_n 0, 1) := by decide +kernel
theorem dX9_readText_12 : decode cX9_readText 12 = .ok (.getfield 29, 3) := by decide +kernel
theorem dX9_readText_15 : decode cX9_readText 15 = .ok (.aload_n 0, 1) := by decide +kernel
theorem dX9_readText_16 : decode cX9_readText 16 = .ok (.getfield 16, 3) := by decide +kernel
theorem dX9_readText_19 : decode cX9_readText 19 = .ok (.invokevirtual 298, 3) := by decide +kernel
theorem dX9_readText_22 : decode cX9_readText 22 = .ok (.ireturn, 1) := by decide +kernel
theorem dX9_headOf_0 : decode cX9_headOf 0 = .ok (.iload_n 0, 1) := by decide +kernel
theorem dX9_headOf_1 : decode cX9_headOf 1 = .ok (.iconst 5, 1) := by decide +kernel
theorem dX9_headOf_2 : decode cX9_headOf 2 = .ok (.imul, 1) := by decide +kernel
theorem dX9_headOf_3 : decode cX9_headOf 3 = .ok (.iload_n 1, 1) := by decide +kernel
theorem dX9_headOf_4 : decode cX9_headOf 4 = .ok (.iadd, 1) := by decide +kernel
theorem dX9_headOf_5 : decode cX9_headOf 5 = .ok (.iconst 1, 1) := by decide +kernel
theorem dX9_headOf_6 : decode cX9_headOf 6 = .ok (.isub, 1) := by decide +kernel
theorem dX9_headOf_7 : decode cX9_headOf 7 = .ok (.ireturn, 1) := by decide +kernel
theorem dX9_weightOf_0 : decode cX9_weightOf 0 = .ok (.lload_n 0, 1) := by decide +kernel
theorem dX9_weightOf_1 : decode cX9_weightOf 1 = .ok (.bipush 24, 2) := by decide +kernel
theorem dX9_weightOf_3 : decode cX9_weightOf 3 = .ok (.lshr, 1) := by decide +kernel
theorem dX9_weightOf_4 : decode cX9_weightOf 4 = .ok (.l2i, 1) := by decide +kernel
theorem dX9_weightOf_5 : decode cX9_weightOf 5 = .ok (.ireturn, 1) := by decide +kernel
theorem dX9_countOf_0 : decode cX9_countOf 0 = .ok (.lload_n 0, 1) := by decide +kernel
theorem dX9_countOf_1 : decode cX9_countOf 1 = .ok (.ldc2_w 302, 3) := by decide +kernel
theorem dX9_countOf_4 : decode cX9_countOf 4 = .ok (.land, 1) := by decide +kernel
theorem dX9_countOf_5 : decode cX9_countOf 5 = .ok (.l2i, 1) := by decide +kernel
theorem dX9_countOf_6 : decode cX9_countOf 6 = .ok (.ireturn, 1) := by decide +kernel
theorem dX9_costOfWeight_0 : decode cX9_costOfWeight 0 = .ok (.iload_n 0, 1) := by decide +kernel
theorem dX9_costOfWeight_1 : decode cX9_costOfWeight 1 = .ok (.i2l, 1) := by decide +kernel
theorem dX9_costOfWeight_2 : decode cX9_costOfWeight 2 = .ok (.bipush 24, 2) := by decide +kernel
theorem dX9_costOfWeight_4 : decode cX9_costOfWeight 4 = .ok (.lshl, 1) := by decide +kernel
theorem dX9_costOfWeight_5 : decode cX9_costOfWeight 5 = .ok (.lreturn, 1) := by decide +kernel
theorem dX9_weightOrNone_0 : decode cX9_weightOrNone 0 = .ok (.lload_n 0, 1) := by decide +kernel
theorem dX9_weightOrNone_1 : decode cX9_weightOrNone 1 = .ok (.ldc2_w 181, 3) := by decide +kernel
theorem dX9_weightOrNone_4 : decode cX9_weightOrNone 4 = .ok (.lcmp, 1) := by decide +kernel
theorem dX9_weightOrNone_5 : decode cX9_weightOrNone 5 = .ok (.ifCond .lt 8, 3) := by decide +kernel
theorem dX9_weightOrNone_8 : decode cX9_weightOrNone 8 = .ok (.bipush (-6), 2) := by decide +kernel
theorem dX9_weightOrNone_10 : decode cX9_weightOrNone 10 = .ok (.goto 7, 3) := by decide +kernel
theorem dX9_weightOrNone_13 : decode cX9_weightOrNone 13 = .ok (.lload_n 0, 1) := by decide +kernel
theorem dX9_weightOrNone_14 : decode cX9_weightOrNone 14 = .ok (.invokestatic 196, 3) := by decide +kernel
theorem dX9_weightOrNone_17 : decode cX9_weightOrNone 17 = .ok (.ireturn, 1) := by decide +kernel
theorem dX9_lower_0 : decode cX9_lower 0 = .ok (.lload_n 2, 1) := by decide +kernel
theorem dX9_lower_1 : decode cX9_lower 1 = .ok (.aload_n 0, 1) := by decide +kernel
theorem dX9_lower_2 : decode cX9_lower 2 = .ok (.iload_n 1, 1) := by decide +kernel
theorem dX9_lower_3 : decode cX9_lower 3 = .ok (.laload, 1) := by decide +kernel
theorem dX9_lower_4 : decode cX9_lower 4 = .ok (.lcmp, 1) := by decide +kernel
theorem dX9_lower_5 : decode cX9_lower 5 = .ok (.ifCond .lt 5, 3) := by decide +kernel
theorem dX9_lower_8 : decode cX9_lower 8 = .ok (.iconst 0, 1) := by decide +kernel
theorem dX9_lower_9 : decode cX9_lower 9 = .ok (.ireturn, 1) := by decide +kernel
theorem dX9_lower_10 : decode cX9_lower 10 = .ok (.aload_n 0, 1) := by decide +kernel
theorem dX9_lower_11 : decode cX9_lower 11 = .ok (.iload_n 1, 1) := by decide +kernel
theorem dX9_lower_12 : decode cX9_lower 12 = .ok (.lload_n 2, 1) := by decide +kernel
theorem dX9_lower_13 : decode cX9_lower 13 = .ok (.lastore, 1) := by decide +kernel
theorem dX9_lower_14 : decode cX9_lower 14 = .ok (.iconst 1, 1) := by decide +kernel
theorem dX9_lower_15 : decode cX9_lower 15 = .ok (.ireturn, 1) := by decide +kernel
theorem dX9_digitsOf_0 : decode cX9_digitsOf 0 = .ok (.iconst 0, 1) := by decide +kernel
theorem dX9_digitsOf_1 : decode cX9_digitsOf 1 = .ok (.istore_n 1, 1) := by decide +kernel
theorem dX9_digitsOf_2 : decode cX9_digitsOf 2 = .ok (.iload_n 0, 1) := by decide +kernel
theorem dX9_digitsOf_3 : decode cX9_digitsOf 3 = .ok (.istore_n 2, 1) := by decide +kernel
theorem dX9_digitsOf_4 : decode cX9_digitsOf 4 = .ok (.iconst 0, 1) := by decide +kernel
theorem dX9_digitsOf_5 : decode cX9_digitsOf 5 = .ok (.istore_n 3, 1) := by decide +kernel
theorem dX9_digitsOf_6 : decode cX9_digitsOf 6 = .ok (.iload_n 3, 1) := by decide +kernel
theorem dX9_digitsOf_7 : decode cX9_digitsOf 7 = .ok (.bipush 10, 2) := by decide +kernel
theorem dX9_digitsOf_9 : decode cX9_digitsOf 9 = .ok (.if_icmp .ge 21, 3) := by decide +kernel
theorem dX9_digitsOf_12 : decode cX9_digitsOf 12 = .ok (.iload_n 2, 1) := by decide +kernel
theorem dX9_digitsOf_13 : decode cX9_digitsOf 13 = .ok (.ifCond .le 17, 3) := by decide +kernel
theorem dX9_digitsOf_16 : decode cX9_digitsOf 16 = .ok (.iload_n 2, 1) := by decide +kernel
theorem dX9_digitsOf_17 : decode cX9_digitsOf 17 = .ok (.bipush 10, 2) := by decide +kernel
theorem dX9_digitsOf_19 : decode cX9_digitsOf 19 = .ok (.idiv, 1) := by decide +kernel
theorem dX9_digitsOf_20 : decode cX9_digitsOf 20 = .ok (.istore_n 2, 1) := by decide +kernel
theorem dX9_digitsOf_21 : decode cX9_digitsOf 21 = .ok (.iinc 1 1, 3) := by decide +kernel
theorem dX9_digitsOf_24 : decode cX9_digitsOf 24 = .ok (.iinc 3 1, 3) := by decide +kernel
theorem dX9_digitsOf_27 : decode cX9_digitsOf 27 = .ok (.goto (-21), 3) := by decide +kernel
theorem dX9_digitsOf_30 : decode cX9_digitsOf 30 = .ok (.iload_n 1, 1) := by decide +kernel
theorem dX9_digitsOf_31 : decode cX9_digitsOf 31 = .ok (.ireturn, 1) := by decide +kernel
theorem dX9_sourceOf_0 : decode cX9_sourceOf 0 = .ok (.iload_n 0, 1) := by decide +kernel
theorem dX9_sourceOf_1 : decode cX9_sourceOf 1 = .ok (.ifCond .lt 10, 3) := by decide +kernel
theorem dX9_sourceOf_4 : decode cX9_sourceOf 4 = .ok (.iload_n 0, 1) := by decide +kernel
theorem dX9_sourceOf_5 : decode cX9_sourceOf 5 = .ok (.iconst 4, 1) := by decide +kernel
theorem dX9_sourceOf_6 : decode cX9_sourceOf 6 = .ok (.if_icmp .ge 5, 3) := by decide +kernel
theorem dX9_sourceOf_9 : decode cX9_sourceOf 9 = .ok (.iload_n 0, 1) := by decide +kernel
theorem dX9_sourceOf_10 : decode cX9_sourceOf 10 = .ok (.ireturn, 1) := by decide +kernel
theorem dX9_sourceOf_11 : decode cX9_sourceOf 11 = .ok (.iload_n 0, 1) := by decide +kernel
theorem dX9_sourceOf_12 : decode cX9_sourceOf 12 = .ok (.bipush 10, 2) := by decide +kernel
theorem dX9_sourceOf_14 : decode cX9_sourceOf 14 = .ok (.if_icmp .lt 16, 3) := by decide +kernel
theorem dX9_sourceOf_17 : decode cX9_sourceOf 17 = .ok (.iload_n 0, 1) := by decide +kernel
theorem dX9_sourceOf_18 : decode cX9_sourceOf 18 = .ok (.bipush 30, 2) := by decide +kernel
theorem dX9_sourceOf_20 : decode cX9_sourceOf 20 = .ok (.if_icmp .ge 10, 3) := by decide +kernel
theorem dX9_sourceOf_23 : decode cX9_sourceOf 23 = .ok (.iload_n 0, 1) := by decide +kernel
theorem dX9_sourceOf_24 : decode cX9_sourceOf 24 = .ok (.bipush 10, 2) := by decide +kernel
theorem dX9_sourceOf_26 : decode cX9_sourceOf 26 = .ok (.isub, 1) := by decide +kernel
theorem dX9_sourceOf_27 : decode cX9_sourceOf 27 = .ok (.iconst 4, 1) := by decide +kernel
theorem dX9_sourceOf_28 : decode cX9_sourceOf 28 = .ok (.iadd, 1) := by decide +kernel
theorem dX9_sourceOf_29 : decode cX9_sourceOf 29 = .ok (.ireturn, 1) := by decide +kernel
theorem dX9_sourceOf_30 : decode cX9_sourceOf 30 = .ok (.iload_n 0, 1) := by decide +kernel
theorem dX9_sourceOf_31 : decode cX9_sourceOf 31 = .ok (.bipush 31, 2) := by decide +kernel
theorem dX9_sourceOf_33 : decode cX9_sourceOf 33 = .ok (.if_icmp .lt 19, 3) := by decide +kernel
theorem dX9_sourceOf_36 : decode cX9_sourceOf 36 = .ok (.iload_n 0, 1) := by decide +kernel
theorem dX9_sourceOf_37 : decode cX9_sourceOf 37 = .ok (.bipush 35, 2) := by decide +kernel
theorem dX9_sourceOf_39 : decode cX9_sourceOf 39 = .ok (.if_icmp .ge 13, 3) := by decide +kernel
theorem dX9_sourceOf_42 : decode cX9_sourceOf 42 = .ok (.iload_n 0, 1) := by decide +kernel
theorem dX9_sourceOf_43 : decode cX9_sourceOf 43 = .ok (.bipush 31, 2) := by decide +kernel
theorem dX9_sourceOf_45 : decode cX9_sourceOf 45 = .ok (.isub, 1) := by decide +kernel
theorem dX9_sourceOf_46 : decode cX9_sourceOf 46 = .ok (.iconst 4, 1) := by decide +kernel
theorem dX9_sourceOf_47 : decode cX9_sourceOf 47 = .ok (.iadd, 1) := by decide +kernel
theorem dX9_sourceOf_48 : decode cX9_sourceOf 48 = .ok (.bipush 20, 2) := by decide +kernel
theorem dX9_sourceOf_50 : decode cX9_sourceOf 50 = .ok (.iadd, 1) := by decide +kernel
theorem dX9_sourceOf_51 : decode cX9_sourceOf 51 = .ok (.ireturn, 1) := by decide +kernel
theorem dX9_sourceOf_52 : decode cX9_sourceOf 52 = .ok (.iconst (-1), 1) := by decide +kernel
theorem dX9_sourceOf_53 : decode cX9_sourceOf 53 = .ok (.ireturn, 1) := by decide +kernel
theorem dX9_nodeOf_0 : decode cX9_nodeOf 0 = .ok (.iload_n 0, 1) := by decide +kernel
theorem dX9_nodeOf_1 : decode cX9_nodeOf 1 = .ok (.iconst 4, 1) := by decide +kernel
theorem dX9_nodeOf_2 : decode cX9_nodeOf 2 = .ok (.if_icmp .ge 5, 3) := by decide +kernel
theorem dX9_nodeOf_5 : decode cX9_nodeOf 5 = .ok (.iload_n 0, 1) := by decide +kernel
theorem dX9_nodeOf_6 : decode cX9_nodeOf 6 = .ok (.ireturn, 1) := by decide +kernel
theorem dX9_nodeOf_7 : decode cX9_nodeOf 7 = .ok (.iload_n 0, 1) := by decide +kernel
theorem dX9_nodeOf_8 : decode cX9_nodeOf 8 = .ok (.iconst 4, 1) := by decide +kernel
theorem dX9_nodeOf_9 : decode cX9_nodeOf 9 = .ok (.isub, 1) := by decide +kernel
theorem dX9_nodeOf_10 : decode cX9_nodeOf 10 = .ok (.istore_n 1, 1) := by decide +kernel
theorem dX9_nodeOf_11 : decode cX9_nodeOf 11 = .ok (.iload_n 1, 1) := by decide +kernel
theorem dX9_nodeOf_12 : decode cX9_nodeOf 12 = .ok (.bipush 20, 2) := by decide +kernel
theorem dX9_nodeOf_14 : decode cX9_nodeOf 14 = .ok (.if_icmp .ge 10, 3) := by decide +kernel
theorem dX9_nodeOf_17 : decode cX9_nodeOf 17 = .ok (.bipush 10, 2) := by decide +kernel
theorem dX9_nodeOf_19 : decode cX9_nodeOf 19 = .ok (.iload_n 1, 1) := by decide +kernel
theorem dX9_nodeOf_20 : decode cX9_nodeOf 20 = .ok (.iadd, 1) := by decide +kernel
theorem dX9_nodeOf_21 : decode cX9_nodeOf 21 = .ok (.goto 10, 3) := by decide +kernel
theorem dX9_nodeOf_24 : decode cX9_nodeOf 24 = .ok (.bipush 31, 2) := by decide +kernel
theorem dX9_nodeOf_26 : decode cX9_nodeOf 26 = .ok (.iload_n 1, 1) := by decide +kernel
theorem dX9_nodeOf_27 : decode cX9_nodeOf 27 = .ok (.iadd, 1) := by decide +kernel
theorem dX9_nodeOf_28 : decode cX9_nodeOf 28 = .ok (.bipush 20, 2) := by decide +kernel
theorem dX9_nodeOf_30 : decode cX9_nodeOf 30 = .ok (.isub, 1) := by decide +kernel
theorem dX9_nodeOf_31 : decode cX9_nodeOf 31 = .ok (.ireturn, 1) := by decide +kernel
theorem dL_law_0 : decode cL_law 0 = .ok (.new 7, 3) := by decide +kernel
theorem dL_law_3 : decode cL_law 3 = .ok (.dup, 1) := by decide +kernel
theorem dL_law_4 : decode cL_law 4 = .ok (.invokespecial 9, 3) := by decide +kernel
theorem dL_law_7 : decode cL_law 7 = .ok (.astore_n 1, 1) := by decide +kernel
theorem dL_law_8 : decode cL_law 8 = .ok (.new 10, 3) := by decide +kernel
theorem dL_law_11 : decode cL_law 11 = .ok (.dup, 1) := by decide +kernel
theorem dL_law_12 : decode cL_law 12 = .ok (.invokespecial 12, 3) := by decide +kernel
theorem dL_law_15 : decode cL_law 15 = .ok (.astore_n 2, 1) := by decide +kernel
theorem dL_law_16 : decode cL_law 16 = .ok (.iconst 0, 1) := by decide +kernel
theorem dL_law_17 : decode cL_law 17 = .ok (.istore_n 3, 1) := by decide +kernel
theorem dL_law_18 : decode cL_law 18 = .ok (.iload_n 3, 1) := by decide +kernel
theorem dL_law_19 : decode cL_law 19 = .ok (.aload_n 0, 1) := by decide +kernel
theorem dL_law_20 : decode cL_law 20 = .ok (.arraylength, 1) := by decide +kernel
theorem dL_law_21 : decode cL_law 21 = .ok (.bipush 6, 2) := by decide +kernel
theorem dL_law_23 : decode cL_law 23 = .ok (.isub, 1) := by decide +kernel
theorem dL_law_24 : decode cL_law 24 = .ok (.if_icmp .gt 1009, 3) := by decide +kernel
theorem dL_law_27 : decode cL_law 27 = .ok (.aload_n 0, 1) := by decide +kernel
theorem dL_law_28 : decode cL_law 28 = .ok (.iload_n 3, 1) := by decide +kernel
theorem dL_law_29 : decode cL_law 29 = .ok (.iaload, 1) := by decide +kernel
theorem dL_law_30 : decode cL_law 30 = .ok (.bipush 31, 2) := by decide +kernel
theorem dL_law_32 : decode cL_law 32 = .ok (.iand, 1) := by decide +kernel
theorem dL_law_33 : decode cL_law 33 = .ok (.tableswitch 994 0 26 #[123, 156, 219, 242, 275, 308, 321, 344, 377, 410, 443, 496, 559, 592, 625, 638, 681, 724, 737, 770, 813, 856, 889, 932, 955, 968, 981], 123) := by decide +kernel
theorem dL_law_156 : decode cL_law 156 = .ok (.aload_n 1, 1) := by decide +kernel
theorem dL_law_157 : decode cL_law 157 = .ok (.aload_n 0, 1) := by decide +kernel
theorem dL_law_158 : decode cL_law 158 = .ok (.iload_n 3, 1) := by decide +kernel
theorem dL_law_159 : decode cL_law 159 = .ok (.iconst 1, 1) := by decide +kernel
theorem dL_law_160 : decode cL_law 160 = .ok (.iadd, 1) := by decide +kernel
theorem dL_law_161 : decode cL_law 161 = .ok (.iaload, 1) := by decide +kernel
theorem dL_law_162 : decode cL_law 162 = .ok (.aload_n 0, 1) := by decide +kernel
theorem dL_law_163 : decode cL_law 163 = .ok (.iload_n 3, 1) := by decide +kernel
theorem dL_law_164 : decode cL_law 164 = .ok (.iconst 2, 1) := by decide +kernel
theorem dL_law_165 : decode cL_law 165 = .ok (.iadd, 1) := by decide +kernel
theorem dL_law_166 : decode cL_law 166 = .ok (.iaload, 1) := by decide +kernel
theorem dL_law_167 : decode cL_law 167 = .ok (.invokevirtual 13, 3) := by decide +kernel
theorem dL_law_170 : decode cL_law 170 = .ok (.aload_n 2, 1) := by decide +kernel
theorem dL_law_171 : decode cL_law 171 = .ok (.aload_n 0, 1) := by decide +kernel
theorem dL_law_172 : decode cL_law 172 = .ok (.iload_n 3, 1) := by decide +kernel
theorem dL_law_173 : decode cL_law 173 = .ok (.iconst 1, 1) := by decide +kernel
theorem dL_law_174 : decode cL_law 174 = .ok (.iadd, 1) := by decide +kernel
theorem dL_law_175 : decode cL_law 175 = .ok (.iaload, 1) := by decide +kernel
theorem dL_law_176 : decode cL_law 176 = .ok (.aload_n 0, 1) := by decide +kernel
theorem dL_law_177 : decode cL_law 177 = .ok (.iload_n 3, 1) := by decide +kernel
theorem dL_law_178 : decode cL_law 178 = .ok (.iconst 2, 1) := by decide +kernel
theorem dL_law_179 : decode cL_law 179 = .ok (.iadd, 1) := by decide +kernel
theorem dL_law_180 : decode cL_law 180 = .ok (.iaload, 1) := by decide +kernel
theorem dL_law_181 : decode cL_law 181 = .ok (.invokevirtual 17, 3) := by decide +kernel
theorem dL_law_184 : decode cL_law 184 = .ok (.if_icmp .eq 843, 3) := by decide +kernel
theorem dL_law_187 : decode cL_law 187 = .ok (.iconst 0, 1) := by decide +kernel
theorem dL_law_188 : decode cL_law 188 = .ok (.ireturn, 1) := by decide +kernel
theorem dL_law_189 : decode cL_law 189 = .ok (.aload_n 1, 1) := by decide +kernel
theorem dL_law_190 : decode cL_law 190 = .ok (.aload_n 0, 1) := by decide +kernel
theorem dL_law_191 : decode cL_law 191 = .ok (.iload_n 3, 1) := by decide +kernel
theorem dL_law_192 : decode cL_law 192 = .ok (.iconst 1, 1) := by decide +kernel
theorem dL_law_193 : decode cL_law 193 = .ok (.iadd, 1) := by decide +kernel
theorem dL_law_194 : decode cL_law 194 = .ok (.iaload, 1) := by decide +kernel
theorem dL_law_195 : decode cL_law 195 = .ok (.aload_n 0, 1) := by decide +kernel
theorem dL_law_196 : decode cL_law 196 = .ok (.iload_n 3, 1) := by decide +kernel
theorem dL_law_197 : decode cL_law 197 = .ok (.iconst 2, 1) := by decide +kernel
theorem dL_law_198 : decode cL_law 198 = .ok (.iadd, 1) := by decide +kernel
theorem dL_law_199 : decode cL_law 199 = .ok (.iaload, 1) := by decide +kernel
theorem dL_law_200 : decode cL_law 200 = .ok (.aload_n 0, 1) := by decide +kernel
theorem dL_law_201 : decode cL_law 201 = .ok (.iload_n 3, 1) := by decide +kernel
theorem dL_law_202 : decode cL_law 202 = .ok (.iconst 3, 1) := by decide +kernel
theorem dL_law_203 : decode cL_law 203 = .ok (.iadd, 1) := by decide +kernel
theorem dL_law_204 : decode cL_law 204 = .ok (.iaload, 1) := by decide +kernel
theorem dL_law_205 : decode cL_law 205 = .ok (.aload_n 0, 1) := by decide +kernel
theorem dL_law_206 : decode cL_law 206 = .ok (.iload_n 3, 1) := by decide +kernel
theorem dL_law_207 : decode cL_law 207 = .ok (.iconst 4, 1) := by decide +kernel
theorem dL_law_208 : decode cL_law 208 = .ok (.iadd, 1) := by decide +kernel
theorem dL_law_209 : decode cL_law 209 = .ok (.iaload, 1) := by decide +kernel
theorem dL_law_210 : decode cL_law 210 = .ok (.aload_n 0, 1) := by decide +kernel
theorem dL_law_211 : decode cL_law 211 = .ok (.iload_n 3, 1) := by decide +kernel
theorem dL_law_212 : decode cL_law 212 = .ok (.iconst 5, 1) := by decide +kernel
theorem dL_law_213 : decode cL_law 213 = .ok (.iadd, 1) := by decide +kernel
theorem dL_law_214 : decode cL_law 214 = .ok (.iaload, 1) := by decide +kernel
theorem dL_law_215 : decode cL_law 215 = .ok (.invokevirtual 18, 3) := by decide +kernel
theorem dL_law_218 : decode cL_law 218 = .ok (.aload_n 2, 1) := by decide +kernel
theorem dL_law_219 : decode cL_law 219 = .ok (.aload_n 0, 1) := by decide +kernel
theorem dL_law_220 : decode cL_law 220 = .ok (.iload_n 3, 1) := by decide +kernel
theorem dL_law_221 : decode cL_law 221 = .ok (.iconst 1, 1) := by decide +kernel
theorem dL_law_222 : decode cL_law 222 = .ok (.iadd, 1) := by decide +kernel
theorem dL_law_223 : decode cL_law 223 = .ok (.iaload, 1) := by decide +kernel
theorem dL_law_224 : decode cL_law 224 = .ok (.aload_n 0, 1) := by decide +kernel
theorem dL_law_225 : decode cL_law 225 = .ok (.iload_n 3, 1) := by decide +kernel
theorem dL_law_226 : decode cL_law 226 = .ok (.iconst 2, 1) := by decide +kernel
theorem dL_law_227 : decode cL_law 227 = .ok (.iadd, 1) := by decide +kernel
theorem dL_law_228 : decode cL_law 228 = .ok (.iaload, 1) := by decide +kernel
theorem dL_law_229 : decode cL_law 229 = .ok (.aload_n 0, 1) := by decide +kernel
theorem dL_law_230 : decode cL_law 230 = .ok (.iload_n 3, 1) := by decide +kernel
theorem dL_law_231 : decode cL_law 231 = .ok (.iconst 3, 1) := by decide +kernel
theorem dL_law_232 : decode cL_law 232 = .ok (.iadd, 1) := by decide +kernel
theorem dL_law_233 : decode cL_law 233 = .ok (.iaload, 1) := by decide +kernel
theorem dL_law_234 : decode cL_law 234 = .ok (.aload_n 0, 1) := by decide +kernel
theorem dL_law_235 : decode cL_law 235 = .ok (.iload_n 3, 1) := by decide +kernel
theorem dL_law_236 : decode cL_law 236 = .ok (.iconst 4, 1) := by decide +kernel
theorem dL_law_237 : decode cL_law 237 = .ok (.iadd, 1) := by decide +kernel
theorem dL_law_238 : decode cL_law 238 = .ok (.iaload, 1) := by decide +kernel
theorem dL_law_239 : decode cL_law 239 = .ok (.aload_n 0, 1) := by decide +kernel
theorem dL_law_240 : decode cL_law 240 = .ok (.iload_n 3, 1) := by decide +kernel
theorem dL_law_241 : decode cL_law 241 = .ok (.iconst 5, 1) := by decide +kernel
theorem dL_law_242 : decode cL_law 242 = .ok (.iadd, 1) := by decide +kernel
theorem dL_law_243 : decode cL_law 243 = .ok (.iaload, 1) := by decide +kernel
theorem dL_law_244 : decode cL_law 244 = .ok (.invokevirtual 22, 3) := by decide +kernel
theorem dL_law_247 : decode cL_law 247 = .ok (.if_icmp .eq 780, 3) := by decide +kernel
theorem dL_law_250 : decode cL_law 250 = .ok (.iconst 0, 1) := by decide +kernel
theorem dL_law_251 : decode cL_law 251 = .ok (.ireturn, 1) := by decide +kernel
theorem dL_law_252 : decode cL_law 252 = .ok (.aload_n 1, 1) := by decide +kernel
theorem dL_law_253 : decode cL_law 253 = .ok (.aload_n 0, 1) := by decide +kernel
theorem dL_law_254 : decode cL_law 254 = .ok (.iload_n 3, 1) := by decide +kernel
theorem dL_law_255 : decode cL_law 255 = .ok (.iconst 1, 1) := by decide +kernel
theorem dL_law_256 : decode cL_law 256 = .ok (.iadd, 1) := by decide +kernel
theorem dL_law_257 : decode cL_law 257 = .ok (.iaload, 1) := by decide +kernel
theorem dL_law_258 : decode cL_law 258 = .ok (.invokevirtual 23, 3) := by decide +kernel
theorem dL_law_261 : decode cL_law 261 = .ok (.aload_n 2, 1) := by decide +kernel
theorem dL_law_262 : decode cL_law 262 = .ok (.aload_n 0, 1) := by decide +kernel
theorem dL_law_263 : decode cL_law 263 = .ok (.iload_n 3, 1) := by decide +kernel
theorem dL_law_264 : decode cL_law 264 = .ok (.iconst 1, 1) := by decide +kernel
theorem dL_law_265 : decode cL_law 265 = .ok (.iadd, 1) := by decide +kernel
theorem dL_law_266 : decode cL_law 266 = .ok (.iaload, 1) := by decide +kernel
theorem dL_law_267 : decode cL_law 267 = .ok (.invokevirtual 27, 3) := by decide +kernel
theorem dL_law_270 : decode cL_law 270 = .ok (.if_icmp .eq 757, 3) := by decide +kernel
theorem dL_law_273 : decode cL_law 273 = .ok (.iconst 0, 1) := by decide +kernel
theorem dL_law_274 : decode cL_law 274 = .ok (.ireturn, 1) := by decide +kernel
theorem dL_law_275 : decode cL_law 275 = .ok (.aload_n 1, 1) := by decide +kernel
theorem dL_law_276 : decode cL_law 276 = .ok (.aload_n 0, 1) := by decide +kernel
theorem dL_law_277 : decode cL_law 277 = .ok (.iload_n 3, 1) := by decide +kernel
theorem dL_law_278 : decode cL_law 278 = .ok (.iconst 1, 1) := by decide +kernel
theorem dL_law_279 : decode cL_law 279 = .ok (.iadd, 1) := by decide +kernel
theorem dL_law_280 : decode cL_law 280 = .ok (.iaload, 1) := by decide +kernel
theorem dL_law_281 : decode cL_law 281 = .ok (.aload_n 0, 1) := by decide +kernel
theorem dL_law_282 : decode cL_law 282 = .ok (.iload_n 3, 1) := by decide +kernel
theorem dL_law_283 : decode cL_law 283 = .ok (.iconst 2, 1) := by decide +kernel
theorem dL_law_284 : decode cL_law 284 = .ok (.iadd, 1) := by decide +kernel
theorem dL_law_285 : decode cL_law 285 = .ok (.iaload, 1) := by decide +kernel
theorem dL_law_286 : decode cL_law 286 = .ok (.invokevirtual 28, 3) := by decide +kernel
theorem dL_law_289 : decode cL_law 289 = .ok (.aload_n 2, 1) := by decide +kernel
theorem dL_law_290 : decode cL_law 290 = .ok (.aload_n 0, 1) := by decide +kernel
theorem dL_law_291 : decode cL_law 291 = .ok (.iload_n 3, 1) := by decide +kernel
theorem dL_law_292 : decode cL_law 292 = .ok (.iconst 1, 1) := by decide +kernel
theorem dL_law_293 : decode cL_law 293 = .ok (.iadd, 1) := by decide +kernel
theorem dL_law_294 : decode cL_law 294 = .ok (.iaload, 1) := by decide +kernel
theorem dL_law_295 : decode cL_law 295 = .ok (.aload_n 0, 1) := by decide +kernel
theorem dL_law_296 : decode cL_law 296 = .ok (.iload_n 3, 1) := by decide +kernel
theorem dL_law_297 : decode cL_law 297 = .ok (.iconst 2, 1) := by decide +kernel
theorem dL_law_298 : decode cL_law 298 = .ok (.iadd, 1) := by decide +kernel
theorem dL_law_299 : decode cL_law 299 = .ok (.iaload, 1) := by decide +kernel
theorem dL_law_300 : decode cL_law 300 = .ok (.invokevirtual 31, 3) := by decide +kernel
theorem dL_law_303 : decode cL_law 303 = .ok (.if_icmp .eq 724, 3) := by decide +kernel
theorem dL_law_306 : decode cL_law 306 = .ok (.iconst 0, 1) := by decide +kernel
theorem dL_law_307 : decode cL_law 307 = .ok (.ireturn, 1) := by decide +kernel
theorem dL_law_308 : decode cL_law 308 = .ok (.aload_n 1, 1) := by decide +kernel
theorem dL_law_309 : decode cL_law 309 = .ok (.aload_n 0, 1) := by decide +kernel
theorem dL_law_310 : decode cL_law 310 = .ok (.iload_n 3, 1) := by decide +kernel
theorem dL_law_311 : decode cL_law 311 = .ok (.iconst 1, 1) := by decide +kernel
theorem dL_law_312 : decode cL_law 312 = .ok (.iadd, 1) := by decide +kernel
theorem dL_law_313 : decode cL_law 313 = .ok (.iaload, 1) := by decide +kernel
theorem dL_law_314 : decode cL_law 314 = .ok (.aload_n 0, 1) := by decide +kernel
theorem dL_law_315 : decode cL_law 315 = .ok (.iload_n 3, 1) := by decide +kernel
theorem dL_law_316 : decode cL_law 316 = .ok (.iconst 2, 1) := by decide +kernel
theorem dL_law_317 : decode cL_law 317 = .ok (.iadd, 1) := by decide +kernel
theorem dL_law_318 : decode cL_law 318 = .ok (.iaload, 1) := by decide +kernel
theorem dL_law_319 : decode cL_law 319 = .ok (.invokevirtual 32, 3) := by decide +kernel
theorem dL_law_322 : decode cL_law 322 = .ok (.aload_n 2, 1) := by decide +kernel
theorem dL_law_323 : decode cL_law 323 = .ok (.aload_n 0, 1) := by decide +kernel
theorem dL_law_324 : decode cL_law 324 = .ok (.iload_n 3, 1) := by decide +kernel
theorem dL_law_325 : decode cL_law 325 = .ok (.iconst 1, 1) := by decide +kernel
theorem dL_law_326 : decode cL_law 326 = .ok (.iadd, 1) := by decide +kernel
theorem dL_law_327 : decode cL_law 327 = .ok (.iaload, 1) := by decide +kernel
theorem dL_law_328 : decode cL_law 328 = .ok (.aload_n 0, 1) := by decide +kernel
theorem dL_law_329 : decode cL_law 329 = .ok (.iload_n 3, 1) := by decide +kernel
theorem dL_law_330 : decode cL_law 330 = .ok (.iconst 2, 1) := by decide +kernel
theorem dL_law_331 : decode cL_law 331 = .ok (.iadd, 1) := by decide +kernel
theorem dL_law_332 : decode cL_law 332 = .ok (.iaload, 1) := by decide +kernel
theorem dL_law_333 : decode cL_law 333 = .ok (.invokevirtual 35, 3) := by decide +kernel
theorem dL_law_336 : decode cL_law 336 = .ok (.if_icmp .eq 691, 3) := by decide +kernel
theorem dL_law_339 : decode cL_law 339 = .ok (.iconst 0, 1) := by decide +kernel
theorem dL_law_340 : decode cL_law 340 = .ok (.ireturn, 1) := by decide +kernel
theorem dL_law_341 : decode cL_law 341 = .ok (.aload_n 1, 1) := by decide +kernel
theorem dL_law_342 : decode cL_law 342 = .ok (.invokevirtual 36, 3) := by decide +kernel
theorem dL_law_345 : decode cL_law 345 = .ok (.aload_n 2, 1) := by decide +kernel
theorem dL_law_346 : decode cL_law 346 = .ok (.invokevirtual 40, 3) := by decide +kernel
theorem dL_law_349 : decode cL_law 349 = .ok (.if_icmp .eq 678, 3) := by decide +kernel
theorem dL_law_352 : decode cL_law 352 = .ok (.iconst 0, 1) := by decide +kernel
theorem dL_law_353 : decode cL_law 353 = .ok (.ireturn, 1) := by decide +kernel
theorem dL_law_354 : decode cL_law 354 = .ok (.aload_n 1, 1) := by decide +kernel
theorem dL_law_355 : decode cL_law 355 = .ok (.aload_n 0, 1) := by decide +kernel
theorem dL_law_356 : decode cL_law 356 = .ok (.iload_n 3, 1) := by decide +kernel
theorem dL_law_357 : decode cL_law 357 = .ok (.iconst 1, 1) := by decide +kernel
theorem dL_law_358 : decode cL_law 358 = .ok (.iadd, 1) := by decide +kernel
theorem dL_law_359 : decode cL_law 359 = .ok (.iaload, 1) := by decide +kernel
theorem dL_law_360 : decode cL_law 360 = .ok (.invokevirtual 41, 3) := by decide +kernel
theorem dL_law_363 : decode cL_law 363 = .ok (.aload_n 2, 1) := by decide +kernel
theorem dL_law_364 : decode cL_law 364 = .ok (.aload_n 0, 1) := by decide +kernel
theorem dL_law_365 : decode cL_law 365 = .ok (.iload_n 3, 1) := by decide +kernel
theorem dL_law_366 : decode cL_law 366 = .ok (.iconst 1, 1) := by decide +kernel
theorem dL_law_367 : decode cL_law 367 = .ok (.iadd, 1) := by decide +kernel
theorem dL_law_368 : decode cL_law 368 = .ok (.iaload, 1) := by decide +kernel
theorem dL_law_369 : decode cL_law 369 = .ok (.invokevirtual 44, 3) := by decide +kernel
theorem dL_law_372 : decode cL_law 372 = .ok (.if_icmp .eq 655, 3) := by decide +kernel
theorem dL_law_375 : decode cL_law 375 = .ok (.iconst 0, 1) := by decide +kernel
theorem dL_law_376 : decode cL_law 376 = .ok (.ireturn, 1) := by decide +kernel
theorem dL_law_377 : decode cL_law 377 = .ok (.aload_n 1, 1) := by decide +kernel
theorem dL_law_378 : decode cL_law 378 = .ok (.aload_n 0, 1) := by decide +kernel
theorem dL_law_379 : decode cL_law 379 = .ok (.iload_n 3, 1) := by decide +kernel
theorem dL_law_380 : decode cL_law 380 = .ok (.iconst 1, 1) := by decide +kernel
theorem dL_law_381 : decode cL_law 381 = .ok (.iadd, 1) := by decide +kernel
theorem dL_law_382 : decode cL_law 382 = .ok (.iaload, 1) := by decide +kernel
theorem dL_law_383 : decode cL_law 383 = .ok (.aload_n 0, 1) := by decide +kernel
theorem dL_law_384 : decode cL_law 384 = .ok (.iload_n 3, 1) := by decide +kernel
theorem dL_law_385 : decode cL_law 385 = .ok (.iconst 2, 1) := by decide +kernel
theorem dL_law_386 : decode cL_law 386 = .ok (.iadd, 1) := by decide +kernel
theorem dL_law_387 : decode cL_law 387 = .ok (.iaload, 1) := by decide +kernel
theorem dL_law_388 : decode cL_law 388 = .ok (.invokevirtual 45, 3) := by decide +kernel
theorem dL_law_391 : decode cL_law 391 = .ok (.aload_n 2, 1) := by decide +kernel
theorem dL_law_392 : decode cL_law 392 = .ok (.aload_n 0, 1) := by decide +kernel
theorem dL_law_393 : decode cL_law 393 = .ok (.iload_n 3, 1) := by decide +kernel
theorem dL_law_394 : decode cL_law 394 = .ok (.iconst 1, 1) := by decide +kernel
theorem dL_law_395 : decode cL_law 395 = .ok (.iadd, 1) := by decide +kernel
theorem dL_law_396 : decode cL_law 396 = .ok (.iaload, 1) := by decide +kernel
theorem dL_law_397 : decode cL_law 397 = .ok (.aload_n 0, 1) := by decide +kernel
theorem dL_law_398 : decode cL_law 398 = .ok (.iload_n 3, 1) := by decide +kernel
theorem dL_law_399 : decode cL_law 399 = .ok (.iconst 2, 1) := by decide +kernel
theorem dL_law_400 : decode cL_law 400 = .ok (.iadd, 1) := by decide +kernel
theorem dL_law_401 : decode cL_law 401 = .ok (.iaload, 1) := by decide +kernel
theorem dL_law_402 : decode cL_law 402 = .ok (.invokevirtual 48, 3) := by decide +kernel
theorem dL_law_405 : decode cL_law 405 = .ok (.if_icmp .eq 622, 3) := by decide +kernel
theorem dL_law_408 : decode cL_law 408 = .ok (.iconst 0, 1) := by decide +kernel
theorem dL_law_409 : decode cL_law 409 = .ok (.ireturn, 1) := by decide +kernel
theorem dL_law_410 : decode cL_law 410 = .ok (.aload_n 1, 1) := by decide +kernel
theorem dL_law_411 : decode cL_law 411 = .ok (.aload_n 0, 1) := by decide +kernel
theorem dL_law_412 : decode cL_law 412 = .ok (.iload_n 3, 1) := by decide +kernel
theorem dL_law_413 : decode cL_law 413 = .ok (.iconst 1, 1) := by decide +kernel
theorem dL_law_414 : decode cL_law 414 = .ok (.iadd, 1) := by decide +kernel
theorem dL_law_415 : decode cL_law 415 = .ok (.iaload, 1) := by decide +kernel
theorem dL_law_416 : decode cL_law 416 = .ok (.aload_n 0, 1) := by decide +kernel
theorem dL_law_417 : decode cL_law 417 = .ok (.iload_n 3, 1) := by decide +kernel
theorem dL_law_418 : decode cL_law 418 = .ok (.iconst 2, 1) := by decide +kernel
theorem dL_law_419 : decode cL_law 419 = .ok (.iadd, 1) := by decide +kernel
theorem dL_law_420 : decode cL_law 420 = .ok (.iaload, 1) := by decide +kernel
theorem dL_law_421 : decode cL_law 421 = .ok (.invokevirtual 49, 3) := by decide +kernel
theorem dL_law_424 : decode cL_law 424 = .ok (.aload_n 2, 1) := by decide +kernel
theorem dL_law_425 : decode cL_law 425 = .ok (.aload_n 0, 1) := by decide +kernel
theorem dL_law_426 : decode cL_law 426 = .ok (.iload_n 3, 1) := by decide +kernel
theorem dL_law_427 : decode cL_law 427 = .ok (.iconst 1, 1) := by decide +kernel
theorem dL_law_428 : decode cL_law 428 = .ok (.iadd, 1) := by decide +kernel
theorem dL_law_429 : decode cL_law 429 = .ok (.iaload, 1) := by decide +kernel
theorem dL_law_430 : decode cL_law 430 = .ok (.aload_n 0, 1) := by decide +kernel
theorem dL_law_431 : decode cL_law 431 = .ok (.iload_n 3, 1) := by decide +kernel
theorem dL_law_432 : decode cL_law 432 = .ok (.iconst 2, 1) := by decide +kernel
theorem dL_law_433 : decode cL_law 433 = .ok (.iadd, 1) := by decide +kernel
theorem dL_law_434 : decode cL_law 434 = .ok (.iaload, 1) := by decide +kernel
theorem dL_law_435 : decode cL_law 435 = .ok (.invokevirtual 52, 3) := by decide +kernel
theorem dL_law_438 : decode cL_law 438 = .ok (.if_icmp .eq 589, 3) := by decide +kernel
theorem dL_law_441 : decode cL_law 441 = .ok (.iconst 0, 1) := by decide +kernel
theorem dL_law_442 : decode cL_law 442 = .ok (.ireturn, 1) := by decide +kernel
theorem dL_law_443 : decode cL_law 443 = .ok (.aload_n 1, 1) := by decide +kernel
theorem dL_law_444 : decode cL_law 444 = .ok (.aload_n 0, 1) := by decide +kernel
theorem dL_law_445 : decode cL_law 445 = .ok (.iload_n 3, 1) := by decide +kernel
theorem dL_law_446 : decode cL_law 446 = .ok (.iconst 1, 1) := by decide +kernel
theorem dL_law_447 : decode cL_law 447 = .ok (.iadd, 1) := by decide +kernel
theorem dL_law_448 : decode cL_law 448 = .ok (.iaload, 1) := by decide +kernel
theorem dL_law_449 : decode cL_law 449 = .ok (.aload_n 0, 1) := by decide +kernel
theorem dL_law_450 : decode cL_law 450 = .ok (.iload_n 3, 1) := by decide +kernel
theorem dL_law_451 : decode cL_law 451 = .ok (.iconst 2, 1) := by decide +kernel
theorem dL_law_452 : decode cL_law 452 = .ok (.iadd, 1) := by decide +kernel
theorem dL_law_453 : decode cL_law 453 = .ok (.iaload, 1) := by decide +kernel
theorem dL_law_454 : decode cL_law 454 = .ok (.invokevirtual 53, 3) := by decide +kernel
theorem dL_law_457 : decode cL_law 457 = .ok (.aload_n 2, 1) := by decide +kernel
theorem dL_law_458 : decode cL_law 458 = .ok (.aload_n 0, 1) := by decide +kernel
theorem dL_law_459 : decode cL_law 459 = .ok (.iload_n 3, 1) := by decide +kernel
theorem dL_law_460 : decode cL_law 460 = .ok (.iconst 1, 1) := by decide +kernel
theorem dL_law_461 : decode cL_law 461 = .ok (.iadd, 1) := by decide +kernel
theorem dL_law_462 : decode cL_law 462 = .ok (.iaload, 1) := by decide +kernel
theorem dL_law_463 : decode cL_law 463 = .ok (.aload_n 0, 1) := by decide +kernel
theorem dL_law_464 : decode cL_law 464 = .ok (.iload_n 3, 1) := by decide +kernel
theorem dL_law_465 : decode cL_law 465 = .ok (.iconst 2, 1) := by decide +kernel
theorem dL_law_466 : decode cL_law 466 = .ok (.iadd, 1) := by decide +kernel
theorem dL_law_467 : decode cL_law 467 = .ok (.iaload, 1) := by decide +kernel
theorem dL_law_468 : decode cL_law 468 = .ok (.invokevirtual 56, 3) := by decide +kernel
theorem dL_law_471 : decode cL_law 471 = .ok (.if_icmp .eq 556, 3) := by decide +kernel
theorem dL_law_474 : decode cL_law 474 = .ok (.iconst 0, 1) := by decide +kernel
theorem dL_law_475 : decode cL_law 475 = .ok (.ireturn, 1) := by decide +kernel
theorem dL_law_476 : decode cL_law 476 = .ok (.aload_n 1, 1) := by decide +kernel
theorem dL_law_477 : decode cL_law 477 = .ok (.aload_n 0, 1) := by decide +kernel
theorem dL_law_478 : decode cL_law 478 = .ok (.iload_n 3, 1) := by decide +kernel
theorem dL_law_479 : decode cL_law 479 = .ok (.iconst 1, 1) := by decide +kernel
theorem dL_law_480 : decode cL_law 480 = .ok (.iadd, 1) := by decide +kernel
theorem dL_law_481 : decode cL_law 481 = .ok (.iaload, 1) := by decide +kernel
theorem dL_law_482 : decode cL_law 482 = .ok (.aload_n 0, 1) := by decide +kernel
theorem dL_law_483 : decode cL_law 483 = .ok (.iload_n 3, 1) := by decide +kernel
theorem dL_law_484 : decode cL_law 484 = .ok (.iconst 2, 1) := by decide +kernel
theorem dL_law_485 : decode cL_law 485 = .ok (.iadd, 1) := by decide +kernel
theorem dL_law_486 : decode cL_law 486 = .ok (.iaload, 1) := by decide +kernel
theorem dL_law_487 : decode cL_law 487 = .ok (.aload_n 0, 1) := by decide +kernel
theorem dL_law_488 : decode cL_law 488 = .ok (.iload_n 3, 1) := by decide +kernel
theorem dL_law_489 : decode cL_law 489 = .ok (.iconst 3, 1) := by decide +kernel
theorem dL_law_490 : decode cL_law 490 = .ok (.iadd, 1) := by decide +kernel
theorem dL_law_491 : decode cL_law 491 = .ok (.iaload, 1) := by decide +kernel
theorem dL_law_492 : decode cL_law 492 = .ok (.aload_n 0, 1) := by decide +kernel
theorem dL_law_493 : decode cL_law 493 = .ok (.iload_n 3, 1) := by decide +kernel
theorem dL_law_494 : decode cL_law 494 = .ok (.iconst 4, 1) := by decide +kernel
theorem dL_law_495 : decode cL_law 495 = .ok (.iadd, 1) := by decide +kernel
theorem dL_law_496 : decode cL_law 496 = .ok (.iaload, 1) := by decide +kernel
theorem dL_law_497 : decode cL_law 497 = .ok (.invokevirtual 57, 3) := by decide +kernel
theorem dL_law_500 : decode cL_law 500 = .ok (.aload_n 2, 1) := by decide +kernel
theorem dL_law_501 : decode cL_law 501 = .ok (.aload_n 0, 1) := by decide +kernel
theorem dL_law_502 : decode cL_law 502 = .ok (.iload_n 3, 1) := by decide +kernel
theorem dL_law_503 : decode cL_law 503 = .ok (.iconst 1, 1) := by decide +kernel
theorem dL_law_504 : decode cL_law 504 = .ok (.iadd, 1) := by decide +kernel
theorem dL_law_505 : decode cL_law 505 = .ok (.iaload, 1) := by decide +kernel
theorem dL_law_506 : decode cL_law 506 = .ok (.aload_n 0, 1) := by decide +kernel
theorem dL_law_507 : decode cL_law 507 = .ok (.iload_n 3, 1) := by decide +kernel
theorem dL_law_508 : decode cL_law 508 = .ok (.iconst 2, 1) := by decide +kernel
theorem dL_law_509 : decode cL_law 509 = .ok (.iadd, 1) := by decide +kernel
theorem dL_law_510 : decode cL_law 510 = .ok (.iaload, 1) := by decide +kernel
theorem dL_law_511 : decode cL_law 511 = .ok (.aload_n 0, 1) := by decide +kernel
theorem dL_law_512 : decode cL_law 512 = .ok (.iload_n 3, 1) := by decide +kernel
theorem dL_law_513 : decode cL_law 513 = .ok (.iconst 3, 1) := by decide +kernel
theorem dL_law_514 : decode cL_law 514 = .ok (.iadd, 1) := by decide +kernel
theorem dL_law_515 : decode cL_law 515 = .ok (.iaload, 1) := by decide +kernel
theorem dL_law_516 : decode cL_law 516 = .ok (.aload_n 0, 1) := by decide +kernel
theorem dL_law_517 : decode cL_law 517 = .ok (.iload_n 3, 1) := by decide +kernel
theorem dL_law_518 : decode cL_law 518 = .ok (.iconst 4, 1) := by decide +kernel
theorem dL_law_519 : decode cL_law 519 = .ok (.iadd, 1) := by decide +kernel
theorem dL_law_520 : decode cL_law 520 = .ok (.iaload, 1) := by decide +kernel
theorem dL_law_521 : decode cL_law 521 = .ok (.invokevirtual 61, 3) := by decide +kernel
theorem dL_law_524 : decode cL_law 524 = .ok (.if_icmp .eq 503, 3) := by decide +kernel
theorem dL_law_527 : decode cL_law 527 = .ok (.iconst 0, 1) := by decide +kernel
theorem dL_law_528 : decode cL_law 528 = .ok (.ireturn, 1) := by decide +kernel
theorem dL_law_529 : decode cL_law 529 = .ok (.aload_n 1, 1) := by decide +kernel
theorem dL_law_530 : decode cL_law 530 = .ok (.aload_n 0, 1) := by decide +kernel
theorem dL_law_531 : decode cL_law 531 = .ok (.iload_n 3, 1) := by decide +kernel
theorem dL_law_532 : decode cL_law 532 = .ok (.iconst 1, 1) := by decide +kernel
theorem dL_law_533 : decode cL_law 533 = .ok (.iadd, 1) := by decide +kernel
theorem dL_law_534 : decode cL_law 534 = .ok (.iaload, 1) := by decide +kernel
theorem dL_law_535 : decode cL_law 535 = .ok (.aload_n 0, 1) := by decide +kernel
theorem dL_law_536 : decode cL_law 536 = .ok (.iload_n 3, 1) := by decide +kernel
theorem dL_law_537 : decode cL_law 537 = .ok (.iconst 2, 1) := by decide +kernel
theorem dL_law_538 : decode cL_law 538 = .ok (.iadd, 1) := by decide +kernel
theorem dL_law_539 : decode cL_law 539 = .ok (.iaload, 1) := by decide +kernel
theorem dL_law_540 : decode cL_law 540 = .ok (.invokevirtual 62, 3) := by decide +kernel
theorem dL_law_543 : decode cL_law 543 = .ok (.f2d, 1) := by decide +kernel
theorem dL_law_544 : decode cL_law 544 = .ok (.dstore 4, 2) := by decide +kernel
theorem dL_law_546 : decode cL_law 546 = .ok (.aload_n 2, 1) := by decide +kernel
theorem dL_law_547 : decode cL_law 547 = .ok (.aload_n 0, 1) := by decide +kernel
theorem dL_law_548 : decode cL_law 548 = .ok (.iload_n 3, 1) := by decide +kernel
theorem dL_law_549 : decode cL_law 549 = .ok (.iconst 1, 1) := by decide +kernel
theorem dL_law_550 : decode cL_law 550 = .ok (.iadd, 1) := by decide +kernel
theorem dL_law_551 : decode cL_law 551 = .ok (.iaload, 1) := by decide +kernel
theorem dL_law_552 : decode cL_law 552 = .ok (.aload_n 0, 1) := by decide +kernel
theorem dL_law_553 : decode cL_law 553 = .ok (.iload_n 3, 1) := by decide +kernel
theorem dL_law_554 : decode cL_law 554 = .ok (.iconst 2, 1) := by decide +kernel
theorem dL_law_555 : decode cL_law 555 = .ok (.iadd, 1) := by decide +kernel
theorem dL_law_556 : decode cL_law 556 = .ok (.iaload, 1) := by decide +kernel
theorem dL_law_557 : decode cL_law 557 = .ok (.invokevirtual 66, 3) := by decide +kernel
theorem dL_law_560 : decode cL_law 560 = .ok (.f2d, 1) := by decide +kernel
theorem dL_law_561 : decode cL_law 561 = .ok (.dstore 6, 2) := by decide +kernel
theorem dL_law_563 : decode cL_law 563 = .ok (.dload 4, 2) := by decide +kernel
theorem dL_law_565 : decode cL_law 565 = .ok (.dload 6, 2) := by decide +kernel
theorem dL_law_567 : decode cL_law 567 = .ok (.dcmp .l, 1) := by decide +kernel
theorem dL_law_568 : decode cL_law 568 = .ok (.ifCond .eq 21, 3) := by decide +kernel
theorem dL_law_571 : decode cL_law 571 = .ok (.dload 4, 2) := by decide +kernel
theorem dL_law_573 : decode cL_law 573 = .ok (.dload 4, 2) := by decide +kernel
theorem dL_law_575 : decode cL_law 575 = .ok (.dcmp .l, 1) := by decide +kernel
theorem dL_law_576 : decode cL_law 576 = .ok (.ifCond .eq 11, 3) := by decide +kernel
theorem dL_law_579 : decode cL_law 579 = .ok (.dload 6, 2) := by decide +kernel
theorem dL_law_581 : decode cL_law 581 = .ok (.dload 6, 2) := by decide +kernel
theorem dL_law_583 : decode cL_law 583 = .ok (.dcmp .l, 1) := by decide +kernel
theorem dL_law_584 : decode cL_law 584 = .ok (.ifCond .ne 5, 3) := by decide +kernel
theorem dL_law_587 : decode cL_law 587 = .ok (.iconst 0, 1) := by decide +kernel
theorem dL_law_588 : decode cL_law 588 = .ok (.ireturn, 1) := by decide +kernel
theorem dL_law_589 : decode cL_law 589 = .ok (.goto 438, 3) := by decide +kernel
theorem dL_law_592 : decode cL_law 592 = .ok (.aload_n 1, 1) := by decide +kernel
theorem dL_law_593 : decode cL_law 593 = .ok (.aload_n 0, 1) := by decide +kernel
theorem dL_law_594 : decode cL_law 594 = .ok (.iload_n 3, 1) := by decide +kernel
theorem dL_law_595 : decode cL_law 595 = .ok (.iconst 1, 1) := by decide +kernel
theorem dL_law_596 : decode cL_law 596 = .ok (.iadd, 1) := by decide +kernel
theorem dL_law_597 : decode cL_law 597 = .ok (.iaload, 1) := by decide +kernel
theorem dL_law_598 : decode cL_law 598 = .ok (.aload_n 0, 1) := by decide +kernel
theorem dL_law_599 : decode cL_law 599 = .ok (.iload_n 3, 1) := by decide +kernel
theorem dL_law_600 : decode cL_law 600 = .ok (.iconst 2, 1) := by decide +kernel
theorem dL_law_601 : decode cL_law 601 = .ok (.iadd, 1) := by decide +kernel
theorem dL_law_602 : decode cL_law 602 = .ok (.iaload, 1) := by decide +kernel
theorem dL_law_603 : decode cL_law 603 = .ok (.invokevirtual 67, 3) := by decide +kernel
theorem dL_law_606 : decode cL_law 606 = .ok (.aload_n 2, 1) := by decide +kernel
theorem dL_law_607 : decode cL_law 607 = .ok (.aload_n 0, 1) := by decide +kernel
theorem dL_law_608 : decode cL_law 608 = .ok (.iload_n 3, 1) := by decide +kernel
theorem dL_law_609 : decode cL_law 609 = .ok (.iconst 1, 1) := by decide +kernel
theorem dL_law_610 : decode cL_law 610 = .ok (.iadd, 1) := by decide +kernel
theorem dL_law_611 : decode cL_law 611 = .ok (.iaload, 1) := by decide +kernel
theorem dL_law_612 : decode cL_law 612 = .ok (.aload_n 0, 1) := by decide +kernel
theorem dL_law_613 : decode cL_law 613 = .ok (.iload_n 3, 1) := by decide +kernel
theorem dL_law_614 : decode cL_law 614 = .ok (.iconst 2, 1) := by decide +kernel
theorem dL_law_615 : decode cL_law 615 = .ok (.iadd, 1) := by decide +kernel
theorem dL_law_616 : decode cL_law 616 = .ok (.iaload, 1) := by decide +kernel
theorem dL_law_617 : decode cL_law 617 = .ok (.invokevirtual 70, 3) := by decide +kernel
theorem dL_law_620 : decode cL_law 620 = .ok (.if_icmp .eq 407, 3) := by decide +kernel
theorem dL_law_623 : decode cL_law 623 = .ok (.iconst 0, 1) := by decide +kernel
theorem dL_law_624 : decode cL_law 624 = .ok (.ireturn, 1) := by decide +kernel
theorem dL_law_625 : decode cL_law 625 = .ok (.aload_n 1, 1) := by decide +kernel
theorem dL_law_626 : decode cL_law 626 = .ok (.aload_n 0, 1) := by decide +kernel
theorem dL_law_627 : decode cL_law 627 = .ok (.iload_n 3, 1) := by decide +kernel
theorem dL_law_628 : decode cL_law 628 = .ok (.iconst 1, 1) := by decide +kernel
theorem dL_law_629 : decode cL_law 629 = .ok (.iadd, 1) := by decide +kernel
theorem dL_law_630 : decode cL_law 630 = .ok (.iaload, 1) := by decide +kernel
theorem dL_law_631 : decode cL_law 631 = .ok (.aload_n 0, 1) := by decide +kernel
theorem dL_law_632 : decode cL_law 632 = .ok (.iload_n 3, 1) := by decide +kernel
theorem dL_law_633 : decode cL_law 633 = .ok (.iconst 2, 1) := by decide +kernel
theorem dL_law_634 : decode cL_law 634 = .ok (.iadd, 1) := by decide +kernel
theorem dL_law_635 : decode cL_law 635 = .ok (.iaload, 1) := by decide +kernel
theorem dL_law_636 : decode cL_law 636 = .ok (.invokevirtual 71, 3) := by decide +kernel
theorem dL_law_639 : decode cL_law 639 = .ok (.aload_n 2, 1) := by decide +kernel
theorem dL_law_640 : decode cL_law 640 = .ok (.aload_n 0, 1) := by decide +kernel
theorem dL_law_641 : decode cL_law 641 = .ok (.iload_n 3, 1) := by decide +kernel
theorem dL_law_642 : decode cL_law 642 = .ok (.iconst 1, 1) := by decide +kernel
theorem dL_law_643 : decode cL_law 643 = .ok (.iadd, 1) := by decide +kernel
theorem dL_law_644 : decode cL_law 644 = .ok (.iaload, 1) := by decide +kernel
theorem dL_law_645 : decode cL_law 645 = .ok (.aload_n 0, 1) := by decide +kernel
theorem dL_law_646 : decode cL_law 646 = .ok (.iload_n 3, 1) := by decide +kernel
theorem dL_law_647 : decode cL_law 647 = .ok (.iconst 2, 1) := by decide +kernel
theorem dL_law_648 : decode cL_law 648 = .ok (.iadd, 1) := by decide +kernel
theorem dL_law_649 : decode cL_law 649 = .ok (.iaload, 1) := by decide +kernel
theorem dL_law_650 : decode cL_law 650 = .ok (.invokevirtual 74, 3) := by decide +kernel
theorem dL_law_653 : decode cL_law 653 = .ok (.if_icmp .eq 374, 3) := by decide +kernel
theorem dL_law_656 : decode cL_law 656 = .ok (.iconst 0, 1) := by decide +kernel
theorem dL_law_657 : decode cL_law 657 = .ok (.ireturn, 1) := by decide +kernel
theorem dL_law_658 : decode cL_law 658 = .ok (.aload_n 1, 1) := by decide +kernel
theorem dL_law_659 : decode cL_law 659 = .ok (.invokevirtual 75, 3) := by decide +kernel
theorem dL_law_662 : decode cL_law 662 = .ok (.aload_n 2, 1) := by decide +kernel
theorem dL_law_663 : decode cL_law 663 = .ok (.invokevirtual 78, 3) := by decide +kernel
theorem dL_law_666 : decode cL_law 666 = .ok (.if_icmp .eq 361, 3) := by decide +kernel
theorem dL_law_669 : decode cL_law 669 = .ok (.iconst 0, 1) := by decide +kernel
theorem dL_law_670 : decode cL_law 670 = .ok (.ireturn, 1) := by decide +kernel
theorem dL_law_671 : decode cL_law 671 = .ok (.aload_n 1, 1) := by decide +kernel
theorem dL_law_672 : decode cL_law 672 = .ok (.aload_n 0, 1) := by decide +kernel
theorem dL_law_673 : decode cL_law 673 = .ok (.iload_n 3, 1) := by decide +kernel
theorem dL_law_674 : decode cL_law 674 = .ok (.iconst 1, 1) := by decide +kernel
theorem dL_law_675 : decode cL_law 675 = .ok (.iadd, 1) := by decide +kernel
theorem dL_law_676 : decode cL_law 676 = .ok (.iaload, 1) := by decide +kernel
theorem dL_law_677 : decode cL_law 677 = .ok (.aload_n 0, 1) := by decide +kernel
theorem dL_law_678 : decode cL_law 678 = .ok (.iload_n 3, 1) := by decide +kernel
theorem dL_law_679 : decode cL_law 679 = .ok (.iconst 2, 1) := by decide +kernel
theorem dL_law_680 : decode cL_law 680 = .ok (.iadd, 1) := by decide +kernel
theorem dL_law_681 : decode cL_law 681 = .ok (.iaload, 1) := by decide +kernel
theorem dL_law_682 : decode cL_law 682 = .ok (.aload_n 0, 1) := by decide +kernel
theorem dL_law_683 : decode cL_law 683 = .ok (.iload_n 3, 1) := by decide +kernel
theorem dL_law_684 : decode cL_law 684 = .ok (.iconst 3, 1) := by decide +kernel
theorem dL_law_685 : decode cL_law 685 = .ok (.iadd, 1) := by decide +kernel
theorem dL_law_686 : decode cL_law 686 = .ok (.iaload, 1) := by decide +kernel
theorem dL_law_687 : decode cL_law 687 = .ok (.invokevirtual 79, 3) := by decide +kernel
theorem dL_law_690 : decode cL_law 690 = .ok (.aload_n 2, 1) := by decide +kernel
theorem dL_law_691 : decode cL_law 691 = .ok (.aload_n 0, 1) := by decide +kernel
theorem dL_law_692 : decode cL_law 692 = .ok (.iload_n 3, 1) := by decide +kernel
theorem dL_law_693 : decode cL_law 693 = .ok (.iconst 1, 1) := by decide +kernel
theorem dL_law_694 : decode cL_law 694 = .ok (.iadd, 1) := by decide +kernel
theorem dL_law_695 : decode cL_law 695 = .ok (.iaload, 1) := by decide +kernel
theorem dL_law_696 : decode cL_law 696 = .ok (.aload_n 0, 1) := by decide +kernel
theorem dL_law_697 : decode cL_law 697 = .ok (.iload_n 3, 1) := by decide +kernel
theorem dL_law_698 : decode cL_law 698 = .ok (.iconst 2, 1) := by decide +kernel
theorem dL_law_699 : decode cL_law 699 = .ok (.iadd, 1) := by decide +kernel
theorem dL_law_700 : decode cL_law 700 = .ok (.iaload, 1) := by decide +kernel
theorem dL_law_701 : decode cL_law 701 = .ok (.aload_n 0, 1) := by decide +kernel
theorem dL_law_702 : decode cL_law 702 = .ok (.iload_n 3, 1) := by decide +kernel
theorem dL_law_703 : decode cL_law 703 = .ok (.iconst 3, 1) := by decide +kernel
theorem dL_law_704 : decode cL_law 704 = .ok (.iadd, 1) := by decide +kernel
theorem dL_law_705 : decode cL_law 705 = .ok (.iaload, 1) := by decide +kernel
theorem dL_law_706 : decode cL_law 706 = .ok (.invokevirtual 83, 3) := by decide +kernel
theorem dL_law_709 : decode cL_law 709 = .ok (.if_icmp .eq 318, 3) := by decide +kernel
theorem dL_law_712 : decode cL_law 712 = .ok (.iconst 0, 1) := by decide +kernel
theorem dL_law_713 : decode cL_law 713 = .ok (.ireturn, 1) := by decide +kernel
theorem dL_law_714 : decode cL_law 714 = .ok (.aload_n 1, 1) := by decide +kernel
theorem dL_law_715 : decode cL_law 715 = .ok (.aload_n 0, 1) := by decide +kernel
theorem dL_law_716 : decode cL_law 716 = .ok (.iload_n 3, 1) := by decide +kernel
theorem dL_law_717 : decode cL_law 717 = .ok (.iconst 1, 1) := by decide +kernel
theorem dL_law_718 : decode cL_law 718 = .ok (.iadd, 1) := by decide +kernel
theorem dL_law_719 : decode cL_law 719 = .ok (.iaload, 1) := by decide +kernel
theorem dL_law_720 : decode cL_law 720 = .ok (.aload_n 0, 1) := by decide +kernel
theorem dL_law_721 : decode cL_law 721 = .ok (.iload_n 3, 1) := by decide +kernel
theorem dL_law_722 : decode cL_law 722 = .ok (.iconst 2, 1) := by decide +kernel
theorem dL_law_723 : decode cL_law 723 = .ok (.iadd, 1) := by decide +kernel
theorem dL_law_724 : decode cL_law 724 = .ok (.iaload, 1) := by decide +kernel
theorem dL_law_725 : decode cL_law 725 = .ok (.aload_n 0, 1) := by decide +kernel
theorem dL_law_726 : decode cL_law 726 = .ok (.iload_n 3, 1) := by decide +kernel
theorem dL_law_727 : decode cL_law 727 = .ok (.iconst 3, 1) := by decide +kernel
theorem dL_law_728 : decode cL_law 728 = .ok (.iadd, 1) := by decide +kernel
theorem dL_law_729 : decode cL_law 729 = .ok (.iaload, 1) := by decide +kernel
theorem dL_law_730 : decode cL_law 730 = .ok (.invokevirtual 84, 3) := by decide +kernel
theorem dL_law_733 : decode cL_law 733 = .ok (.aload_n 2, 1) := by decide +kernel
theorem dL_law_734 : decode cL_law 734 = .ok (.aload_n 0, 1) := by decide +kernel
theorem dL_law_735 : decode cL_law 735 = .ok (.iload_n 3, 1) := by decide +kernel
theorem dL_law_736 : decode cL_law 736 = .ok (.iconst 1, 1) := by decide +kernel
theorem dL_law_737 : decode cL_law 737 = .ok (.iadd, 1) := by decide +kernel
theorem dL_law_738 : decode cL_law 738 = .ok (.iaload, 1) := by decide +kernel
theorem dL_law_739 : decode cL_law 739 = .ok (.aload_n 0, 1) := by decide +kernel
theorem dL_law_740 : decode cL_law 740 = .ok (.iload_n 3, 1) := by decide +kernel
theorem dL_law_741 : decode cL_law 741 = .ok (.iconst 2, 1) := by decide +kernel
theorem dL_law_742 : decode cL_law 742 = .ok (.iadd, 1) := by decide +kernel
theorem dL_law_743 : decode cL_law 743 = .ok (.iaload, 1) := by decide +kernel
theorem dL_law_744 : decode cL_law 744 = .ok (.aload_n 0, 1) := by decide +kernel
theorem dL_law_745 : decode cL_law 745 = .ok (.iload_n 3, 1) := by decide +kernel
theorem dL_law_746 : decode cL_law 746 = .ok (.iconst 3, 1) := by decide +kernel
theorem dL_law_747 : decode cL_law 747 = .ok (.iadd, 1) := by decide +kernel
theorem dL_law_748 : decode cL_law 748 = .ok (.iaload, 1) := by decide +kernel
theorem dL_law_749 : decode cL_law 749 = .ok (.invokevirtual 87, 3) := by decide +kernel
theorem dL_law_752 : decode cL_law 752 = .ok (.if_icmp .eq 275, 3) := by decide +kernel
theorem dL_law_755 : decode cL_law 755 = .ok (.iconst 0, 1) := by decide +kernel
theorem dL_law_756 : decode cL_law 756 = .ok (.ireturn, 1) := by decide +kernel
theorem dL_law_757 : decode cL_law 757 = .ok (.aload_n 1, 1) := by decide +kernel
theorem dL_law_758 : decode cL_law 758 = .ok (.invokevirtual 88, 3) := by decide +kernel
theorem dL_law_761 : decode cL_law 761 = .ok (.aload_n 2, 1) := by decide +kernel
theorem dL_law_762 : decode cL_law 762 = .ok (.invokevirtual 91, 3) := by decide +kernel
theorem dL_law_765 : decode cL_law 765 = .ok (.if_icmp .eq 262, 3) := by decide +kernel
theorem dL_law_768 : decode cL_law 768 = .ok (.iconst 0, 1) := by decide +kernel
theorem dL_law_769 : decode cL_law 769 = .ok (.ireturn, 1) := by decide +kernel
theorem dL_law_770 : decode cL_law 770 = .ok (.aload_n 1, 1) := by decide +kernel
theorem dL_law_771 : decode cL_law 771 = .ok (.aload_n 0, 1) := by decide +kernel
theorem dL_law_772 : decode cL_law 772 = .ok (.iload_n 3, 1) := by decide +kernel
theorem dL_law_773 : decode cL_law 773 = .ok (.iconst 1, 1) := by decide +kernel
theorem dL_law_774 : decode cL_law 774 = .ok (.iadd, 1) := by decide +kernel
theorem dL_law_775 : decode cL_law 775 = .ok (.iaload, 1) := by decide +kernel
theorem dL_law_776 : decode cL_law 776 = .ok (.aload_n 0, 1) := by decide +kernel
theorem dL_law_777 : decode cL_law 777 = .ok (.iload_n 3, 1) := by decide +kernel
theorem dL_law_778 : decode cL_law 778 = .ok (.iconst 2, 1) := by decide +kernel
theorem dL_law_779 : decode cL_law 779 = .ok (.iadd, 1) := by decide +kernel
theorem dL_law_780 : decode cL_law 780 = .ok (.iaload, 1) := by decide +kernel
theorem dL_law_781 : decode cL_law 781 = .ok (.invokevirtual 92, 3) := by decide +kernel
theorem dL_law_784 : decode cL_law 784 = .ok (.aload_n 2, 1) := by decide +kernel
theorem dL_law_785 : decode cL_law 785 = .ok (.aload_n 0, 1) := by decide +kernel
theorem dL_law_786 : decode cL_law 786 = .ok (.iload_n 3, 1) := by decide +kernel
theorem dL_law_787 : decode cL_law 787 = .ok (.iconst 1, 1) := by decide +kernel
theorem dL_law_788 : decode cL_law 788 = .ok (.iadd, 1) := by decide +kernel
theorem dL_law_789 : decode cL_law 789 = .ok (.iaload, 1) := by decide +kernel
theorem dL_law_790 : decode cL_law 790 = .ok (.aload_n 0, 1) := by decide +kernel
theorem dL_law_791 : decode cL_law 791 = .ok (.iload_n 3, 1) := by decide +kernel
theorem dL_law_792 : decode cL_law 792 = .ok (.iconst 2, 1) := by decide +kernel
theorem dL_law_793 : decode cL_law 793 = .ok (.iadd, 1) := by decide +kernel
theorem dL_law_794 : decode cL_law 794 = .ok (.iaload, 1) := by decide +kernel
theorem dL_law_795 : decode cL_law 795 = .ok (.invokevirtual 95, 3) := by decide +kernel
theorem dL_law_798 : decode cL_law 798 = .ok (.if_icmp .eq 229, 3) := by decide +kernel
theorem dL_law_801 : decode cL_law 801 = .ok (.iconst 0, 1) := by decide +kernel
theorem dL_law_802 : decode cL_law 802 = .ok (.ireturn, 1) := by decide +kernel
theorem dL_law_803 : decode cL_law 803 = .ok (.aload_n 1, 1) := by decide +kernel
theorem dL_law_804 : decode cL_law 804 = .ok (.aload_n 0, 1) := by decide +kernel
theorem dL_law_805 : decode cL_law 805 = .ok (.iload_n 3, 1) := by decide +kernel
theorem dL_law_806 : decode cL_law 806 = .ok (.iconst 1, 1) := by decide +kernel
theorem dL_law_807 : decode cL_law 807 = .ok (.iadd, 1) := by decide +kernel
theorem dL_law_808 : decode cL_law 808 = .ok (.iaload, 1) := by decide +kernel
theorem dL_law_809 : decode cL_law 809 = .ok (.aload_n 0, 1) := by decide +kernel
theorem dL_law_810 : decode cL_law 810 = .ok (.iload_n 3, 1) := by decide +kernel
theorem dL_law_811 : decode cL_law 811 = .ok (.iconst 2, 1) := by decide +kernel
theorem dL_law_812 : decode cL_law 812 = .ok (.iadd, 1) := by decide +kernel
theorem dL_law_813 : decode cL_law 813 = .ok (.iaload, 1) := by decide +kernel
theorem dL_law_814 : decode cL_law 814 = .ok (.aload_n 0, 1) := by decide +kernel
theorem dL_law_815 : decode cL_law 815 = .ok (.iload_n 3, 1) := by decide +kernel
theorem dL_law_816 : decode cL_law 816 = .ok (.iconst 3, 1) := by decide +kernel
theorem dL_law_817 : decode cL_law 817 = .ok (.iadd, 1) := by decide +kernel
theorem dL_law_818 : decode cL_law 818 = .ok (.iaload, 1) := by decide +kernel
theorem dL_law_819 : decode cL_law 819 = .ok (.invokevirtual 96, 3) := by decide +kernel
theorem dL_law_822 : decode cL_law 822 = .ok (.aload_n 2, 1) := by decide +kernel
theorem dL_law_823 : decode cL_law 823 = .ok (.aload_n 0, 1) := by decide +kernel
theorem dL_law_824 : decode cL_law 824 = .ok (.iload_n 3, 1) := by decide +kernel
theorem dL_law_825 : decode cL_law 825 = .ok (.iconst 1, 1) := by decide +kernel
theorem dL_law_826 : decode cL_law 826 = .ok (.iadd, 1) := by decide +kernel
theorem dL_law_827 : decode cL_law 827 = .ok (.iaload, 1) := by decide +kernel
theorem dL_law_828 : decode cL_law 828 = .ok (.aload_n 0, 1) := by decide +kernel
theorem dL_law_829 : decode cL_law 829 = .ok (.iload_n 3, 1) := by decide +kernel
theorem dL_law_830 : decode cL_law 830 = .ok (.iconst 2, 1) := by decide +kernel
theorem dL_law_831 : decode cL_law 831 = .ok (.iadd, 1) := by decide +kernel
theorem dL_law_832 : decode cL_law 832 = .ok (.iaload, 1) := by decide +kernel
theorem dL_law_833 : decode cL_law 833 = .ok (.aload_n 0, 1) := by decide +kernel
theorem dL_law_834 : decode cL_law 834 = .ok (.iload_n 3, 1) := by decide +kernel
theorem dL_law_835 : decode cL_law 835 = .ok (.iconst 3, 1) := by decide +kernel
theorem dL_law_836 : decode cL_law 836 = .ok (.iadd, 1) := by decide +kernel
theorem dL_law_837 : decode cL_law 837 = .ok (.iaload, 1) := by decide +kernel
theorem dL_law_838 : decode cL_law 838 = .ok (.invokevirtual 99, 3) := by decide +kernel
theorem dL_law_841 : decode cL_law 841 = .ok (.if_icmp .eq 186, 3) := by decide +kernel
theorem dL_law_844 : decode cL_law 844 = .ok (.iconst 0, 1) := by decide +kernel
theorem dL_law_845 : decode cL_law 845 = .ok (.ireturn, 1) := by decide +kernel
theorem dL_law_846 : decode cL_law 846 = .ok (.aload_n 1, 1) := by decide +kernel
theorem dL_law_847 : decode cL_law 847 = .ok (.aload_n 0, 1) := by decide +kernel
theorem dL_law_848 : decode cL_law 848 = .ok (.iload_n 3, 1) := by decide +kernel
theorem dL_law_849 : decode cL_law 849 = .ok (.iconst 1, 1) := by decide +kernel
theorem dL_law_850 : decode cL_law 850 = .ok (.iadd, 1) := by decide +kernel
theorem dL_law_851 : decode cL_law 851 = .ok (.iaload, 1) := by decide +kernel
theorem dL_law_852 : decode cL_law 852 = .ok (.aload_n 0, 1) := by decide +kernel
theorem dL_law_853 : decode cL_law 853 = .ok (.iload_n 3, 1) := by decide +kernel
theorem dL_law_854 : decode cL_law 854 = .ok (.iconst 2, 1) := by decide +kernel
theorem dL_law_855 : decode cL_law 855 = .ok (.iadd, 1) := by decide +kernel
theorem dL_law_856 : decode cL_law 856 = .ok (.iaload, 1) := by decide +kernel
theorem dL_law_857 : decode cL_law 857 = .ok (.aload_n 0, 1) := by decide +kernel
theorem dL_law_858 : decode cL_law 858 = .ok (.iload_n 3, 1) := by decide +kernel
theorem dL_law_859 : decode cL_law 859 = .ok (.iconst 3, 1) := by decide +kernel
theorem dL_law_860 : decode cL_law 860 = .ok (.iadd, 1) := by decide +kernel
theorem dL_law_861 : decode cL_law 861 = .ok (.iaload, 1) := by decide +kernel
theorem dL_law_862 : decode cL_law 862 = .ok (.invokevirtual 100, 3) := by decide +kernel
theorem dL_law_865 : decode cL_law 865 = .ok (.aload_n 2, 1) := by decide +kernel
theorem dL_law_866 : decode cL_law 866 = .ok (.aload_n 0, 1) := by decide +kernel
theorem dL_law_867 : decode cL_law 867 = .ok (.iload_n 3, 1) := by decide +kernel
theorem dL_law_868 : decode cL_law 868 = .ok (.iconst 1, 1) := by decide +kernel
theorem dL_law_869 : decode cL_law 869 = .ok (.iadd, 1) := by decide +kernel
theorem dL_law_870 : decode cL_law 870 = .ok (.iaload, 1) := by decide +kernel
theorem dL_law_871 : decode cL_law 871 = .ok (.aload_n 0, 1) := by decide +kernel
theorem dL_law_872 : decode cL_law 872 = .ok (.iload_n 3, 1) := by decide +kernel
theorem dL_law_873 : decode cL_law 873 = .ok (.iconst 2, 1) := by decide +kernel
theorem dL_law_874 : decode cL_law 874 = .ok (.iadd, 1) := by decide +kernel
theorem dL_law_875 : decode cL_law 875 = .ok (.iaload, 1) := by decide +kernel
theorem dL_law_876 : decode cL_law 876 = .ok (.aload_n 0, 1) := by decide +kernel
theorem dL_law_877 : decode cL_law 877 = .ok (.iload_n 3, 1) := by decide +kernel
theorem dL_law_878 : decode cL_law 878 = .ok (.iconst 3, 1) := by decide +kernel
theorem dL_law_879 : decode cL_law 879 = .ok (.iadd, 1) := by decide +kernel
theorem dL_law_880 : decode cL_law 880 = .ok (.iaload, 1) := by decide +kernel
theorem dL_law_881 : decode cL_law 881 = .ok (.invokevirtual 103, 3) := by decide +kernel
theorem dL_law_884 : decode cL_law 884 = .ok (.if_icmp .eq 143, 3) := by decide +kernel
theorem dL_law_887 : decode cL_law 887 = .ok (.iconst 0, 1) := by decide +kernel
theorem dL_law_888 : decode cL_law 888 = .ok (.ireturn, 1) := by decide +kernel
theorem dL_law_889 : decode cL_law 889 = .ok (.aload_n 1, 1) := by decide +kernel
theorem dL_law_890 : decode cL_law 890 = .ok (.aload_n 0, 1) := by decide +kernel
theorem dL_law_891 : decode cL_law 891 = .ok (.iload_n 3, 1) := by decide +kernel
theorem dL_law_892 : decode cL_law 892 = .ok (.iconst 1, 1) := by decide +kernel
theorem dL_law_893 : decode cL_law 893 = .ok (.iadd, 1) := by decide +kernel
theorem dL_law_894 : decode cL_law 894 = .ok (.iaload, 1) := by decide +kernel
theorem dL_law_895 : decode cL_law 895 = .ok (.aload_n 0, 1) := by decide +kernel
theorem dL_law_896 : decode cL_law 896 = .ok (.iload_n 3, 1) := by decide +kernel
theorem dL_law_897 : decode cL_law 897 = .ok (.iconst 2, 1) := by decide +kernel
theorem dL_law_898 : decode cL_law 898 = .ok (.iadd, 1) := by decide +kernel
theorem dL_law_899 : decode cL_law 899 = .ok (.iaload, 1) := by decide +kernel
theorem dL_law_900 : decode cL_law 900 = .ok (.invokevirtual 104, 3) := by decide +kernel
theorem dL_law_903 : decode cL_law 903 = .ok (.aload_n 2, 1) := by decide +kernel
theorem dL_law_904 : decode cL_law 904 = .ok (.aload_n 0, 1) := by decide +kernel
theorem dL_law_905 : decode cL_law 905 = .ok (.iload_n 3, 1) := by decide +kernel
theorem dL_law_906 : decode cL_law 906 = .ok (.iconst 1, 1) := by decide +kernel
theorem dL_law_907 : decode cL_law 907 = .ok (.iadd, 1) := by decide +kernel
theorem dL_law_908 : decode cL_law 908 = .ok (.iaload, 1) := by decide +kernel
theorem dL_law_909 : decode cL_law 909 = .ok (.aload_n 0, 1) := by decide +kernel
theorem dL_law_910 : decode cL_law 910 = .ok (.iload_n 3, 1) := by decide +kernel
theorem dL_law_911 : decode cL_law 911 = .ok (.iconst 2, 1) := by decide +kernel
theorem dL_law_912 : decode cL_law 912 = .ok (.iadd, 1) := by decide +kernel
theorem dL_law_913 : decode cL_law 913 = .ok (.iaload, 1) := by decide +kernel
theorem dL_law_914 : decode cL_law 914 = .ok (.invokevirtual 107, 3) := by decide +kernel
theorem dL_law_917 : decode cL_law 917 = .ok (.if_icmp .eq 110, 3) := by decide +kernel
theorem dL_law_920 : decode cL_law 920 = .ok (.iconst 0, 1) := by decide +kernel
theorem dL_law_921 : decode cL_law 921 = .ok (.ireturn, 1) := by decide +kernel
theorem dL_law_922 : decode cL_law 922 = .ok (.aload_n 1, 1) := by decide +kernel
theorem dL_law_923 : decode cL_law 923 = .ok (.aload_n 0, 1) := by decide +kernel
theorem dL_law_924 : decode cL_law 924 = .ok (.iload_n 3, 1) := by decide +kernel
theorem dL_law_925 : decode cL_law 925 = .ok (.iconst 1, 1) := by decide +kernel
theorem dL_law_926 : decode cL_law 926 = .ok (.iadd, 1) := by decide +kernel
theorem dL_law_927 : decode cL_law 927 = .ok (.iaload, 1) := by decide +kernel
theorem dL_law_928 : decode cL_law 928 = .ok (.aload_n 0, 1) := by decide +kernel
theorem dL_law_929 : decode cL_law 929 = .ok (.iload_n 3, 1) := by decide +kernel
theorem dL_law_930 : decode cL_law 930 = .ok (.iconst 2, 1) := by decide +kernel
theorem dL_law_931 : decode cL_law 931 = .ok (.iadd, 1) := by decide +kernel
theorem dL_law_932 : decode cL_law 932 = .ok (.iaload, 1) := by decide +kernel
theorem dL_law_933 : decode cL_law 933 = .ok (.aload_n 0, 1) := by decide +kernel
theorem dL_law_934 : decode cL_law 934 = .ok (.iload_n 3, 1) := by decide +kernel
theorem dL_law_935 : decode cL_law 935 = .ok (.iconst 3, 1) := by decide +kernel
theorem dL_law_936 : decode cL_law 936 = .ok (.iadd, 1) := by decide +kernel
theorem dL_law_937 : decode cL_law 937 = .ok (.iaload, 1) := by decide +kernel
theorem dL_law_938 : decode cL_law 938 = .ok (.invokevirtual 108, 3) := by decide +kernel
theorem dL_law_941 : decode cL_law 941 = .ok (.aload_n 2, 1) := by decide +kernel
theorem dL_law_942 : decode cL_law 942 = .ok (.aload_n 0, 1) := by decide +kernel
theorem dL_law_943 : decode cL_law 943 = .ok (.iload_n 3, 1) := by decide +kernel
theorem dL_law_944 : decode cL_law 944 = .ok (.iconst 1, 1) := by decide +kernel
theorem dL_law_945 : decode cL_law 945 = .ok (.iadd, 1) := by decide +kernel
theorem dL_law_946 : decode cL_law 946 = .ok (.iaload, 1) := by decide +kernel
theorem dL_law_947 : decode cL_law 947 = .ok (.aload_n 0, 1) := by decide +kernel
theorem dL_law_948 : decode cL_law 948 = .ok (.iload_n 3, 1) := by decide +kernel
theorem dL_law_949 : decode cL_law 949 = .ok (.iconst 2, 1) := by decide +kernel
theorem dL_law_950 : decode cL_law 950 = .ok (.iadd, 1) := by decide +kernel
theorem dL_law_951 : decode cL_law 951 = .ok (.iaload, 1) := by decide +kernel
theorem dL_law_952 : decode cL_law 952 = .ok (.aload_n 0, 1) := by decide +kernel
theorem dL_law_953 : decode cL_law 953 = .ok (.iload_n 3, 1) := by decide +kernel
theorem dL_law_954 : decode cL_law 954 = .ok (.iconst 3, 1) := by decide +kernel
theorem dL_law_955 : decode cL_law 955 = .ok (.iadd, 1) := by decide +kernel
theorem dL_law_956 : decode cL_law 956 = .ok (.iaload, 1) := by decide +kernel
theorem dL_law_957 : decode cL_law 957 = .ok (.invokevirtual 111, 3) := by decide +kernel
theorem dL_law_960 : decode cL_law 960 = .ok (.if_icmp .eq 67, 3) := by decide +kernel
theorem dL_law_963 : decode cL_law 963 = .ok (.iconst 0, 1) := by decide +kernel
theorem dL_law_964 : decode cL_law 964 = .ok (.ireturn, 1) := by decide +kernel
theorem dL_law_965 : decode cL_law 965 = .ok (.aload_n 1, 1) := by decide +kernel
theorem dL_law_966 : decode cL_law 966 = .ok (.aload_n 0, 1) := by decide +kernel
theorem dL_law_967 : decode cL_law 967 = .ok (.iload_n 3, 1) := by decide +kernel
theorem dL_law_968 : decode cL_law 968 = .ok (.iconst 1, 1) := by decide +kernel
theorem dL_law_969 : decode cL_law 969 = .ok (.iadd, 1) := by decide +kernel
theorem dL_law_970 : decode cL_law 970 = .ok (.iaload, 1) := by decide +kernel
theorem dL_law_971 : decode cL_law 971 = .ok (.invokevirtual 112, 3) := by decide +kernel
theorem dL_law_974 : decode cL_law 974 = .ok (.aload_n 2, 1) := by decide +kernel
theorem dL_law_975 : decode cL_law 975 = .ok (.aload_n 0, 1) := by decide +kernel
theorem dL_law_976 : decode cL_law 976 = .ok (.iload_n 3, 1) := by decide +kernel
theorem dL_law_977 : decode cL_law 977 = .ok (.iconst 1, 1) := by decide +kernel
theorem dL_law_978 : decode cL_law 978 = .ok (.iadd, 1) := by decide +kernel
theorem dL_law_979 : decode cL_law 979 = .ok (.iaload, 1) := by decide +kernel
theorem dL_law_980 : decode cL_law 980 = .ok (.invokevirtual 115, 3) := by decide +kernel
theorem dL_law_983 : decode cL_law 983 = .ok (.if_icmp .eq 44, 3) := by decide +kernel
theorem dL_law_986 : decode cL_law 986 = .ok (.iconst 0, 1) := by decide +kernel
theorem dL_law_987 : decode cL_law 987 = .ok (.ireturn, 1) := by decide +kernel
theorem dL_law_988 : decode cL_law 988 = .ok (.aload_n 1, 1) := by decide +kernel
theorem dL_law_989 : decode cL_law 989 = .ok (.invokevirtual 116, 3) := by decide +kernel
theorem dL_law_992 : decode cL_law 992 = .ok (.aload_n 2, 1) := by decide +kernel
theorem dL_law_993 : decode cL_law 993 = .ok (.invokevirtual 119, 3) := by decide +kernel
theorem dL_law_996 : decode cL_law 996 = .ok (.if_icmp .eq 31, 3) := by decide +kernel
theorem dL_law_999 : decode cL_law 999 = .ok (.iconst 0, 1) := by decide +kernel
theorem dL_law_1000 : decode cL_law 1000 = .ok (.ireturn, 1) := by decide +kernel
theorem dL_law_1001 : decode cL_law 1001 = .ok (.aload_n 1, 1) := by decide +kernel
theorem dL_law_1002 : decode cL_law 1002 = .ok (.invokevirtual 120, 3) := by decide +kernel
theorem dL_law_1005 : decode cL_law 1005 = .ok (.aload_n 2, 1) := by decide +kernel
theorem dL_law_1006 : decode cL_law 1006 = .ok (.invokevirtual 123, 3) := by decide +kernel
theorem dL_law_1009 : decode cL_law 1009 = .ok (.if_icmp .eq 18, 3) := by decide +kernel
theorem dL_law_1012 : decode cL_law 1012 = .ok (.iconst 0, 1) := by decide +kernel
theorem dL_law_1013 : decode cL_law 1013 = .ok (.ireturn, 1) := by decide +kernel
theorem dL_law_1014 : decode cL_law 1014 = .ok (.aload_n 1, 1) := by decide +kernel
theorem dL_law_1015 : decode cL_law 1015 = .ok (.invokevirtual 124, 3) := by decide +kernel
theorem dL_law_1018 : decode cL_law 1018 = .ok (.aload_n 2, 1) := by decide +kernel
theorem dL_law_1019 : decode cL_law 1019 = .ok (.invokevirtual 127, 3) := by decide +kernel
theorem dL_law_1022 : decode cL_law 1022 = .ok (.if_icmp .eq 5, 3) := by decide +kernel
theorem dL_law_1025 : decode cL_law 1025 = .ok (.iconst 0, 1) := by decide +kernel
theorem dL_law_1026 : decode cL_law 1026 = .ok (.ireturn, 1) := by decide +kernel
theorem dL_law_1027 : decode cL_law 1027 = .ok (.iinc 3 6, 3) := by decide +kernel
theorem dL_law_1030 : decode cL_law 1030 = .ok (.goto (-1012), 3) := by decide +kernel
theorem dL_law_1033 : decode cL_law 1033 = .ok (.iconst 1, 1) := by decide +kernel
theorem dL_law_1034 : decode cL_law 1034 = .ok (.ireturn, 1) := by decide +kernel
end
section
theorem dX10_init_0 : decode cX10_init 0 = .ok (.aload_n 0, 1) := by decide +kernel
theorem dX10_init_1 : decode cX10_init 1 = .ok (.invokespecial 1, 3) := by decide +kernel
theorem dX10_init_4 : decode cX10_init 4 = .ok (.aload_n 0, 1) := by decide +kernel
theorem dX10_init_5 : decode cX10_init 5 = .ok (.bipush 105, 2) := by decide +kernel
theorem dX10_init_7 : decode cX10_init 7 = .ok (.newarray .int, 2) := by decide +kernel
theorem dX10_init_9 : decode cX10_init 9 = .ok (.putfield 7, 3) := by decide +kernel
theorem dX10_init_12 : decode cX10_init 12 = .ok (.aload_n 0, 1) := by decide +kernel
theorem dX10_init_13 : decode cX10_init 13 = .ok (.sipush 840, 3) := by decide +kernel
theorem dX10_init_16 : decode cX10_init 16 = .ok (.newarray .int, 2) := by decide +kernel
theorem dX10_init_18 : decode cX10_init 18 = .ok (.putfield 13, 3) := by decide +kernel
theorem dX10_init_21 : decode cX10_init 21 = .ok (.aload_n 0, 1) := by decide +kernel
theorem dX10_init_22 : decode cX10_init 22 = .ok (.sipush 200, 3) := by decide +kernel
theorem dX10_init_25 : decode cX10_init 25 = .ok (.newarray .int, 2) := by decide +kernel
theorem dX10_init_27 : decode cX10_init 27 = .ok (.putfield 16, 3) := by decide +kernel
theorem dX10_init_30 : decode cX10_init 30 = .ok (.aload_n 0, 1) := by decide +kernel
theorem dX10_init_31 : decode cX10_init 31 = .ok (.sipush 605, 3) := by decide +kernel
theorem dX10_init_34 : decode cX10_init 34 = .ok (.newarray .long, 2) := by decide +kernel
theorem dX10_init_36 : decode cX10_init 36 = .ok (.putfield 19, 3) := by decide +kernel
theorem dX10_init_39 : decode cX10_init 39 = .ok (.aload_n 0, 1) := by decide +kernel
theorem dX10_init_40 : decode cX10_init 40 = .ok (.sipush 320, 3) := by decide +kernel
theorem dX10_init_43 : decode cX10_init 43 = .ok (.newarray .int, 2) := by decide +kernel
theorem dX10_init_45 : decode cX10_init 45 = .ok (.putfield 23, 3) := by decide +kernel
theorem dX10_init_48 : decode cX10_init 48 = .ok (.aload_n 0, 1) := by decide +kernel
theorem dX10_init_49 : decode cX10_init 49 = .ok (.sipush 3531, 3) := by decide +kernel
theorem dX10_init_52 : decode cX10_init 52 = .ok (.newarray .long, 2) := by decide +kernel
theorem dX10_init_54 : decode cX10_init 54 = .ok (.putfield 26, 3) := by decide +kernel
theorem dX10_init_57 : decode cX10_init 57 = .ok (.aload_n 0, 1) := by decide +kernel
theorem dX10_init_58 : decode cX10_init 58 = .ok (.sipush 7350, 3) := by decide +kernel
theorem dX10_init_61 : decode cX10_init 61 = .ok (.newarray .int, 2) := by decide +kernel
theorem dX10_init_63 : decode cX10_init 63 = .ok (.putfield 29, 3) := by decide +kernel
theorem dX10_init_66 : decode cX10_init 66 = .ok (.aload_n 0, 1) := by decide +kernel
theorem dX10_init_67 : decode cX10_init 67 = .ok (.sipush 280, 3) := by decide +kernel
theorem dX10_init_70 : decode cX10_init 70 = .ok (.newarray .int, 2) := by decide +kernel
theorem dX10_init_72 : decode cX10_init 72 = .ok (.putfield 32, 3) := by decide +kernel
theorem dX10_init_75 : decode cX10_init 75 = .ok (.aload_n 0, 1) := by decide +kernel
theorem dX10_init_76 : decode cX10_init 76 = .ok (.bipush 35, 2) := by decide +kernel
theorem dX10_init_78 : decode cX10_init 78 = .ok (.newarray .int, 2) := by decide +kernel
theorem dX10_init_80 : decode cX10_init 80 = .ok (.putfield 35, 3) := by decide +kernel
theorem dX10_init_83 : decode cX10_init 83 = .ok (.aload_n 0, 1) := by decide +kernel
theorem dX10_init_84 : decode cX10_init 84 = .ok (.bipush 35, 2) := by decide +kernel
theorem dX10_init_86 : decode cX10_init 86 = .ok (.newarray .int, 2) := by decide +kernel
theorem dX10_init_88 : decode cX10_init 88 = .ok (.putfield 38, 3) := by decide +kernel
theorem dX10_init_91 : decode cX10_init 91 = .ok (.aload_n 0, 1) := by decide +kernel
theorem dX10_init_92 : decode cX10_init 92 = .ok (.bipush 105, 2) := by decide +kernel
theorem dX10_init_94 : decode cX10_init 94 = .ok (.newarray .int, 2) := by decide +kernel
theorem dX10_init_96 : decode cX10_init 96 = .ok (.putfield 41, 3) := by decide +kernel
theorem dX10_init_99 : decode cX10_init 99 = .ok (.aload_n 0, 1) := by decide +kernel
theorem dX10_init_100 : decode cX10_init 100 = .ok (.getfield 7, 3) := by decide +kernel
theorem dX10_init_103 : decode cX10_init 103 = .ok (.iconst 0, 1) := by decide +kernel
theorem dX10_init_104 : decode cX10_init 104 = .ok (.iconst 2, 1) := by decide +kernel
theorem dX10_init_105 : decode cX10_init 105 = .ok (.iastore, 1) := by decide +kernel
theorem dX10_init_106 : decode cX10_init 106 = .ok (.aload_n 0, 1) := by decide +kernel
theorem dX10_init_107 : decode cX10_init 107 = .ok (.getfield 7, 3) := by decide +kernel
theorem dX10_init_110 : decode cX10_init 110 = .ok (.iconst 1, 1) := by decide +kernel
theorem dX10_init_111 : decode cX10_init 111 = .ok (.iconst 3, 1) := by decide +kernel
theorem dX10_init_112 : decode cX10_init 112 = .ok (.iastore, 1) := by decide +kernel
theorem dX10_init_113 : decode cX10_init 113 = .ok (.aload_n 0, 1) := by decide +kernel
theorem dX10_init_114 : decode cX10_init 114 = .ok (.getfield 7, 3) := by decide +kernel
theorem dX10_init_117 : decode cX10_init 117 = .ok (.iconst 4, 1) := by decide +kernel
theorem dX10_init_118 : decode cX10_init 118 = .ok (.iconst 1, 1) := by decide +kernel
theorem dX10_init_119 : decode cX10_init 119 = .ok (.iastore, 1) := by decide +kernel
theorem dX10_init_120 : decode cX10_init 120 = .ok (.return_, 1) := by decide +kernel
theorem dX10_isIn_0 : decode cX10_isIn 0 = .ok (.iload_n 0, 1) := by decide +kernel
theorem dX10_isIn_1 : decode cX10_isIn 1 = .ok (.iload_n 1, 1) := by decide +kernel
theorem dX10_isIn_2 : decode cX10_isIn 2 = .ok (.if_icmp .lt 12, 3) := by decide +kernel
theorem dX10_isIn_5 : decode cX10_isIn 5 = .ok (.iload_n 0, 1) := by decide +kernel
theorem dX10_isIn_6 : decode cX10_isIn 6 = .ok (.iload_n 2, 1) := by decide +kernel
theorem dX10_isIn_7 : decode cX10_isIn 7 = .ok (.if_icmp .gt 7, 3) := by decide +kernel
theorem dX10_isIn_10 : decode cX10_isIn 10 = .ok (.iconst 1, 1) := by decide +kernel
theorem dX10_isIn_11 : decode cX10_isIn 11 = .ok (.goto 4, 3) := by decide +kernel
theorem dX10_isIn_14 : decode cX10_isIn 14 = .ok (.iconst 0, 1) := by decide +kernel
theorem dX10_isIn_15 : decode cX10_isIn 15 = .ok (.ireturn, 1) := by decide +kernel
theorem dX10_isState_0 : decode cX10_isState 0 = .ok (.iload_n 1, 1) := by decide +kernel
theorem dX10_isState_1 : decode cX10_isState 1 = .ok (.iconst 0, 1) := by decide +kernel
theorem dX10_isState_2 : decode cX10_isState 2 = .ok (.aload_n 0, 1) := by decide +kernel
theorem dX10_isState_3 : decode cX10_isState 3 = .ok (.getfield 7, 3) := by decide +kernel
theorem dX10_isState_6 : decode cX10_isState 6 = .ok (.iconst 0, 1) := by decide +kernel
theorem dX10_isState_7 : decode cX10_isState 7 = .ok (.iaload, 1) := by decide +kernel
theorem dX10_isState_8 : decode cX10_isState 8 = .ok (.iconst 1, 1) := by decide +kernel
theorem dX10_isState_9 : decode cX10_isState 9 = .ok (.isub, 1) := by decide +kernel
theorem dX10_isState_10 : decode cX10_isState 10 = .ok (.invokestatic 44, 3) := by decide +kernel
theorem dX10_isState_13 : decode cX10_isState 13 = .ok (.ireturn, 1) := by decide +kernel
theorem dX10_isSymbol_0 : decode cX10_isSymbol 0 = .ok (.iload_n 1, 1) := by decide +kernel
theorem dX10_isSymbol_1 : decode cX10_isSymbol 1 = .ok (.iconst 1, 1) := by decide +kernel
theorem dX10_isSymbol_2 : decode cX10_isSymbol 2 = .ok (.aload_n 0, 1) := by decide +kernel
theorem dX10_isSymbol_3 : decode cX10_isSymbol 3 = .ok (.getfield 7, 3) := by decide +kernel
theorem dX10_isSymbol_6 : decode cX10_isSymbol 6 = .ok (.iconst 1, 1) := by decide +kernel
theorem dX10_isSymbol_7 : decode cX10_isSymbol 7 = .ok (.iaload, 1) := by decide +kernel
theorem dX10_isSymbol_8 : decode cX10_isSymbol 8 = .ok (.invokestatic 44, 3) := by decide +kernel
theorem dX10_isSymbol_11 : decode cX10_isSymbol 11 = .ok (.ireturn, 1) := by decide +kernel
theorem dX10_isRule_0 : decode cX10_isRule 0 = .ok (.iload_n 1, 1) := by decide +kernel
theorem dX10_isRule_1 : decode cX10_isRule 1 = .ok (.iconst 0, 1) := by decide +kernel
theorem dX10_isRule_2 : decode cX10_isRule 2 = .ok (.aload_n 0, 1) := by decide +kernel
theorem dX10_isRule_3 : decode cX10_isRule 3 = .ok (.getfield 7, 3) := by decide +kernel
theorem dX10_isRule_6 : decode cX10_isRule 6 = .ok (.iconst 2, 1) := by decide +kernel
theorem dX10_isRule_7 : decode cX10_isRule 7 = .ok (.iaload, 1) := by decide +kernel
theorem dX10_isRule_8 : decode cX10_isRule 8 = .ok (.iconst 1, 1) := by decide +kernel
theorem dX10_isRule_9 : decode cX10_isRule 9 = .ok (.isub, 1) := by decide +kernel
theorem dX10_isRule_10 : decode cX10_isRule 10 = .ok (.invokestatic 44, 3) := by decide +kernel
theorem dX10_isRule_13 : decode cX10_isRule 13 = .ok (.ireturn, 1) := by decide +kernel
theorem dX10_sizeOf_0 : decode cX10_sizeOf 0 = .ok (.iconst 0, 1) := by decide +kernel
theorem dX10_sizeOf_1 : decode cX10_sizeOf 1 = .ok (.istore_n 1, 1) := by decide +kernel
theorem dX10_sizeOf_2 : decode cX10_sizeOf 2 = .ok (.iload_n 0, 1) := by decide +kernel
theorem dX10_sizeOf_3 : decode cX10_sizeOf 3 = .ok (.istore_n 2, 1) := by decide +kernel
theorem dX10_sizeOf_4 : decode cX10_sizeOf 4 = .ok (.iload_n 2, 1) := by decide +kernel
theorem dX10_sizeOf_5 : decode cX10_sizeOf 5 = .ok (.ifCond .le 14, 3) := by decide +kernel
theorem dX10_sizeOf_8 : decode cX10_sizeOf 8 = .ok (.iinc 1 1, 3) := by decide +kernel
theorem dX10_sizeOf_11 : decode cX10_sizeOf 11 = .ok (.iload_n 2, 1) := by decide +kernel
theorem dX10_sizeOf_12 : decode cX10_sizeOf 12 = .ok (.bipush 10, 2) := by decide +kernel
theorem dX10_sizeOf_14 : decode cX10_sizeOf 14 = .ok (.idiv, 1) := by decide +kernel
theorem dX10_sizeOf_15 : decode cX10_sizeOf 15 = .ok (.istore_n 2, 1) := by decide +kernel
theorem dX10_sizeOf_16 : decode cX10_sizeOf 16 = .ok (.goto (-12), 3) := by decide +kernel
theorem dX10_sizeOf_19 : decode cX10_sizeOf 19 = .ok (.iload_n 1, 1) := by decide +kernel
theorem dX10_sizeOf_20 : decode cX10_sizeOf 20 = .ok (.ireturn, 1) := by decide +kernel
theorem dX10_isWord_0 : decode cX10_isWord 0 = .ok (.iload_n 1, 1) := by decide +kernel
theorem dX10_isWord_1 : decode cX10_isWord 1 = .ok (.ifCond .lt 19, 3) := by decide +kernel
theorem dX10_isWord_4 : decode cX10_isWord 4 = .ok (.iload_n 1, 1) := by decide +kernel
theorem dX10_isWord_5 : decode cX10_isWord 5 = .ok (.invokestatic 48, 3) := by decide +kernel
theorem dX10_isWord_8 : decode cX10_isWord 8 = .ok (.iload_n 2, 1) := by decide +kernel
theorem dX10_isWord_9 : decode cX10_isWord 9 = .ok (.iload_n 3, 1) := by decide +kernel
theorem dX10_isWord_10 : decode cX10_isWord 10 = .ok (.invokestatic 44, 3) := by decide +kernel
theorem dX10_isWord_13 : decode cX10_isWord 13 = .ok (.ifCond .eq 7, 3) := by decide +kernel
theorem dX10_isWord_16 : decode cX10_isWord 16 = .ok (.iconst 1, 1) := by decide +kernel
theorem dX10_isWord_17 : decode cX10_isWord 17 = .ok (.goto 4, 3) := by decide +kernel
theorem dX10_isWord_20 : decode cX10_isWord 20 = .ok (.iconst 0, 1) := by decide +kernel
theorem dX10_isWord_21 : decode cX10_isWord 21 = .ok (.istore 4, 2) := by decide +kernel
theorem dX10_isWord_23 : decode cX10_isWord 23 = .ok (.iload_n 1, 1) := by decide +kernel
theorem dX10_isWord_24 : decode cX10_isWord 24 = .ok (.istore 5, 2) := by decide +kernel
theorem dX10_isWord_26 : decode cX10_isWord 26 = .ok (.iload 5, 2) := by decide +kernel
theorem dX10_isWord_28 : decode cX10_isWord 28 = .ok (.ifCond .le 27, 3) := by decide +kernel
theorem dX10_isWord_31 : decode cX10_isWord 31 = .ok (.iload 4, 2) := by decide +kernel
theorem dX10_isWord_33 : decode cX10_isWord 33 = .ok (.aload_n 0, 1) := by decide +kernel
theorem dX10_isWord_34 : decode cX10_isWord 34 = .ok (.iload 5, 2) := by decide +kernel
theorem dX10_isWord_36 : decode cX10_isWord 36 = .ok (.bipush 10, 2) := by decide +kernel
theorem dX10_isWord_38 : decode cX10_isWord 38 = .ok (.irem, 1) := by decide +kernel
theorem dX10_isWord_39 : decode cX10_isWord 39 = .ok (.invokevirtual 52, 3) := by decide +kernel
theorem dX10_isWord_42 : decode cX10_isWord 42 = .ok (.iand, 1) := by decide +kernel
theorem dX10_isWord_43 : decode cX10_isWord 43 = .ok (.istore 4, 2) := by decide +kernel
theorem dX10_isWord_45 : decode cX10_isWord 45 = .ok (.iload 5, 2) := by decide +kernel
theorem dX10_isWord_47 : decode cX10_isWord 47 = .ok (.bipush 10, 2) := by decide +kernel
theorem dX10_isWord_49 : decode cX10_isWord 49 = .ok (.idiv, 1) := by decide +kernel
theorem dX10_isWord_50 : decode cX10_isWord 50 = .ok (.istore 5, 2) := by decide +kernel
theorem dX10_isWord_52 : decode cX10_isWord 52 = .ok (.goto (-26), 3) := by decide +kernel
theorem dX10_isWord_55 : decode cX10_isWord 55 = .ok (.iload 4, 2) := by decide +kernel
theorem dX10_isWord_57 : decode cX10_isWord 57 = .ok (.ireturn, 1) := by decide +kernel
theorem dX10_symbolOf_0 : decode cX10_symbolOf 0 = .ok (.iload_n 0, 1) := by decide +kernel
theorem dX10_symbolOf_1 : decode cX10_symbolOf 1 = .ok (.istore_n 3, 1) := by decide +kernel
theorem dX10_symbolOf_2 : decode cX10_symbolOf 2 = .ok (.iload_n 2, 1) := by decide +kernel
theorem dX10_symbolOf_3 : decode cX10_symbolOf 3 = .ok (.istore 4, 2) := by decide +kernel
theorem dX10_symbolOf_5 : decode cX10_symbolOf 5 = .ok (.iload 4, 2) := by decide +kernel
theorem dX10_symbolOf_7 : decode cX10_symbolOf 7 = .ok (.iload_n 1, 1) := by decide +kernel
theorem dX10_symbolOf_8 : decode cX10_symbolOf 8 = .ok (.iconst 1, 1) := by decide +kernel
theorem dX10_symbolOf_9 : decode cX10_symbolOf 9 = .ok (.isub, 1) := by decide +kernel
theorem dX10_symbolOf_10 : decode cX10_symbolOf 10 = .ok (.if_icmp .ge 14, 3) := by decide +kernel
theorem dX10_symbolOf_13 : decode cX10_symbolOf 13 = .ok (.iload_n 3, 1) := by decide +kernel
theorem dX10_symbolOf_14 : decode cX10_symbolOf 14 = .ok (.bipush 10, 2) := by decide +kernel
theorem dX10_symbolOf_16 : decode cX10_symbolOf 16 = .ok (.idiv, 1) := by decide +kernel
theorem dX10_symbolOf_17 : decode cX10_symbolOf 17 = .ok (.istore_n 3, 1) := by decide +kernel
theorem dX10_symbolOf_18 : decode cX10_symbolOf 18 = .ok (.iinc 4 1, 3) := by decide +kernel
theorem dX10_symbolOf_21 : decode cX10_symbolOf 21 = .ok (.goto (-16), 3) := by decide +kernel
theorem dX10_symbolOf_24 : decode cX10_symbolOf 24 = .ok (.iload_n 3, 1) := by decide +kernel
theorem dX10_symbolOf_25 : decode cX10_symbolOf 25 = .ok (.bipush 10, 2) := by decide +kernel
theorem dX10_symbolOf_27 : decode cX10_symbolOf 27 = .ok (.irem, 1) := by decide +kernel
theorem dX10_symbolOf_28 : decode cX10_symbolOf 28 = .ok (.ireturn, 1) := by decide +kernel
theorem dX10_of_0 : decode cX10_of 0 = .ok (.aload_n 0, 1) := by decide +kernel
theorem dX10_of_1 : decode cX10_of 1 = .ok (.getfield 7, 3) := by decide +kernel
theorem dX10_of_4 : decode cX10_of 4 = .ok (.iconst 5, 1) := by decide +kernel
theorem dX10_of_5 : decode cX10_of 5 = .ok (.iconst 5, 1) := by decide +kernel
theorem dX10_of_6 : decode cX10_of 6 = .ok (.iload_n 1, 1) := by decide +kernel
theorem dX10_of_7 : decode cX10_of 7 = .ok (.imul, 1) := by decide +kernel
theorem dX10_of_8 : decode cX10_of 8 = .ok (.iadd, 1) := by decide +kernel
theorem dX10_of_9 : decode cX10_of 9 = .ok (.iload_n 2, 1) := by decide +kernel
theorem dX10_of_10 : decode cX10_of 10 = .ok (.iadd, 1) := by decide +kernel
theorem dX10_of_11 : decode cX10_of 11 = .ok (.iaload, 1) := by decide +kernel
theorem dX10_of_12 : decode cX10_of 12 = .ok (.ireturn, 1) := by decide +kernel
theorem dX10_keep_0 : decode cX10_keep 0 = .ok (.aload_n 0, 1) := by decide +kernel
theorem dX10_keep_1 : decode cX10_keep 1 = .ok (.iconst 0, 1) := by decide +kernel
theorem dX10_keep_2 : decode cX10_keep 2 = .ok (.putfield 56, 3) := by decide +kernel
theorem dX10_keep_5 : decode cX10_keep 5 = .ok (.aload_n 0, 1) := by decide +kernel
theorem dX10_keep_6 : decode cX10_keep 6 = .ok (.getfield 60, 3) := by decide +kernel
theorem dX10_keep_9 : decode cX10_keep 9 = .ok (.bipush 8, 2) := by decide +kernel
theorem dX10_keep_11 : decode cX10_keep 11 = .ok (.if_icmp .ne 43, 3) := by decide +kernel
theorem dX10_keep_14 : decode cX10_keep 14 = .ok (.iconst 0, 1) := by decide +kernel
theorem dX10_keep_15 : decode cX10_keep 15 = .ok (.istore_n 1, 1) := by decide +kernel
theorem dX10_keep_16 : decode cX10_keep 16 = .ok (.iload_n 1, 1) := by decide +kernel
theorem dX10_keep_17 : decode cX10_keep 17 = .ok (.sipush 735, 3) := by decide +kernel
theorem dX10_keep_20 : decode cX10_keep 20 = .ok (.if_icmp .ge 24, 3) := by decide +kernel
theorem dX10_keep_23 : decode cX10_keep 23 = .ok (.aload_n 0, 1) := by decide +kernel
theorem dX10_keep_24 : decode cX10_keep 24 = .ok (.getfield 13, 3) := by decide +kernel
theorem dX10_keep_27 : decode cX10_keep 27 = .ok (.iload_n 1, 1) := by decide +kernel
theorem dX10_keep_28 : decode cX10_keep 28 = .ok (.aload_n 0, 1) := by decide +kernel
theorem dX10_keep_29 : decode cX10_keep 29 = .ok (.getfield 13, 3) := by decide +kernel
theorem dX10_keep_32 : decode cX10_keep 32 = .ok (.iload_n 1, 1) := by decide +kernel
theorem dX10_keep_33 : decode cX10_keep 33 = .ok (.bipush 105, 2) := by decide +kernel
theorem dX10_keep_35 : decode cX10_keep 35 = .ok (.iadd, 1) := by decide +kernel
theorem dX10_keep_36 : decode cX10_keep 36 = .ok (.iaload, 1) := by decide +kernel
theorem dX10_keep_37 : decode cX10_keep 37 = .ok (.iastore, 1) := by decide +kernel
theorem dX10_keep_38 : decode cX10_keep 38 = .ok (.iinc 1 1, 3) := by decide +kernel
theorem dX10_keep_41 : decode cX10_keep 41 = .ok (.goto (-25), 3) := by decide +kernel
theorem dX10_keep_44 : decode cX10_keep 44 = .ok (.aload_n 0, 1) := by decide +kernel
theorem dX10_keep_45 : decode cX10_keep 45 = .ok (.dup, 1) := by decide +kernel
theorem dX10_keep_46 : decode cX10_keep 46 = .ok (.getfield 60, 3) := by decide +kernel
theorem dX10_keep_49 : decode cX10_keep 49 = .ok (.iconst 1, 1) := by decide +kernel
theorem dX10_keep_50 : decode cX10_keep 50 = .ok (.isub, 1) := by decide +kernel
theorem dX10_keep_51 : decode cX10_keep 51 = .ok (.putfield 60, 3) := by decide +kernel
theorem dX10_keep_54 : decode cX10_keep 54 = .ok (.iconst 0, 1) := by decide +kernel
theorem dX10_keep_55 : decode cX10_keep 55 = .ok (.istore_n 1, 1) := by decide +kernel
theorem dX10_keep_56 : decode cX10_keep 56 = .ok (.iload_n 1, 1) := by decide +kernel
theorem dX10_keep_57 : decode cX10_keep 57 = .ok (.bipush 105, 2) := by decide +kernel
theorem dX10_keep_59 : decode cX10_keep 59 = .ok (.if_icmp .ge 29, 3) := by decide +kernel
theorem dX10_keep_62 : decode cX10_keep 62 = .ok (.aload_n 0, 1) := by decide +kernel
theorem dX10_keep_63 : decode cX10_keep 63 = .ok (.getfield 13, 3) := by decide +kernel
theorem dX10_keep_66 : decode cX10_keep 66 = .ok (.bipush 105, 2) := by decide +kernel
theorem dX10_keep_68 : decode cX10_keep 68 = .ok (.aload_n 0, 1) := by decide +kernel
theorem dX10_keep_69 : decode cX10_keep 69 = .ok (.getfield 60, 3) := by decide +kernel
theorem dX10_keep_72 : decode cX10_keep 72 = .ok (.imul, 1) := by decide +kernel
theorem dX10_keep_73 : decode cX10_keep 73 = .ok (.iload_n 1, 1) := by decide +kernel
theorem dX10_keep_74 : decode cX10_keep 74 = .ok (.iadd, 1) := by decide +kernel
theorem dX10_keep_75 : decode cX10_keep 75 = .ok (.aload_n 0, 1) := by decide +kernel
theorem dX10_keep_76 : decode cX10_keep 76 = .ok (.getfield 7, 3) := by decide +kernel
theorem dX10_keep_79 : decode cX10_keep 79 = .ok (.iload_n 1, 1) := by decide +kernel
theorem dX10_keep_80 : decode cX10_keep 80 = .ok (.iaload, 1) := by decide +kernel
theorem dX10_keep_81 : decode cX10_keep 81 = .ok (.iastore, 1) := by decide +kernel
theorem dX10_keep_82 : decode cX10_keep 82 = .ok (.iinc 1 1, 3) := by decide +kernel
theorem dX10_keep_85 : decode cX10_keep 85 = .ok (.goto (-29), 3) := by decide +kernel
theorem dX10_keep_88 : decode cX10_keep 88 = .ok (.aload_n 0, 1) := by decide +kernel
theorem dX10_keep_89 : decode cX10_keep 89 = .ok (.dup, 1) := by decide +kernel
theorem dX10_keep_90 : decode cX10_keep 90 = .ok (.getfield 60, 3) := by decide +kernel
theorem dX10_keep_93 : decode cX10_keep 93 = .ok (.iconst 1, 1) := by decide +kernel
theorem dX10_keep_94 : decode cX10_keep 94 = .ok (.iadd, 1) := by decide +kernel
theorem dX10_keep_95 : decode cX10_keep 95 = .ok (.putfield 60, 3) := by decide +kernel
theorem dX10_keep_98 : decode cX10_keep 98 = .ok (.return_, 1) := by decide +kernel
theorem dX10_begin_0 : decode cX10_begin 0 = .ok (.iload_n 1, 1) := by decide +kernel
theorem dX10_begin_1 : decode cX10_begin 1 = .ok (.iconst 1, 1) := by decide +kernel
theorem dX10_begin_2 : decode cX10_begin 2 = .ok (.iconst 4, 1) := by decide +kernel
theorem dX10_begin_3 : decode cX10_begin 3 = .ok (.invokestatic 44, 3) := by decide +kernel
theorem dX10_begin_6 : decode cX10_begin 6 = .ok (.ifCond .eq 12, 3) := by decide +kernel
theorem dX10_begin_9 : decode cX10_begin 9 = .ok (.iload_n 2, 1) := by decide +kernel
theorem dX10_begin_10 : decode cX10_begin 10 = .ok (.iconst 1, 1) := by decide +kernel
theorem dX10_begin_11 : decode cX10_begin 11 = .ok (.iconst 5, 1) := by decide +kernel
theorem dX10_begin_12 : decode cX10_begin 12 = .ok (.invokestatic 44, 3) := by decide +kernel
theorem dX10_begin_15 : decode cX10_begin 15 = .ok (.ifCond .ne 6, 3) := by decide +kernel
theorem dX10_begin_18 : decode cX10_begin 18 = .ok (.bipush (-2), 2) := by decide +kernel
theorem dX10_begin_20 : decode cX10_begin 20 = .ok (.ireturn, 1) := by decide +kernel
theorem dX10_begin_21 : decode cX10_begin 21 = .ok (.aload_n 0, 1) := by decide +kernel
theorem dX10_begin_22 : decode cX10_begin 22 = .ok (.invokevirtual 64, 3) := by decide +kernel
theorem dX10_begin_25 : decode cX10_begin 25 = .ok (.aload_n 0, 1) := by decide +kernel
theorem dX10_begin_26 : decode cX10_begin 26 = .ok (.getfield 7, 3) := by decide +kernel
theorem dX10_begin_29 : decode cX10_begin 29 = .ok (.iconst 2, 1) := by decide +kernel
theorem dX10_begin_30 : decode cX10_begin 30 = .ok (.iaload, 1) := by decide +kernel
theorem dX10_begin_31 : decode cX10_begin 31 = .ok (.istore_n 3, 1) := by decide +kernel
theorem dX10_begin_32 : decode cX10_begin 32 = .ok (.aload_n 0, 1) := by decide +kernel
theorem dX10_begin_33 : decode cX10_begin 33 = .ok (.getfield 7, 3) := by decide +kernel
theorem dX10_begin_36 : decode cX10_begin 36 = .ok (.iconst 0, 1) := by decide +kernel
theorem dX10_begin_37 : decode cX10_begin 37 = .ok (.iload_n 1, 1) := by decide +kernel
theorem dX10_begin_38 : decode cX10_begin 38 = .ok (.iastore, 1) := by decide +kernel
theorem dX10_begin_39 : decode cX10_begin 39 = .ok (.aload_n 0, 1) := by decide +kernel
theorem dX10_begin_40 : decode cX10_begin 40 = .ok (.getfield 7, 3) := by decide +kernel
theorem dX10_begin_43 : decode cX10_begin 43 = .ok (.iconst 1, 1) := by decide +kernel
theorem dX10_begin_44 : decode cX10_begin 44 = .ok (.iload_n 2, 1) := by decide +kernel
theorem dX10_begin_45 : decode cX10_begin 45 = .ok (.iastore, 1) := by decide +kernel
theorem dX10_begin_46 : decode cX10_begin 46 = .ok (.aload_n 0, 1) := by decide +kernel
theorem dX10_begin_47 : decode cX10_begin 47 = .ok (.getfield 7, 3) := by decide +kernel
theorem dX10_begin_50 : decode cX10_begin 50 = .ok (.iconst 2, 1) := by decide +kernel
theorem dX10_begin_51 : decode cX10_begin 51 = .ok (.iconst 0, 1) := by decide +kernel
theorem dX10_begin_52 : decode cX10_begin 52 = .ok (.iastore, 1) := by decide +kernel
theorem dX10_begin_53 : decode cX10_begin 53 = .ok (.aload_n 0, 1) := by decide +kernel
theorem dX10_begin_54 : decode cX10_begin 54 = .ok (.getfield 7, 3) := by decide +kernel
theorem dX10_begin_57 : decode cX10_begin 57 = .ok (.iconst 3, 1) := by decide +kernel
theorem dX10_begin_58 : decode cX10_begin 58 = .ok (.iconst 0, 1) := by decide +kernel
theorem dX10_begin_59 : decode cX10_begin 59 = .ok (.iastore, 1) := by decide +kernel
theorem dX10_begin_60 : decode cX10_begin 60 = .ok (.aload_n 0, 1) := by decide +kernel
theorem dX10_begin_61 : decode cX10_begin 61 = .ok (.getfield 7, 3) := by decide +kernel
theorem dX10_begin_64 : decode cX10_begin 64 = .ok (.iconst 4, 1) := by decide +kernel
theorem dX10_begin_65 : decode cX10_begin 65 = .ok (.iconst 1, 1) := by decide +kernel
theorem dX10_begin_66 : decode cX10_begin 66 = .ok (.iastore, 1) := by decide +kernel
theorem dX10_begin_67 : decode cX10_begin 67 = .ok (.iload_n 3, 1) := by decide +kernel
theorem dX10_begin_68 : decode cX10_begin 68 = .ok (.ireturn, 1) := by decide +kernel
theorem dX10_lay_0 : decode cX10_lay 0 = .ok (.aload_n 0, 1) := by decide +kernel
theorem dX10_lay_1 : decode cX10_lay 1 = .ok (.getfield 7, 3) := by decide +kernel
theorem dX10_lay_4 : decode cX10_lay 4 = .ok (.iconst 5, 1) := by decide +kernel
theorem dX10_lay_5 : decode cX10_lay 5 = .ok (.iconst 5, 1) := by decide +kernel
theorem dX10_lay_6 : decode cX10_lay 6 = .ok (.iload_n 1, 1) := by decide +kernel
theorem dX10_lay_7 : decode cX10_lay 7 = .ok (.imul, 1) := by decide +kernel
theorem dX10_lay_8 : decode cX10_lay 8 = .ok (.iadd, 1) := by decide +kernel
theorem dX10_lay_9 : decode cX10_lay 9 = .ok (.iconst 0, 1) := by decide +kernel
theorem dX10_lay_10 : decode cX10_lay 10 = .ok (.iadd, 1) := by decide +kernel
theorem dX10_lay_11 : decode cX10_lay 11 = .ok (.iload_n 2, 1) := by decide +kernel
theorem dX10_lay_12 : decode cX10_lay 12 = .ok (.iastore, 1) := by decide +kernel
theorem dX10_lay_13 : decode cX10_lay 13 = .ok (.aload_n 0, 1) := by decide +kernel
theorem dX10_lay_14 : decode cX10_lay 14 = .ok (.getfield 7, 3) := by decide +kernel
theorem dX10_lay_17 : decode cX10_lay 17 = .ok (.iconst 5, 1) := by decide +kernel
theorem dX10_lay_18 : decode cX10_lay 18 = .ok (.iconst 5, 1) := by decide +kernel
theorem dX10_lay_19 : decode cX10_lay 19 = .ok (.iload_n 1, 1) := by decide +kernel
theorem dX10_lay_20 : decode cX10_lay 20 = .ok (.imul, 1) := by decide +kernel
theorem dX10_lay_21 : decode cX10_lay 21 = .ok (.iadd, 1) := by decide +kernel
theorem dX10_lay_22 : decode cX10_lay 22 = .ok (.iconst 1, 1) := by decide +kernel
theorem dX10_lay_23 : decode cX10_lay 23 = .ok (.iadd, 1) := by decide +kernel
theorem dX10_lay_24 : decode cX10_lay 24 = .ok (.iload_n 3, 1) := by decide +kernel
theorem dX10_lay_25 : decode cX10_lay 25 = .ok (.iastore, 1) := by decide +kernel
theorem dX10_lay_26 : decode cX10_lay 26 = .ok (.aload_n 0, 1) := by decide +kernel
theorem dX10_lay_27 : decode cX10_lay 27 = .ok (.getfield 7, 3) := by decide +kernel
theorem dX10_lay_30 : decode cX10_lay 30 = .ok (.iconst 5, 1) := by decide +kernel
theorem dX10_lay_31 : decode cX10_lay 31 = .ok (.iconst 5, 1) := by decide +kernel
theorem dX10_lay_32 : decode cX10_lay 32 = .ok (.iload_n 1, 1) := by decide +kernel
theorem dX10_lay_33 : decode cX10_lay 33 = .ok (.imul, 1) := by decide +kernel
theorem dX10_lay_34 : decode cX10_lay 34 = .ok (.iadd, 1) := by decide +kernel
theorem dX10_lay_35 : decode cX10_lay 35 = .ok (.iconst 2, 1) := by decide +kernel
theorem dX10_lay_36 : decode cX10_lay 36 = .ok (.iadd, 1) := by decide +kernel
theorem dX10_lay_37 : decode cX10_lay 37 = .ok (.iload 4, 2) := by decide +kernel
theorem dX10_lay_39 : decode cX10_lay 39 = .ok (.iastore, 1) := by decide +kernel
theorem dX10_lay_40 : decode cX10_lay 40 = .ok (.aload_n 0, 1) := by decide +kernel
theorem dX10_lay_41 : decode cX10_lay 41 = .ok (.getfield 7, 3) := by decide +kernel
theorem dX10_lay_44 : decode cX10_lay 44 = .ok (.iconst 5, 1) := by decide +kernel
theorem dX10_lay_45 : decode cX10_lay 45 = .ok (.iconst 5, 1) := by decide +kernel
theorem dX10_lay_46 : decode cX10_lay 46 = .ok (.iload_n 1, 1) := by decide +kernel
theorem dX10_lay_47 : decode cX10_lay 47 = .ok (.imul, 1) := by decide +kernel
theorem dX10_lay_48 : decode cX10_lay 48 = .ok (.iadd, 1) := by decide +kernel
theorem dX10_lay_49 : decode cX10_lay 49 = .ok (.iconst 3, 1) := by decide +kernel
theorem dX10_lay_50 : decode cX10_lay 50 = .ok (.iadd, 1) := by decide +kernel
theorem dX10_lay_51 : decode cX10_lay 51 = .ok (.iload 5, 2) := by decide +kernel
theorem dX10_lay_53 : decode cX10_lay 53 = .ok (.iastore, 1) := by decide +kernel
theorem dX10_lay_54 : decode cX10_lay 54 = .ok (.aload_n 0, 1) := by decide +kernel
theorem dX10_lay_55 : decode cX10_lay 55 = .ok (.getfield 7, 3) := by decide +kernel
theorem dX10_lay_58 : decode cX10_lay 58 = .ok (.iconst 5, 1) := by decide +kernel
theorem dX10_lay_59 : decode cX10_lay 59 = .ok (.iconst 5, 1) := by decide +kernel
theorem dX10_lay_60 : decode cX10_lay 60 = .ok (.iload_n 1, 1) := by decide +kernel
theorem dX10_lay_61 : decode cX10_lay 61 = .ok (.imul, 1) := by decide +kernel
theorem dX10_lay_62 : decode cX10_lay 62 = .ok (.iadd, 1) := by decide +kernel
theorem dX10_lay_63 : decode cX10_lay 63 = .ok (.iconst 4, 1) := by decide +kernel
theorem dX10_lay_64 : decode cX10_lay 64 = .ok (.iadd, 1) := by decide +kernel
theorem dX10_lay_65 : decode cX10_lay 65 = .ok (.iload 6, 2) := by decide +kernel
theorem dX10_lay_67 : decode cX10_lay 67 = .ok (.iastore, 1) := by decide +kernel
theorem dX10_lay_68 : decode cX10_lay 68 = .ok (.return_, 1) := by decide +kernel
theorem dX10_isThere_0 : decode cX10_isThere 0 = .ok (.iconst 0, 1) := by decide +kernel
theorem dX10_isThere_1 : decode cX10_isThere 1 = .ok (.istore 5, 2) := by decide +kernel
theorem dX10_isThere_3 : decode cX10_isThere 3 = .ok (.iconst 0, 1) := by decide +kernel
theorem dX10_isThere_4 : decode cX10_isThere 4 = .ok (.istore 6, 2) := by decide +kernel
theorem dX10_isThere_6 : decode cX10_isThere 6 = .ok (.iload 6, 2) := by decide +kernel
theorem dX10_isThere_8 : decode cX10_isThere 8 = .ok (.aload_n 0, 1) := by decide +kernel
theorem dX10_isThere_9 : decode cX10_isThere 9 = .ok (.getfield 7, 3) := by decide +kernel
theorem dX10_isThere_12 : decode cX10_isThere 12 = .ok (.iconst 2, 1) := by decide +kernel
theorem dX10_isThere_13 : decode cX10_isThere 13 = .ok (.iaload, 1) := by decide +kernel
theorem dX10_isThere_14 : decode cX10_isThere 14 = .ok (.if_icmp .ge 64, 3) := by decide +kernel
theorem dX10_isThere_17 : decode cX10_isThere 17 = .ok (.iload 5, 2) := by decide +kernel
theorem dX10_isThere_19 : decode cX10_isThere 19 = .ok (.aload_n 0, 1) := by decide +kernel
theorem dX10_isThere_20 : decode cX10_isThere 20 = .ok (.iload 6, 2) := by decide +kernel
theorem dX10_isThere_22 : decode cX10_isThere 22 = .ok (.iconst 0, 1) := by decide +kernel
theorem dX10_isThere_23 : decode cX10_isThere 23 = .ok (.invokevirtual 67, 3) := by decide +kernel
theorem dX10_isThere_26 : decode cX10_isThere 26 = .ok (.iload_n 1, 1) := by decide +kernel
theorem dX10_isThere_27 : decode cX10_isThere 27 = .ok (.if_icmp .ne 41, 3) := by decide +kernel
theorem dX10_isThere_30 : decode cX10_isThere 30 = .ok (.aload_n 0, 1) := by decide +kernel
theorem dX10_isThere_31 : decode cX10_isThere 31 = .ok (.iload 6, 2) := by decide +kernel
theorem dX10_isThere_33 : decode cX10_isThere 33 = .ok (.iconst 1, 1) := by decide +kernel
theorem dX10_isThere_34 : decode cX10_isThere 34 = .ok (.invokevirtual 67, 3) := by decide +kernel
theorem dX10_isThere_37 : decode cX10_isThere 37 = .ok (.iload_n 2, 1) := by decide +kernel
theorem dX10_isThere_38 : decode cX10_isThere 38 = .ok (.if_icmp .ne 30, 3) := by decide +kernel
theorem dX10_isThere_41 : decode cX10_isThere 41 = .ok (.aload_n 0, 1) := by decide +kernel
theorem dX10_isThere_42 : decode cX10_isThere 42 = .ok (.iload 6, 2) := by decide +kernel
theorem dX10_isThere_44 : decode cX10_isThere 44 = .ok (.iconst 2, 1) := by decide +kernel
theorem dX10_isThere_45 : decode cX10_isThere 45 = .ok (.invokevirtual 67, 3) := by decide +kernel
theorem dX10_isThere_48 : decode cX10_isThere 48 = .ok (.iload_n 3, 1) := by decide +kernel
theorem dX10_isThere_49 : decode cX10_isThere 49 = .ok (.if_icmp .ne 19, 3) := by decide +kernel
theorem dX10_isThere_52 : decode cX10_isThere 52 = .ok (.aload_n 0, 1) := by decide +kernel
theorem dX10_isThere_53 : decode cX10_isThere 53 = .ok (.iload 6, 2) := by decide +kernel
theorem dX10_isThere_55 : decode cX10_isThere 55 = .ok (.iconst 3, 1) := by decide +kernel
theorem dX10_isThere_56 : decode cX10_isThere 56 = .ok (.invokevirtual 67, 3) := by decide +kernel
theorem dX10_isThere_59 : decode cX10_isThere 59 = .ok (.iload 4, 2) := by decide +kernel
theorem dX10_isThere_61 : decode cX10_isThere 61 = .ok (.if_icmp .ne 7, 3) := by decide +kernel
theorem dX10_isThere_64 : decode cX10_isThere 64 = .ok (.iconst 1, 1) := by decide +kernel
theorem dX10_isThere_65 : decode cX10_isThere 65 = .ok (.goto 4, 3) := by decide +kernel
theorem dX10_isThere_68 : decode cX10_isThere 68 = .ok (.iconst 0, 1) := by decide +kernel
theorem dX10_isThere_69 : decode cX10_isThere 69 = .ok (.ior, 1) := by decide +kernel
theorem dX10_isThere_70 : decode cX10_isThere 70 = .ok (.istore 5, 2) := by decide +kernel
theorem dX10_isThere_72 : decode cX10_isThere 72 = .ok (.iinc 6 1, 3) := by decide +kernel
theorem dX10_isThere_75 : decode cX10_isThere 75 = .ok (.goto (-69), 3) := by decide +kernel
theorem dX10_isThere_78 : decode cX10_isThere 78 = .ok (.iload 5, 2) := by decide +kernel
theorem dX10_isThere_80 : decode cX10_isThere 80 = .ok (.ireturn, 1) := by decide +kernel
theorem dX10_addRule_0 : decode cX10_addRule 0 = .ok (.aload_n 0, 1) := by decide +kernel
theorem dX10_addRule_1 : decode cX10_addRule 1 = .ok (.iload_n 1, 1) := by decide +kernel
theorem dX10_addRule_2 : decode cX10_addRule 2 = .ok (.invokevirtual 71, 3) := by decide +kernel
theorem dX10_addRule_5 : decode cX10_addRule 5 = .ok (.ifCond .eq 30, 3) := by decide +kernel
theorem dX10_addRule_8 : decode cX10_addRule 8 = .ok (.aload_n 0, 1) := by decide +kernel
theorem dX10_addRule_9 : decode cX10_addRule 9 = .ok (.iload_n 2, 1) := by decide +kernel
theorem dX10_addRule_10 : decode cX10_addRule 10 = .ok (.invokevirtual 52, 3) := by decide +kernel
theorem dX10_addRule_13 : decode cX10_addRule 13 = .ok (.ifCond .eq 22, 3) := by decide +kernel
theorem dX10_addRule_16 : decode cX10_addRule 16 = .ok (.aload_n 0, 1) := by decide +kernel
theorem dX10_addRule_17 : decode cX10_addRule 17 = .ok (.iload_n 3, 1) := by decide +kernel
theorem dX10_addRule_18 : decode cX10_addRule 18 = .ok (.invokevirtual 71, 3) := by decide +kernel
theorem dX10_addRule_21 : decode cX10_addRule 21 = .ok (.ifCond .eq 14, 3) := by decide +kernel
theorem dX10_addRule_24 : decode cX10_addRule 24 = .ok (.aload_n 0, 1) := by decide +kernel
theorem dX10_addRule_25 : decode cX10_addRule 25 = .ok (.iload 4, 2) := by decide +kernel
theorem dX10_addRule_27 : decode cX10_addRule 27 = .ok (.iconst 0, 1) := by decide +kernel
theorem dX10_addRule_28 : decode cX10_addRule 28 = .ok (.iconst 2, 1) := by decide +kernel
theorem dX10_addRule_29 : decode cX10_addRule 29 = .ok (.invokevirtual 74, 3) := by decide +kernel
theorem dX10_addRule_32 : decode cX10_addRule 32 = .ok (.ifCond .ne 5, 3) := by decide +kernel
theorem dX10_addRule_35 : decode cX10_addRule 35 = .ok (.iconst (-1), 1) := by decide +kernel
theorem dX10_addRule_36 : decode cX10_addRule 36 = .ok (.ireturn, 1) := by decide +kernel
theorem dX10_addRule_37 : decode cX10_addRule 37 = .ok (.iload 5, 2) := by decide +kernel
theorem dX10_addRule_39 : decode cX10_addRule 39 = .ok (.iconst 1, 1) := by decide +kernel
theorem dX10_addRule_40 : decode cX10_addRule 40 = .ok (.bipush 20, 2) := by decide +kernel
theorem dX10_addRule_42 : decode cX10_addRule 42 = .ok (.invokestatic 44, 3) := by decide +kernel
theorem dX10_addRule_45 : decode cX10_addRule 45 = .ok (.ifCond .ne 6, 3) := by decide +kernel
theorem dX10_addRule_48 : decode cX10_addRule 48 = .ok (.bipush (-2), 2) := by decide +kernel
theorem dX10_addRule_50 : decode cX10_addRule 50 = .ok (.ireturn, 1) := by decide +kernel
theorem dX10_addRule_51 : decode cX10_addRule 51 = .ok (.aload_n 0, 1) := by decide +kernel
theorem dX10_addRule_52 : decode cX10_addRule 52 = .ok (.iload_n 1, 1) := by decide +kernel
theorem dX10_addRule_53 : decode cX10_addRule 53 = .ok (.iload_n 2, 1) := by decide +kernel
theorem dX10_addRule_54 : decode cX10_addRule 54 = .ok (.iload_n 3, 1) := by decide +kernel
theorem dX10_addRule_55 : decode cX10_addRule 55 = .ok (.iload 4, 2) := by decide +kernel
theorem dX10_addRule_57 : decode cX10_addRule 57 = .ok (.invokevirtual 77, 3) := by decide +kernel
theorem dX10_addRule_60 : decode cX10_addRule 60 = .ok (.ifCond .eq 6, 3) := by decide +kernel
theorem dX10_addRule_63 : decode cX10_addRule 63 = .ok (.bipush (-3), 2) := by decide +kernel
theorem dX10_addRule_65 : decode cX10_addRule 65 = .ok (.ireturn, 1) := by decide +kernel
theorem dX10_addRule_66 : decode cX10_addRule 66 = .ok (.aload_n 0, 1) := by decide +kernel
theorem dX10_addRule_67 : decode cX10_addRule 67 = .ok (.getfield 7, 3) := by decide +kernel
theorem dX10_addRule_70 : decode cX10_addRule 70 = .ok (.iconst 2, 1) := by decide +kernel
theorem dX10_addRule_71 : decode cX10_addRule 71 = .ok (.iaload, 1) := by decide +kernel
theorem dX10_addRule_72 : decode cX10_addRule 72 = .ok (.bipush 20, 2) := by decide +kernel
theorem dX10_addRule_74 : decode cX10_addRule 74 = .ok (.if_icmp .ne 6, 3) := by decide +kernel
theorem dX10_addRule_77 : decode cX10_addRule 77 = .ok (.bipush (-4), 2) := by decide +kernel
theorem dX10_addRule_79 : decode cX10_addRule 79 = .ok (.ireturn, 1) := by decide +kernel
theorem dX10_addRule_80 : decode cX10_addRule 80 = .ok (.aload_n 0, 1) := by decide +kernel
theorem dX10_addRule_81 : decode cX10_addRule 81 = .ok (.invokevirtual 64, 3) := by decide +kernel
theorem dX10_addRule_84 : decode cX10_addRule 84 = .ok (.aload_n 0, 1) := by decide +kernel
theorem dX10_addRule_85 : decode cX10_addRule 85 = .ok (.aload_n 0, 1) := by decide +kernel
theorem dX10_addRule_86 : decode cX10_addRule 86 = .ok (.getfield 7, 3) := by decide +kernel
theorem dX10_addRule_89 : decode cX10_addRule 89 = .ok (.iconst 2, 1) := by decide +kernel
theorem dX10_addRule_90 : decode cX10_addRule 90 = .ok (.iaload, 1) := by decide +kernel
theorem dX10_addRule_91 : decode cX10_addRule 91 = .ok (.iload_n 1, 1) := by decide +kernel
theorem dX10_addRule_92 : decode cX10_addRule 92 = .ok (.iload_n 2, 1) := by decide +kernel
theorem dX10_addRule_93 : decode cX10_addRule 93 = .ok (.iload_n 3, 1) := by decide +kernel
theorem dX10_addRule_94 : decode cX10_addRule 94 = .ok (.iload 4, 2) := by decide +kernel
theorem dX10_addRule_96 : decode cX10_addRule 96 = .ok (.iload 5, 2) := by decide +kernel
theorem dX10_addRule_98 : decode cX10_addRule 98 = .ok (.invokevirtual 81, 3) := by decide +kernel
theorem dX10_addRule_101 : decode cX10_addRule 101 = .ok (.aload_n 0, 1) := by decide +kernel
theorem dX10_addRule_102 : decode cX10_addRule 102 = .ok (.getfield 7, 3) := by decide +kernel
theorem dX10_addRule_105 : decode cX10_addRule 105 = .ok (.iconst 2, 1) := by decide +kernel
theorem dX10_addRule_106 : decode cX10_addRule 106 = .ok (.dup2, 1) := by decide +kernel
theorem dX10_addRule_107 : decode cX10_addRule 107 = .ok (.iaload, 1) := by decide +kernel
theorem dX10_addRule_108 : decode cX10_addRule 108 = .ok (.iconst 1, 1) := by decide +kernel
theorem dX10_addRule_109 : decode cX10_addRule 109 = .ok (.iadd, 1) := by decide +kernel
theorem dX10_addRule_110 : decode cX10_addRule 110 = .ok (.iastore, 1) := by decide +kernel
theorem dX10_addRule_111 : decode cX10_addRule 111 = .ok (.aload_n 0, 1) := by decide +kernel
theorem dX10_addRule_112 : decode cX10_addRule 112 = .ok (.getfield 7, 3) := by decide +kernel
theorem dX10_addRule_115 : decode cX10_addRule 115 = .ok (.iconst 2, 1) := by decide +kernel
theorem dX10_addRule_116 : decode cX10_addRule 116 = .ok (.iaload, 1) := by decide +kernel
theorem dX10_addRule_117 : decode cX10_addRule 117 = .ok (.iconst 1, 1) := by decide +kernel
theorem dX10_addRule_118 : decode cX10_addRule 118 = .ok (.isub, 1) := by decide +kernel
theorem dX10_addRule_119 : decode cX10_addRule 119 = .ok (.ireturn, 1) := by decide +kernel
theorem dX10_removeRule_0 : decode cX10_removeRule 0 = .ok (.aload_n 0, 1) := by decide +kernel
theorem dX10_removeRule_1 : decode cX10_removeRule 1 = .ok (.iload_n 1, 1) := by decide +kernel
theorem dX10_removeRule_2 : decode cX10_removeRule 2 = .ok (.invokevirtual 85, 3) := by decide +kernel
theorem dX10_removeRule_5 : decode cX10_removeRule 5 = .ok (.ifCond .ne 5, 3) := by decide +kernel
theorem dX10_removeRule_8 : decode cX10_removeRule 8 = .ok (.iconst (-1), 1) := by decide +kernel
theorem dX10_removeRule_9 : decode cX10_removeRule 9 = .ok (.ireturn, 1) := by decide +kernel
theorem dX10_removeRule_10 : decode cX10_removeRule 10 = .ok (.aload_n 0, 1) := by decide +kernel
theorem dX10_removeRule_11 : decode cX10_removeRule 11 = .ok (.invokevirtual 64, 3) := by decide +kernel
theorem dX10_removeRule_14 : decode cX10_removeRule 14 = .ok (.aload_n 0, 1) := by decide +kernel
theorem dX10_removeRule_15 : decode cX10_removeRule 15 = .ok (.getfield 7, 3) := by decide +kernel
theorem dX10_removeRule_18 : decode cX10_removeRule 18 = .ok (.iconst 2, 1) := by decide +kernel
theorem dX10_removeRule_19 : decode cX10_removeRule 19 = .ok (.dup2, 1) := by decide +kernel
theorem dX10_removeRule_20 : decode cX10_removeRule 20 = .ok (.iaload, 1) := by decide +kernel
theorem dX10_removeRule_21 : decode cX10_removeRule 21 = .ok (.iconst 1, 1) := by decide +kernel
theorem dX10_removeRule_22 : decode cX10_removeRule 22 = .ok (.isub, 1) := by decide +kernel
theorem dX10_removeRule_23 : decode cX10_removeRule 23 = .ok (.iastore, 1) := by decide +kernel
theorem dX10_removeRule_24 : decode cX10_removeRule 24 = .ok (.iconst 5, 1) := by decide +kernel
theorem dX10_removeRule_25 : decode cX10_removeRule 25 = .ok (.iconst 5, 1) := by decide +kernel
theorem dX10_removeRule_26 : decode cX10_removeRule 26 = .ok (.iload_n 1, 1) := by decide +kernel
theorem dX10_removeRule_27 : decode cX10_removeRule 27 = .ok (.imul, 1) := by decide +kernel
theorem dX10_removeRule_28 : decode cX10_removeRule 28 = .ok (.iadd, 1) := by decide +kernel
theorem dX10_removeRule_29 : decode cX10_removeRule 29 = .ok (.istore_n 2, 1) := by decide +kernel
theorem dX10_removeRule_30 : decode cX10_removeRule 30 = .ok (.iload_n 2, 1) := by decide +kernel
theorem dX10_removeRule_31 : decode cX10_removeRule 31 = .ok (.iconst 5, 1) := by decide +kernel
theorem dX10_removeRule_32 : decode cX10_removeRule 32 = .ok (.iconst 5, 1) := by decide +kernel
theorem dX10_removeRule_33 : decode cX10_removeRule 33 = .ok (.aload_n 0, 1) := by decide +kernel
theorem dX10_removeRule_34 : decode cX10_removeRule 34 = .ok (.getfield 7, 3) := by decide +kernel
theorem dX10_removeRule_37 : decode cX10_removeRule 37 = .ok (.iconst 2, 1) := by decide +kernel
theorem dX10_removeRule_38 : decode cX10_removeRule 38 = .ok (.iaload, 1) := by decide +kernel
theorem dX10_removeRule_39 : decode cX10_removeRule 39 = .ok (.imul, 1) := by decide +kernel
theorem dX10_removeRule_40 : decode cX10_removeRule 40 = .ok (.iadd, 1) := by decide +kernel
theorem dX10_removeRule_41 : decode cX10_removeRule 41 = .ok (.if_icmp .ge 23, 3) := by decide +kernel
theorem dX10_removeRule_44 : decode cX10_removeRule 44 = .ok (.aload_n 0, 1) := by decide +kernel
theorem dX10_removeRule_45 : decode cX10_removeRule 45 = .ok (.getfield 7, 3) := by decide +kernel
theorem dX10_removeRule_48 : decode cX10_removeRule 48 = .ok (.iload_n 2, 1) := by decide +kernel
theorem dX10_removeRule_49 : decode cX10_removeRule 49 = .ok (.aload_n 0, 1) := by decide +kernel
theorem dX10_removeRule_50 : decode cX10_removeRule 50 = .ok (.getfield 7, 3) := by decide +kernel
theorem dX10_removeRule_53 : decode cX10_removeRule 53 = .ok (.iload_n 2, 1) := by decide +kernel
theorem dX10_removeRule_54 : decode cX10_removeRule 54 = .ok (.iconst 5, 1) := by decide +kernel
theorem dX10_removeRule_55 : decode cX10_removeRule 55 = .ok (.iadd, 1) := by decide +kernel
theorem dX10_removeRule_56 : decode cX10_removeRule 56 = .ok (.iaload, 1) := by decide +kernel
theorem dX10_removeRule_57 : decode cX10_removeRule 57 = .ok (.iastore, 1) := by decide +kernel
theorem dX10_removeRule_58 : decode cX10_removeRule 58 = .ok (.iinc 2 1, 3) := by decide +kernel
theorem dX10_removeRule_61 : decode cX10_removeRule 61 = .ok (.goto (-31), 3) := by decide +kernel
theorem dX10_removeRule_64 : decode cX10_removeRule 64 = .ok (.aload_n 0, 1) := by decide +kernel
theorem dX10_removeRule_65 : decode cX10_removeRule 65 = .ok (.getfield 7, 3) := by decide +kernel
theorem dX10_removeRule_68 : decode cX10_removeRule 68 = .ok (.iconst 2, 1) := by decide +kernel
theorem dX10_removeRule_69 : decode cX10_removeRule 69 = .ok (.iaload, 1) := by decide +kernel
theorem dX10_removeRule_70 : decode cX10_removeRule 70 = .ok (.ireturn, 1) := by decide +kernel
theorem dX10_setWeight_0 : decode cX10_setWeight 0 = .ok (.aload_n 0, 1) := by decide +kernel
theorem dX10_setWeight_1 : decode cX10_setWeight 1 = .ok (.iload_n 1, 1) := by decide +kernel
theorem dX10_setWeight_2 : decode cX10_setWeight 2 = .ok (.invokevirtual 85, 3) := by decide +kernel
theorem dX10_setWeight_5 : decode cX10_setWeight 5 = .ok (.ifCond .ne 5, 3) := by decide +kernel
theorem dX10_setWeight_8 : decode cX10_setWeight 8 = .ok (.iconst (-1), 1) := by decide +kernel
theorem dX10_setWeight_9 : decode cX10_setWeight 9 = .ok (.ireturn, 1) := by decide +kernel
theorem dX10_setWeight_10 : decode cX10_setWeight 10 = .ok (.iload_n 2, 1) := by decide +kernel
theorem dX10_setWeight_11 : decode cX10_setWeight 11 = .ok (.iconst 1, 1) := by decide +kernel
theorem dX10_setWeight_12 : decode cX10_setWeight 12 = .ok (.bipush 20, 2) := by decide +kernel
theorem dX10_setWeight_14 : decode cX10_setWeight 14 = .ok (.invokestatic 44, 3) := by decide +kernel
theorem dX10_setWeight_17 : decode cX10_setWeight 17 = .ok (.ifCond .ne 6, 3) := by decide +kernel
theorem dX10_setWeight_20 : decode cX10_setWeight 20 = .ok (.bipush (-2), 2) := by decide +kernel
theorem dX10_setWeight_22 : decode cX10_setWeight 22 = .ok (.ireturn, 1) := by decide +kernel
theorem dX10_setWeight_23 : decode cX10_setWeight 23 = .ok (.aload_n 0, 1) := by decide +kernel
theorem dX10_setWeight_24 : decode cX10_setWeight 24 = .ok (.invokevirtual 64, 3) := by decide +kernel
theorem dX10_setWeight_27 : decode cX10_setWeight 27 = .ok (.aload_n 0, 1) := by decide +kernel
theorem dX10_setWeight_28 : decode cX10_setWeight 28 = .ok (.iload_n 1, 1) := by decide +kernel
theorem dX10_setWeight_29 : decode cX10_setWeight 29 = .ok (.iconst 4, 1) := by decide +kernel
theorem dX10_setWeight_30 : decode cX10_setWeight 30 = .ok (.invokevirtual 67, 3) := by decide +kernel
theorem dX10_setWeight_33 : decode cX10_setWeight 33 = .ok (.istore_n 3, 1) := by decide +kernel
theorem dX10_setWeight_34 : decode cX10_setWeight 34 = .ok (.aload_n 0, 1) := by decide +kernel
theorem dX10_setWeight_35 : decode cX10_setWeight 35 = .ok (.getfield 7, 3) := by decide +kernel
theorem dX10_setWeight_38 : decode cX10_setWeight 38 = .ok (.iconst 5, 1) := by decide +kernel
theorem dX10_setWeight_39 : decode cX10_setWeight 39 = .ok (.iconst 5, 1) := by decide +kernel
theorem dX10_setWeight_40 : decode cX10_setWeight 40 = .ok (.iload_n 1, 1) := by decide +kernel
theorem dX10_setWeight_41 : decode cX10_setWeight 41 = .ok (.imul, 1) := by decide +kernel
theorem dX10_setWeight_42 : decode cX10_setWeight 42 = .ok (.iadd, 1) := by decide +kernel
theorem dX10_setWeight_43 : decode cX10_setWeight 43 = .ok (.iconst 4, 1) := by decide +kernel
theorem dX10_setWeight_44 : decode cX10_setWeight 44 = .ok (.iadd, 1) := by decide +kernel
theorem dX10_setWeight_45 : decode cX10_setWeight 45 = .ok (.iload_n 2, 1) := by decide +kernel
theorem dX10_setWeight_46 : decode cX10_setWeight 46 = .ok (.iastore, 1) := by decide +kernel
theorem dX10_setWeight_47 : decode cX10_setWeight 47 = .ok (.iload_n 3, 1) := by decide +kernel
theorem dX10_setWeight_48 : decode cX10_setWeight 48 = .ok (.ireturn, 1) := by decide +kernel
theorem dX10_setStart_0 : decode cX10_setStart 0 = .ok (.aload_n 0, 1) := by decide +kernel
theorem dX10_setStart_1 : decode cX10_setStart 1 = .ok (.iload_n 1, 1) := by decide +kernel
theorem dX10_setStart_2 : decode cX10_setStart 2 = .ok (.invokevirtual 71, 3) := by decide +kernel
theorem dX10_setStart_5 : decode cX10_setStart 5 = .ok (.ifCond .eq 13, 3) := by decide +kernel
theorem dX10_setStart_8 : decode cX10_setStart 8 = .ok (.aload_n 0, 1) := by decide +kernel
theorem dX10_setStart_9 : decode cX10_setStart 9 = .ok (.iload_n 2, 1) := by decide +kernel
theorem dX10_setStart_10 : decode cX10_setStart 10 = .ok (.iconst 1, 1) := by decide +kernel
theorem dX10_setStart_11 : decode cX10_setStart 11 = .ok (.iconst 4, 1) := by decide +kernel
theorem dX10_setStart_12 : decode cX10_setStart 12 = .ok (.invokevirtual 74, 3) := by decide +kernel
theorem dX10_setStart_15 : decode cX10_setStart 15 = .ok (.ifCond .ne 5, 3) := by decide +kernel
theorem dX10_setStart_18 : decode cX10_setStart 18 = .ok (.iconst (-1), 1) := by decide +kernel
theorem dX10_setStart_19 : decode cX10_setStart 19 = .ok (.ireturn, 1) := by decide +kernel
theorem dX10_setStart_20 : decode cX10_setStart 20 = .ok (.aload_n 0, 1) := by decide +kernel
theorem dX10_setStart_21 : decode cX10_setStart 21 = .ok (.invokevirtual 64, 3) := by decide +kernel
theorem dX10_setStart_24 : decode cX10_setStart 24 = .ok (.aload_n 0, 1) := by decide +kernel
theorem dX10_setStart_25 : decode cX10_setStart 25 = .ok (.getfield 7, 3) := by decide +kernel
theorem dX10_setStart_28 : decode cX10_setStart 28 = .ok (.iconst 4, 1) := by decide +kernel
theorem dX10_setStart_29 : decode cX10_setStart 29 = .ok (.iaload, 1) := by decide +kernel
theorem dX10_setStart_30 : decode cX10_setStart 30 = .ok (.invokestatic 48, 3) := by decide +kernel
theorem dX10_setStart_33 : decode cX10_setStart 33 = .ok (.istore_n 3, 1) := by decide +kernel
theorem dX10_setStart_34 : decode cX10_setStart 34 = .ok (.aload_n 0, 1) := by decide +kernel
theorem dX10_setStart_35 : decode cX10_setStart 35 = .ok (.getfield 7, 3) := by decide +kernel
theorem dX10_setStart_38 : decode cX10_setStart 38 = .ok (.iconst 3, 1) := by decide +kernel
theorem dX10_setStart_39 : decode cX10_setStart 39 = .ok (.iload_n 1, 1) := by decide +kernel
theorem dX10_setStart_40 : decode cX10_setStart 40 = .ok (.iastore, 1) := by decide +kernel
theorem dX10_setStart_41 : decode cX10_setStart 41 = .ok (.aload_n 0, 1) := by decide +kernel
theorem dX10_setStart_42 : decode cX10_setStart 42 = .ok (.getfield 7, 3) := by decide +kernel
theorem dX10_setStart_45 : decode cX10_setStart 45 = .ok (.iconst 4, 1) := by decide +kernel
theorem dX10_setStart_46 : decode cX10_setStart 46 = .ok (.iload_n 2, 1) := by decide +kernel
theorem dX10_setStart_47 : decode cX10_setStart 47 = .ok (.iastore, 1) := by decide +kernel
theorem dX10_setStart_48 : decode cX10_setStart 48 = .ok (.iload_n 3, 1) := by decide +kernel
theorem dX10_setStart_49 : decode cX10_setStart 49 = .ok (.ireturn, 1) := by decide +kernel
theorem dX10_undo_0 : decode cX10_undo 0 = .ok (.aload_n 0, 1) := by decide +kernel
theorem dX10_undo_1 : decode cX10_undo 1 = .ok (.getfield 60, 3) := by decide +kernel
theorem dX10_undo_4 : decode cX10_undo 4 = .ok (.ifCond .ne 6, 3) := by decide +kernel
theorem dX10_undo_7 : decode cX10_undo 7 = .ok (.bipush (-5), 2) := by decide +kernel
theorem dX10_undo_9 : decode cX10_undo 9 = .ok (.ireturn, 1) := by decide +kernel
theorem dX10_undo_10 : decode cX10_undo 10 = .ok (.aload_n 0, 1) := by decide +kernel
theorem dX10_undo_11 : decode cX10_undo 11 = .ok (.dup, 1) := by decide +kernel
theorem dX10_undo_12 : decode cX10_undo 12 = .ok (.getfield 60, 3) := by decide +kernel
theorem dX10_undo_15 : decode cX10_undo 15 = .ok (.iconst 1, 1) := by decide +kernel
theorem dX10_undo_16 : decode cX10_undo 16 = .ok (.isub, 1) := by decide +kernel
theorem dX10_undo_17 : decode cX10_undo 17 = .ok (.putfield 60, 3) := by decide +kernel
theorem dX10_undo_20 : decode cX10_undo 20 = .ok (.aload_n 0, 1) := by decide +kernel
theorem dX10_undo_21 : decode cX10_undo 21 = .ok (.iconst 0, 1) := by decide +kernel
theorem dX10_undo_22 : decode cX10_undo 22 = .ok (.putfield 56, 3) := by decide +kernel
theorem dX10_undo_25 : decode cX10_undo 25 = .ok (.iconst 0, 1) := by decide +kernel
theorem dX10_undo_26 : decode cX10_undo 26 = .ok (.istore_n 1, 1) := by decide +kernel
theorem dX10_undo_27 : decode cX10_undo 27 = .ok (.iload_n 1, 1) := by decide +kernel
theorem dX10_undo_28 : decode cX10_undo 28 = .ok (.bipush 105, 2) := by decide +kernel
theorem dX10_undo_30 : decode cX10_undo 30 = .ok (.if_icmp .ge 29, 3) := by decide +kernel
theorem dX10_undo_33 : decode cX10_undo 33 = .ok (.aload_n 0, 1) := by decide +kernel
theorem dX10_undo_34 : decode cX10_undo 34 = .ok (.getfield 7, 3) := by decide +kernel
theorem dX10_undo_37 : decode cX10_undo 37 = .ok (.iload_n 1, 1) := by decide +kernel
theorem dX10_undo_38 : decode cX10_undo 38 = .ok (.aload_n 0, 1) := by decide +kernel
theorem dX10_undo_39 : decode cX10_undo 39 = .ok (.getfield 13, 3) := by decide +kernel
theorem dX10_undo_42 : decode cX10_undo 42 = .ok (.bipush 105, 2) := by decide +kernel
theorem dX10_undo_44 : decode cX10_undo 44 = .ok (.aload_n 0, 1) := by decide +kernel
theorem dX10_undo_45 : decode cX10_undo 45 = .ok (.getfield 60, 3) := by decide +kernel
theorem dX10_undo_48 : decode cX10_undo 48 = .ok (.imul, 1) := by decide +kernel
theorem dX10_undo_49 : decode cX10_undo 49 = .ok (.iload_n 1, 1) := by decide +kernel
theorem dX10_undo_50 : decode cX10_undo 50 = .ok (.iadd, 1) := by decide +kernel
theorem dX10_undo_51 : decode cX10_undo 51 = .ok (.iaload, 1) := by decide +kernel
theorem dX10_undo_52 : decode cX10_undo 52 = .ok (.iastore, 1) := by decide +kernel
theorem dX10_undo_53 : decode cX10_undo 53 = .ok (.iinc 1 1, 3) := by decide +kernel
theorem dX10_undo_56 : decode cX10_undo 56 = .ok (.goto (-29), 3) := by decide +kernel
theorem dX10_undo_59 : decode cX10_undo 59 = .ok (.aload_n 0, 1) := by decide +kernel
theorem dX10_undo_60 : decode cX10_undo 60 = .ok (.getfield 60, 3) := by decide +kernel
theorem dX10_undo_63 : decode cX10_undo 63 = .ok (.ireturn, 1) := by decide +kernel
theorem dX10_rulesBy_0 : decode cX10_rulesBy 0 = .ok (.iconst 0, 1) := by decide +kernel
theorem dX10_rulesBy_1 : decode cX10_rulesBy 1 = .ok (.istore_n 2, 1) := by decide +kernel
theorem dX10_rulesBy_2 : decode cX10_rulesBy 2 = .ok (.iconst 0, 1) := by decide +kernel
theorem dX10_rulesBy_3 : decode cX10_rulesBy 3 = .ok (.istore_n 3, 1) := by decide +kernel
theorem dX10_rulesBy_4 : decode cX10_rulesBy 4 = .ok (.iload_n 3, 1) := by decide +kernel
theorem dX10_rulesBy_5 : decode cX10_rulesBy 5 = .ok (.aload_n 0, 1) := by decide +kernel
theorem dX10_rulesBy_6 : decode cX10_rulesBy 6 = .ok (.getfield 7, 3) := by decide +kernel
theorem dX10_rulesBy_9 : decode cX10_rulesBy 9 = .ok (.iconst 2, 1) := by decide +kernel
theorem dX10_rulesBy_10 : decode cX10_rulesBy 10 = .ok (.iaload, 1) := by decide +kernel
theorem dX10_rulesBy_11 : decode cX10_rulesBy 11 = .ok (.if_icmp .ge 30, 3) := by decide +kernel
theorem dX10_rulesBy_14 : decode cX10_rulesBy 14 = .ok (.iload_n 2, 1) := by decide +kernel
theorem dX10_rulesBy_15 : decode cX10_rulesBy 15 = .ok (.aload_n 0, 1) := by decide +kernel
theorem dX10_rulesBy_16 : decode cX10_rulesBy 16 = .ok (.iload_n 3, 1) := by decide +kernel
theorem dX10_rulesBy_17 : decode cX10_rulesBy 17 = .ok (.iconst 3, 1) := by decide +kernel
theorem dX10_rulesBy_18 : decode cX10_rulesBy 18 = .ok (.invokevirtual 67, 3) := by decide +kernel
theorem dX10_rulesBy_21 : decode cX10_rulesBy 21 = .ok (.invokestatic 48, 3) := by decide +kernel
theorem dX10_rulesBy_24 : decode cX10_rulesBy 24 = .ok (.iload_n 1, 1) := by decide +kernel
theorem dX10_rulesBy_25 : decode cX10_rulesBy 25 = .ok (.if_icmp .ne 7, 3) := by decide +kernel
theorem dX10_rulesBy_28 : decode cX10_rulesBy 28 = .ok (.iconst 1, 1) := by decide +kernel
theorem dX10_rulesBy_29 : decode cX10_rulesBy 29 = .ok (.goto 4, 3) := by decide +kernel
theorem dX10_rulesBy_32 : decode cX10_rulesBy 32 = .ok (.iconst 0, 1) := by decide +kernel
theorem dX10_rulesBy_33 : decode cX10_rulesBy 33 = .ok (.iadd, 1) := by decide +kernel
theorem dX10_rulesBy_34 : decode cX10_rulesBy 34 = .ok (.istore_n 2, 1) := by decide +kernel
theorem dX10_rulesBy_35 : decode cX10_rulesBy 35 = .ok (.iinc 3 1, 3) := by decide +kernel
theorem dX10_rulesBy_38 : decode cX10_rulesBy 38 = .ok (.goto (-34), 3) := by decide +kernel
theorem dX10_rulesBy_41 : decode cX10_rulesBy 41 = .ok (.iload_n 2, 1) := by decide +kernel
theorem dX10_rulesBy_42 : decode cX10_rulesBy 42 = .ok (.ireturn, 1) := by decide +kernel
theorem dX10_told_0 : decode cX10_told 0 = .ok (.iload_n 1, 1) := by decide +kernel
theorem dX10_told_1 : decode cX10_told 1 = .ok (.iconst 0, 1) := by decide +kernel
theorem dX10_told_2 : decode cX10_told 2 = .ok (.bipush 7, 2) := by decide +kernel
theorem dX10_told_4 : decode cX10_told 4 = .ok (.invokestatic 44, 3) := by decide +kernel
theorem dX10_told_7 : decode cX10_told 7 = .ok (.ifCond .ne 6, 3) := by decide +kernel
theorem dX10_told_10 : decode cX10_told 10 = .ok (.bipush (-2), 2) := by decide +kernel
theorem dX10_told_12 : decode cX10_told 12 = .ok (.ireturn, 1) := by decide +kernel
theorem dX10_told_13 : decode cX10_told 13 = .ok (.iload_n 1, 1) := by decide +kernel
theorem dX10_told_14 : decode cX10_told 14 = .ok (.iconst 5, 1) := by decide +kernel
theorem dX10_told_15 : decode cX10_told 15 = .ok (.if_icmp .ge 12, 3) := by decide +kernel
theorem dX10_told_18 : decode cX10_told 18 = .ok (.aload_n 0, 1) := by decide +kernel
theorem dX10_told_19 : decode cX10_told 19 = .ok (.getfield 7, 3) := by decide +kernel
theorem dX10_told_22 : decode cX10_told 22 = .ok (.iload_n 1, 1) := by decide +kernel
theorem dX10_told_23 : decode cX10_told 23 = .ok (.iaload, 1) := by decide +kernel
theorem dX10_told_24 : decode cX10_told 24 = .ok (.goto 10, 3) := by decide +kernel
theorem dX10_told_27 : decode cX10_told 27 = .ok (.aload_n 0, 1) := by decide +kernel
theorem dX10_told_28 : decode cX10_told 28 = .ok (.iload_n 1, 1) := by decide +kernel
theorem dX10_told_29 : decode cX10_told 29 = .ok (.iconst 5, 1) := by decide +kernel
theorem dX10_told_30 : decode cX10_told 30 = .ok (.isub, 1) := by decide +kernel
theorem dX10_told_31 : decode cX10_told 31 = .ok (.invokevirtual 88, 3) := by decide +kernel
theorem dX10_told_34 : decode cX10_told 34 = .ok (.ireturn, 1) := by decide +kernel
theorem dX10_rule_0 : decode cX10_rule 0 = .ok (.aload_n 0, 1) := by decide +kernel
theorem dX10_rule_1 : decode cX10_rule 1 = .ok (.iload_n 1, 1) := by decide +kernel
theorem dX10_rule_2 : decode cX10_rule 2 = .ok (.invokevirtual 85, 3) := by decide +kernel
theorem dX10_rule_5 : decode cX10_rule 5 = .ok (.ifCond .ne 5, 3) := by decide +kernel
theorem dX10_rule_8 : decode cX10_rule 8 = .ok (.iconst (-1), 1) := by decide +kernel
theorem dX10_rule_9 : decode cX10_rule 9 = .ok (.ireturn, 1) := by decide +kernel
theorem dX10_rule_10 : decode cX10_rule 10 = .ok (.iload_n 2, 1) := by decide +kernel
theorem dX10_rule_11 : decode cX10_rule 11 = .ok (.iconst 0, 1) := by decide +kernel
theorem dX10_rule_12 : decode cX10_rule 12 = .ok (.iconst 4, 1) := by decide +kernel
theorem dX10_rule_13 : decode cX10_rule 13 = .ok (.invokestatic 44, 3) := by decide +kernel
theorem dX10_rule_16 : decode cX10_rule 16 = .ok (.ifCond .eq 12, 3) := by decide +kernel
theorem dX10_rule_19 : decode cX10_rule 19 = .ok (.aload_n 0, 1) := by decide +kernel
theorem dX10_rule_20 : decode cX10_rule 20 = .ok (.iload_n 1, 1) := by decide +kernel
theorem dX10_rule_21 : decode cX10_rule 21 = .ok (.iload_n 2, 1) := by decide +kernel
theorem dX10_rule_22 : decode cX10_rule 22 = .ok (.invokevirtual 67, 3) := by decide +kernel
theorem dX10_rule_25 : decode cX10_rule 25 = .ok (.goto 5, 3) := by decide +kernel
theorem dX10_rule_28 : decode cX10_rule 28 = .ok (.bipush (-2), 2) := by decide +kernel
theorem dX10_rule_30 : decode cX10_rule 30 = .ok (.ireturn, 1) := by decide +kernel
theorem dX10_way_0 : decode cX10_way 0 = .ok (.aload_n 0, 1) := by decide +kernel
theorem dX10_way_1 : decode cX10_way 1 = .ok (.getfield 19, 3) := by decide +kernel
theorem dX10_way_4 : decode cX10_way 4 = .ok (.bipush 55, 2) := by decide +kernel
theorem dX10_way_6 : decode cX10_way 6 = .ok (.iload_n 1, 1) := by decide +kernel
theorem dX10_way_7 : decode cX10_way 7 = .ok (.imul, 1) := by decide +kernel
theorem dX10_way_8 : decode cX10_way 8 = .ok (.bipush 11, 2) := by decide +kernel
theorem dX10_way_10 : decode cX10_way 10 = .ok (.iload_n 2, 1) := by decide +kernel
theorem dX10_way_11 : decode cX10_way 11 = .ok (.iconst 1, 1) := by decide +kernel
theorem dX10_way_12 : decode cX10_way 12 = .ok (.isub, 1) := by decide +kernel
theorem dX10_way_13 : decode cX10_way 13 = .ok (.imul, 1) := by decide +kernel
theorem dX10_way_14 : decode cX10_way 14 = .ok (.iadd, 1) := by decide +kernel
theorem dX10_way_15 : decode cX10_way 15 = .ok (.iload_n 3, 1) := by decide +kernel
theorem dX10_way_16 : decode cX10_way 16 = .ok (.iadd, 1) := by decide +kernel
theorem dX10_way_17 : decode cX10_way 17 = .ok (.laload, 1) := by decide +kernel
theorem dX10_way_18 : decode cX10_way 18 = .ok (.lreturn, 1) := by decide +kernel
theorem dX10_improve_0 : decode cX10_improve 0 = .ok (.bipush 55, 2) := by decide +kernel
theorem dX10_improve_2 : decode cX10_improve 2 = .ok (.iload_n 1, 1) := by decide +kernel
theorem dX10_improve_3 : decode cX10_improve 3 = .ok (.imul, 1) := by decide +kernel
theorem dX10_improve_4 : decode cX10_improve 4 = .ok (.bipush 11, 2) := by decide +kernel
theorem dX10_improve_6 : decode cX10_improve 6 = .ok (.iload_n 2, 1) := by decide +kernel
theorem dX10_improve_7 : decode cX10_improve 7 = .ok (.iconst 1, 1) := by decide +kernel
theorem dX10_improve_8 : decode cX10_improve 8 = .ok (.isub, 1) := by decide +kernel
theorem dX10_improve_9 : decode cX10_improve 9 = .ok (.imul, 1) := by decide +kernel
theorem dX10_improve_10 : decode cX10_improve 10 = .ok (.iadd, 1) := by decide +kernel
theorem dX10_improve_11 : decode cX10_improve 11 = .ok (.iload_n 3, 1) := by decide +kernel
theorem dX10_improve_12 : decode cX10_improve 12 = .ok (.iadd, 1) := by decide +kernel
theorem dX10_improve_13 : decode cX10_improve 13 = .ok (.istore 6, 2) := by decide +kernel
theorem dX10_improve_15 : decode cX10_improve 15 = .ok (.lload 4, 2) := by decide +kernel
theorem dX10_improve_17 : decode cX10_improve 17 = .ok (.aload_n 0, 1) := by decide +kernel
theorem dX10_improve_18 : decode cX10_improve 18 = .ok (.getfield 19, 3) := by decide +kernel
theorem dX10_improve_21 : decode cX10_improve 21 = .ok (.iload 6, 2) := by decide +kernel
theorem dX10_improve_23 : decode cX10_improve 23 = .ok (.laload, 1) := by decide +kernel
theorem dX10_improve_24 : decode cX10_improve 24 = .ok (.lcmp, 1) := by decide +kernel
theorem dX10_improve_25 : decode cX10_improve 25 = .ok (.ifCond .ge 16, 3) := by decide +kernel
theorem dX10_improve_28 : decode cX10_improve 28 = .ok (.lload 4, 2) := by decide +kernel
theorem dX10_improve_30 : decode cX10_improve 30 = .ok (.ldc2_w 91, 3) := by decide +kernel
theorem dX10_improve_33 : decode cX10_improve 33 = .ok (.lcmp, 1) := by decide +kernel
theorem dX10_improve_34 : decode cX10_improve 34 = .ok (.ifCond .ge 7, 3) := by decide +kernel
theorem dX10_improve_37 : decode cX10_improve 37 = .ok (.iconst 1, 1) := by decide +kernel
theorem dX10_improve_38 : decode cX10_improve 38 = .ok (.goto 4, 3) := by decide +kernel
theorem dX10_improve_41 : decode cX10_improve 41 = .ok (.iconst 0, 1) := by decide +kernel
theorem dX10_improve_42 : decode cX10_improve 42 = .ok (.istore 7, 2) := by decide +kernel
theorem dX10_improve_44 : decode cX10_improve 44 = .ok (.aload_n 0, 1) := by decide +kernel
theorem dX10_improve_45 : decode cX10_improve 45 = .ok (.getfield 19, 3) := by decide +kernel
theorem dX10_improve_48 : decode cX10_improve 48 = .ok (.iload 6, 2) := by decide +kernel
theorem dX10_improve_50 : decode cX10_improve 50 = .ok (.iload 7, 2) := by decide +kernel
theorem dX10_improve_52 : decode cX10_improve 52 = .ok (.ifCond .eq 8, 3) := by decide +kernel
theorem dX10_improve_55 : decode cX10_improve 55 = .ok (.lload 4, 2) := by decide +kernel
theorem dX10_improve_57 : decode cX10_improve 57 = .ok (.goto 10, 3) := by decide +kernel
theorem dX10_improve_60 : decode cX10_improve 60 = .ok (.aload_n 0, 1) := by decide +kernel
theorem dX10_improve_61 : decode cX10_improve 61 = .ok (.getfield 19, 3) := by decide +kernel
theorem dX10_improve_64 : decode cX10_improve 64 = .ok (.iload 6, 2) := by decide +kernel
theorem dX10_improve_66 : decode cX10_improve 66 = .ok (.laload, 1) := by decide +kernel
theorem dX10_improve_67 : decode cX10_improve 67 = .ok (.lastore, 1) := by decide +kernel
theorem dX10_improve_68 : decode cX10_improve 68 = .ok (.iload 7, 2) := by decide +kernel
theorem dX10_improve_70 : decode cX10_improve 70 = .ok (.ireturn, 1) := by decide +kernel
theorem dX10_cost_0 : decode cX10_cost 0 = .ok (.ldc2_w 93, 3) := by decide +kernel
theorem dX10_cost_3 : decode cX10_cost 3 = .ok (.aload_n 0, 1) := by decide +kernel
theorem dX10_cost_4 : decode cX10_cost 4 = .ok (.iload_n 1, 1) := by decide +kernel
theorem dX10_cost_5 : decode cX10_cost 5 = .ok (.iconst 4, 1) := by decide +kernel
theorem dX10_cost_6 : decode cX10_cost 6 = .ok (.invokevirtual 67, 3) := by decide +kernel
theorem dX10_cost_9 : decode cX10_cost 9 = .ok (.i2l, 1) := by decide +kernel
theorem dX10_cost_10 : decode cX10_cost 10 = .ok (.lmul, 1) := by decide +kernel
theorem dX10_cost_11 : decode cX10_cost 11 = .ok (.lconst 1, 1) := by decide +kernel
theorem dX10_cost_12 : decode cX10_cost 12 = .ok (.ladd, 1) := by decide +kernel
theorem dX10_cost_13 : decode cX10_cost 13 = .ok (.lreturn, 1) := by decide +kernel
theorem dX10_follow_0 : decode cX10_follow 0 = .ok (.aload_n 0, 1) := by decide +kernel
theorem dX10_follow_1 : decode cX10_follow 1 = .ok (.iload_n 1, 1) := by decide +kernel
theorem dX10_follow_2 : decode cX10_follow 2 = .ok (.iconst 3, 1) := by decide +kernel
theorem dX10_follow_3 : decode cX10_follow 3 = .ok (.invokevirtual 67, 3) := by decide +kernel
theorem dX10_follow_6 : decode cX10_follow 6 = .ok (.istore_n 2, 1) := by decide +kernel
theorem dX10_follow_7 : decode cX10_follow 7 = .ok (.iload_n 2, 1) := by decide +kernel
theorem dX10_follow_8 : decode cX10_follow 8 = .ok (.invokestatic 48, 3) := by decide +kernel
theorem dX10_follow_11 : decode cX10_follow 11 = .ok (.istore_n 3, 1) := by decide +kernel
theorem dX10_follow_12 : decode cX10_follow 12 = .ok (.iconst 0, 1) := by decide +kernel
theorem dX10_follow_13 : decode cX10_follow 13 = .ok (.istore 4, 2) := by decide +kernel
theorem dX10_follow_15 : decode cX10_follow 15 = .ok (.iconst 0, 1) := by decide +kernel
theorem dX10_follow_16 : decode cX10_follow 16 = .ok (.istore 5, 2) := by decide +kernel
theorem dX10_follow_18 : decode cX10_follow 18 = .ok (.iload 5, 2) := by decide +kernel
theorem dX10_follow_20 : decode cX10_follow 20 = .ok (.bipush 11, 2) := by decide +kernel
theorem dX10_follow_22 : decode cX10_follow 22 = .ok (.if_icmp .ge 201, 3) := by decide +kernel
theorem dX10_follow_25 : decode cX10_follow 25 = .ok (.ldc2_w 91, 3) := by decide +kernel
theorem dX10_follow_28 : decode cX10_follow 28 = .ok (.lstore 6, 2) := by decide +kernel
theorem dX10_follow_30 : decode cX10_follow 30 = .ok (.iload_n 3, 1) := by decide +kernel
theorem dX10_follow_31 : decode cX10_follow 31 = .ok (.ifCond .ne 26, 3) := by decide +kernel
theorem dX10_follow_34 : decode cX10_follow 34 = .ok (.iload 5, 2) := by decide +kernel
theorem dX10_follow_36 : decode cX10_follow 36 = .ok (.aload_n 0, 1) := by decide +kernel
theorem dX10_follow_37 : decode cX10_follow 37 = .ok (.iload_n 1, 1) := by decide +kernel
theorem dX10_follow_38 : decode cX10_follow 38 = .ok (.iconst 2, 1) := by decide +kernel
theorem dX10_follow_39 : decode cX10_follow 39 = .ok (.invokevirtual 67, 3) := by decide +kernel
theorem dX10_follow_42 : decode cX10_follow 42 = .ok (.if_icmp .ne 7, 3) := by decide +kernel
theorem dX10_follow_45 : decode cX10_follow 45 = .ok (.lconst 0, 1) := by decide +kernel
theorem dX10_follow_46 : decode cX10_follow 46 = .ok (.goto 6, 3) := by decide +kernel
theorem dX10_follow_49 : decode cX10_follow 49 = .ok (.ldc2_w 91, 3) := by decide +kernel
theorem dX10_follow_52 : decode cX10_follow 52 = .ok (.lstore 6, 2) := by decide +kernel
theorem dX10_follow_54 : decode cX10_follow 54 = .ok (.goto 115, 3) := by decide +kernel
theorem dX10_follow_57 : decode cX10_follow 57 = .ok (.iload_n 3, 1) := by decide +kernel
theorem dX10_follow_58 : decode cX10_follow 58 = .ok (.iconst 1, 1) := by decide +kernel
theorem dX10_follow_59 : decode cX10_follow 59 = .ok (.if_icmp .ne 21, 3) := by decide +kernel
theorem dX10_follow_62 : decode cX10_follow 62 = .ok (.aload_n 0, 1) := by decide +kernel
theorem dX10_follow_63 : decode cX10_follow 63 = .ok (.aload_n 0, 1) := by decide +kernel
theorem dX10_follow_64 : decode cX10_follow 64 = .ok (.iload_n 1, 1) := by decide +kernel
theorem dX10_follow_65 : decode cX10_follow 65 = .ok (.iconst 2, 1) := by decide +kernel
theorem dX10_follow_66 : decode cX10_follow 66 = .ok (.invokevirtual 67, 3) := by decide +kernel
theorem dX10_follow_69 : decode cX10_follow 69 = .ok (.iload_n 2, 1) := by decide +kernel
theorem dX10_follow_70 : decode cX10_follow 70 = .ok (.iload 5, 2) := by decide +kernel
theorem dX10_follow_72 : decode cX10_follow 72 = .ok (.invokevirtual 95, 3) := by decide +kernel
theorem dX10_follow_75 : decode cX10_follow 75 = .ok (.lstore 6, 2) := by decide +kernel
theorem dX10_follow_77 : decode cX10_follow 77 = .ok (.goto 92, 3) := by decide +kernel
theorem dX10_follow_80 : decode cX10_follow 80 = .ok (.iconst 0, 1) := by decide +kernel
theorem dX10_follow_81 : decode cX10_follow 81 = .ok (.istore 8, 2) := by decide +kernel
theorem dX10_follow_83 : decode cX10_follow 83 = .ok (.iload 8, 2) := by decide +kernel
theorem dX10_follow_85 : decode cX10_follow 85 = .ok (.bipush 11, 2) := by decide +kernel
theorem dX10_follow_87 : decode cX10_follow 87 = .ok (.if_icmp .ge 82, 3) := by decide +kernel
theorem dX10_follow_90 : decode cX10_follow 90 = .ok (.aload_n 0, 1) := by decide +kernel
theorem dX10_follow_91 : decode cX10_follow 91 = .ok (.aload_n 0, 1) := by decide +kernel
theorem dX10_follow_92 : decode cX10_follow 92 = .ok (.iload_n 1, 1) := by decide +kernel
theorem dX10_follow_93 : decode cX10_follow 93 = .ok (.iconst 2, 1) := by decide +kernel
theorem dX10_follow_94 : decode cX10_follow 94 = .ok (.invokevirtual 67, 3) := by decide +kernel
theorem dX10_follow_97 : decode cX10_follow 97 = .ok (.iload_n 2, 1) := by decide +kernel
theorem dX10_follow_98 : decode cX10_follow 98 = .ok (.bipush 10, 2) := by decide +kernel
theorem dX10_follow_100 : decode cX10_follow 100 = .ok (.idiv, 1) := by decide +kernel
theorem dX10_follow_101 : decode cX10_follow 101 = .ok (.iload 8, 2) := by decide +kernel
theorem dX10_follow_103 : decode cX10_follow 103 = .ok (.invokevirtual 95, 3) := by decide +kernel
theorem dX10_follow_106 : decode cX10_follow 106 = .ok (.lstore 9, 2) := by decide +kernel
theorem dX10_follow_108 : decode cX10_follow 108 = .ok (.aload_n 0, 1) := by decide +kernel
theorem dX10_follow_109 : decode cX10_follow 109 = .ok (.iload 8, 2) := by decide +kernel
theorem dX10_follow_111 : decode cX10_follow 111 = .ok (.iload_n 2, 1) := by decide +kernel
theorem dX10_follow_112 : decode cX10_follow 112 = .ok (.bipush 10, 2) := by decide +kernel
theorem dX10_follow_114 : decode cX10_follow 114 = .ok (.irem, 1) := by decide +kernel
theorem dX10_follow_115 : decode cX10_follow 115 = .ok (.iload 5, 2) := by decide +kernel
theorem dX10_follow_117 : decode cX10_follow 117 = .ok (.invokevirtual 95, 3) := by decide +kernel
theorem dX10_follow_120 : decode cX10_follow 120 = .ok (.lstore 11, 2) := by decide +kernel
theorem dX10_follow_122 : decode cX10_follow 122 = .ok (.lload 9, 2) := by decide +kernel
theorem dX10_follow_124 : decode cX10_follow 124 = .ok (.ldc2_w 91, 3) := by decide +kernel
theorem dX10_follow_127 : decode cX10_follow 127 = .ok (.lcmp, 1) := by decide +kernel
theorem dX10_follow_128 : decode cX10_follow 128 = .ok (.ifCond .ge 31, 3) := by decide +kernel
theorem dX10_follow_131 : decode cX10_follow 131 = .ok (.lload 11, 2) := by decide +kernel
theorem dX10_follow_133 : decode cX10_follow 133 = .ok (.ldc2_w 91, 3) := by decide +kernel
theorem dX10_follow_136 : decode cX10_follow 136 = .ok (.lcmp, 1) := by decide +kernel
theorem dX10_follow_137 : decode cX10_follow 137 = .ok (.ifCond .ge 22, 3) := by decide +kernel
theorem dX10_follow_140 : decode cX10_follow 140 = .ok (.lload 9, 2) := by decide +kernel
theorem dX10_follow_142 : decode cX10_follow 142 = .ok (.lload 11, 2) := by decide +kernel
theorem dX10_follow_144 : decode cX10_follow 144 = .ok (.ladd, 1) := by decide +kernel
theorem dX10_follow_145 : decode cX10_follow 145 = .ok (.lload 6, 2) := by decide +kernel
theorem dX10_follow_147 : decode cX10_follow 147 = .ok (.lcmp, 1) := by decide +kernel
theorem dX10_follow_148 : decode cX10_follow 148 = .ok (.ifCond .ge 11, 3) := by decide +kernel
theorem dX10_follow_151 : decode cX10_follow 151 = .ok (.lload 9, 2) := by decide +kernel
theorem dX10_follow_153 : decode cX10_follow 153 = .ok (.lload 11, 2) := by decide +kernel
theorem dX10_follow_155 : decode cX10_follow 155 = .ok (.ladd, 1) := by decide +kernel
theorem dX10_follow_156 : decode cX10_follow 156 = .ok (.goto 5, 3) := by decide +kernel
theorem dX10_follow_159 : decode cX10_follow 159 = .ok (.lload 6, 2) := by decide +kernel
theorem dX10_follow_161 : decode cX10_follow 161 = .ok (.lstore 6, 2) := by decide +kernel
theorem dX10_follow_163 : decode cX10_follow 163 = .ok (.iinc 8 1, 3) := by decide +kernel
theorem dX10_follow_166 : decode cX10_follow 166 = .ok (.goto (-83), 3) := by decide +kernel
theorem dX10_follow_169 : decode cX10_follow 169 = .ok (.iload 4, 2) := by decide +kernel
theorem dX10_follow_171 : decode cX10_follow 171 = .ok (.lload 6, 2) := by decide +kernel
theorem dX10_follow_173 : decode cX10_follow 173 = .ok (.ldc2_w 91, 3) := by decide +kernel
theorem dX10_follow_176 : decode cX10_follow 176 = .ok (.lcmp, 1) := by decide +kernel
theorem dX10_follow_177 : decode cX10_follow 177 = .ok (.ifCond .ge 36, 3) := by decide +kernel
theorem dX10_follow_180 : decode cX10_follow 180 = .ok (.aload_n 0, 1) := by decide +kernel
theorem dX10_follow_181 : decode cX10_follow 181 = .ok (.aload_n 0, 1) := by decide +kernel
theorem dX10_follow_182 : decode cX10_follow 182 = .ok (.iload_n 1, 1) := by decide +kernel
theorem dX10_follow_183 : decode cX10_follow 183 = .ok (.iconst 0, 1) := by decide +kernel
theorem dX10_follow_184 : decode cX10_follow 184 = .ok (.invokevirtual 67, 3) := by decide +kernel
theorem dX10_follow_187 : decode cX10_follow 187 = .ok (.aload_n 0, 1) := by decide +kernel
theorem dX10_follow_188 : decode cX10_follow 188 = .ok (.iload_n 1, 1) := by decide +kernel
theorem dX10_follow_189 : decode cX10_follow 189 = .ok (.iconst 1, 1) := by decide +kernel
theorem dX10_follow_190 : decode cX10_follow 190 = .ok (.invokevirtual 67, 3) := by decide +kernel
theorem dX10_follow_193 : decode cX10_follow 193 = .ok (.iload 5, 2) := by decide +kernel
theorem dX10_follow_195 : decode cX10_follow 195 = .ok (.lload 6, 2) := by decide +kernel
theorem dX10_follow_197 : decode cX10_follow 197 = .ok (.aload_n 0, 1) := by decide +kernel
theorem dX10_follow_198 : decode cX10_follow 198 = .ok (.iload_n 1, 1) := by decide +kernel
theorem dX10_follow_199 : decode cX10_follow 199 = .ok (.invokevirtual 99, 3) := by decide +kernel
theorem dX10_follow_202 : decode cX10_follow 202 = .ok (.ladd, 1) := by decide +kernel
theorem dX10_follow_203 : decode cX10_follow 203 = .ok (.invokevirtual 103, 3) := by decide +kernel
theorem dX10_follow_206 : decode cX10_follow 206 = .ok (.ifCond .eq 7, 3) := by decide +kernel
theorem dX10_follow_209 : decode cX10_follow 209 = .ok (.iconst 1, 1) := by decide +kernel
theorem dX10_follow_210 : decode cX10_follow 210 = .ok (.goto 4, 3) := by decide +kernel
theorem dX10_follow_213 : decode cX10_follow 213 = .ok (.iconst 0, 1) := by decide +kernel
theorem dX10_follow_214 : decode cX10_follow 214 = .ok (.ior, 1) := by decide +kernel
theorem dX10_follow_215 : decode cX10_follow 215 = .ok (.istore 4, 2) := by decide +kernel
theorem dX10_follow_217 : decode cX10_follow 217 = .ok (.iinc 5 1, 3) := by decide +kernel
theorem dX10_follow_220 : decode cX10_follow 220 = .ok (.goto (-202), 3) := by decide +kernel
theorem dX10_follow_223 : decode cX10_follow 223 = .ok (.iload 4, 2) := by decide +kernel
theorem dX10_follow_225 : decode cX10_follow 225 = .ok (.ireturn, 1) := by decide +kernel
theorem dX10_aim_0 : decode cX10_aim 0 = .ok (.iconst 0, 1) := by decide +kernel
theorem dX10_aim_1 : decode cX10_aim 1 = .ok (.istore 4, 2) := by decide +kernel
theorem dX10_aim_3 : decode cX10_aim 3 = .ok (.iload 4, 2) := by decide +kernel
theorem dX10_aim_5 : decode cX10_aim 5 = .ok (.sipush 605, 3) := by decide +kernel
theorem dX10_aim_8 : decode cX10_aim 8 = .ok (.if_icmp .ge 19, 3) := by decide +kernel
theorem dX10_aim_11 : decode cX10_aim 11 = .ok (.aload_n 0, 1) := by decide +kernel
theorem dX10_aim_12 : decode cX10_aim 12 = .ok (.getfield 19, 3) := by decide +kernel
theorem dX10_aim_15 : decode cX10_aim 15 = .ok (.iload 4, 2) := by decide +kernel
theorem dX10_aim_17 : decode cX10_aim 17 = .ok (.ldc2_w 91, 3) := by decide +kernel
theorem dX10_aim_20 : decode cX10_aim 20 = .ok (.lastore, 1) := by decide +kernel
theorem dX10_aim_21 : decode cX10_aim 21 = .ok (.iinc 4 1, 3) := by decide +kernel
theorem dX10_aim_24 : decode cX10_aim 24 = .ok (.goto (-21), 3) := by decide +kernel
theorem dX10_aim_27 : decode cX10_aim 27 = .ok (.iload_n 2, 1) := by decide +kernel
theorem dX10_aim_28 : decode cX10_aim 28 = .ok (.invokestatic 48, 3) := by decide +kernel
theorem dX10_aim_31 : decode cX10_aim 31 = .ok (.istore 4, 2) := by decide +kernel
theorem dX10_aim_33 : decode cX10_aim 33 = .ok (.iload_n 1, 1) := by decide +kernel
theorem dX10_aim_34 : decode cX10_aim 34 = .ok (.istore 5, 2) := by decide +kernel
theorem dX10_aim_36 : decode cX10_aim 36 = .ok (.iconst 0, 1) := by decide +kernel
theorem dX10_aim_37 : decode cX10_aim 37 = .ok (.istore 6, 2) := by decide +kernel
theorem dX10_aim_39 : decode cX10_aim 39 = .ok (.iload 6, 2) := by decide +kernel
theorem dX10_aim_41 : decode cX10_aim 41 = .ok (.iload 4, 2) := by decide +kernel
theorem dX10_aim_43 : decode cX10_aim 43 = .ok (.if_icmp .ge 36, 3) := by decide +kernel
theorem dX10_aim_46 : decode cX10_aim 46 = .ok (.aload_n 0, 1) := by decide +kernel
theorem dX10_aim_47 : decode cX10_aim 47 = .ok (.iload 5, 2) := by decide +kernel
theorem dX10_aim_49 : decode cX10_aim 49 = .ok (.iload_n 2, 1) := by decide +kernel
theorem dX10_aim_50 : decode cX10_aim 50 = .ok (.iload 4, 2) := by decide +kernel
theorem dX10_aim_52 : decode cX10_aim 52 = .ok (.iload 6, 2) := by decide +kernel
theorem dX10_aim_54 : decode cX10_aim 54 = .ok (.invokestatic 107, 3) := by decide +kernel
theorem dX10_aim_57 : decode cX10_aim 57 = .ok (.iconst 5, 1) := by decide +kernel
theorem dX10_aim_58 : decode cX10_aim 58 = .ok (.iload 6, 2) := by decide +kernel
theorem dX10_aim_60 : decode cX10_aim 60 = .ok (.iadd, 1) := by decide +kernel
theorem dX10_aim_61 : decode cX10_aim 61 = .ok (.lconst 0, 1) := by decide +kernel
theorem dX10_aim_62 : decode cX10_aim 62 = .ok (.invokevirtual 103, 3) := by decide +kernel
theorem dX10_aim_65 : decode cX10_aim 65 = .ok (.istore 7, 2) := by decide +kernel
theorem dX10_aim_67 : decode cX10_aim 67 = .ok (.iconst 5, 1) := by decide +kernel
theorem dX10_aim_68 : decode cX10_aim 68 = .ok (.iload 6, 2) := by decide +kernel
theorem dX10_aim_70 : decode cX10_aim 70 = .ok (.iadd, 1) := by decide +kernel
theorem dX10_aim_71 : decode cX10_aim 71 = .ok (.istore 5, 2) := by decide +kernel
theorem dX10_aim_73 : decode cX10_aim 73 = .ok (.iinc 6 1, 3) := by decide +kernel
theorem dX10_aim_76 : decode cX10_aim 76 = .ok (.goto (-37), 3) := by decide +kernel
theorem dX10_aim_79 : decode cX10_aim 79 = .ok (.aload_n 0, 1) := by decide +kernel
theorem dX10_aim_80 : decode cX10_aim 80 = .ok (.iload 5, 2) := by decide +kernel
theorem dX10_aim_82 : decode cX10_aim 82 = .ok (.putfield 111, 3) := by decide +kernel
theorem dX10_aim_85 : decode cX10_aim 85 = .ok (.aload_n 0, 1) := by decide +kernel
theorem dX10_aim_86 : decode cX10_aim 86 = .ok (.iload_n 3, 1) := by decide +kernel
theorem dX10_aim_87 : decode cX10_aim 87 = .ok (.putfield 114, 3) := by decide +kernel
theorem dX10_aim_90 : decode cX10_aim 90 = .ok (.iconst 1, 1) := by decide +kernel
theorem dX10_aim_91 : decode cX10_aim 91 = .ok (.istore 6, 2) := by decide +kernel
theorem dX10_aim_93 : decode cX10_aim 93 = .ok (.iload 6, 2) := by decide +kernel
theorem dX10_aim_95 : decode cX10_aim 95 = .ok (.ifCond .eq 57, 3) := by decide +kernel
theorem dX10_aim_98 : decode cX10_aim 98 = .ok (.iconst 0, 1) := by decide +kernel
theorem dX10_aim_99 : decode cX10_aim 99 = .ok (.istore 6, 2) := by decide +kernel
theorem dX10_aim_101 : decode cX10_aim 101 = .ok (.iconst 0, 1) := by decide +kernel
theorem dX10_aim_102 : decode cX10_aim 102 = .ok (.istore 7, 2) := by decide +kernel
theorem dX10_aim_104 : decode cX10_aim 104 = .ok (.iload 7, 2) := by decide +kernel
theorem dX10_aim_106 : decode cX10_aim 106 = .ok (.aload_n 0, 1) := by decide +kernel
theorem dX10_aim_107 : decode cX10_aim 107 = .ok (.getfield 7, 3) := by decide +kernel
theorem dX10_aim_110 : decode cX10_aim 110 = .ok (.iconst 2, 1) := by decide +kernel
theorem dX10_aim_111 : decode cX10_aim 111 = .ok (.iaload, 1) := by decide +kernel
theorem dX10_aim_112 : decode cX10_aim 112 = .ok (.if_icmp .ge 37, 3) := by decide +kernel
theorem dX10_aim_115 : decode cX10_aim 115 = .ok (.iload 6, 2) := by decide +kernel
theorem dX10_aim_117 : decode cX10_aim 117 = .ok (.iload 7, 2) := by decide +kernel
theorem dX10_aim_119 : decode cX10_aim 119 = .ok (.aload_n 0, 1) := by decide +kernel
theorem dX10_aim_120 : decode cX10_aim 120 = .ok (.getfield 114, 3) := by decide +kernel
theorem dX10_aim_123 : decode cX10_aim 123 = .ok (.if_icmp .eq 16, 3) := by decide +kernel
theorem dX10_aim_126 : decode cX10_aim 126 = .ok (.aload_n 0, 1) := by decide +kernel
theorem dX10_aim_127 : decode cX10_aim 127 = .ok (.iload 7, 2) := by decide +kernel
theorem dX10_aim_129 : decode cX10_aim 129 = .ok (.invokevirtual 117, 3) := by decide +kernel
theorem dX10_aim_132 : decode cX10_aim 132 = .ok (.ifCond .eq 7, 3) := by decide +kernel
theorem dX10_aim_135 : decode cX10_aim 135 = .ok (.iconst 1, 1) := by decide +kernel
theorem dX10_aim_136 : decode cX10_aim 136 = .ok (.goto 4, 3) := by decide +kernel
theorem dX10_aim_139 : decode cX10_aim 139 = .ok (.iconst 0, 1) := by decide +kernel
theorem dX10_aim_140 : decode cX10_aim 140 = .ok (.ior, 1) := by decide +kernel
theorem dX10_aim_141 : decode cX10_aim 141 = .ok (.istore 6, 2) := by decide +kernel
theorem dX10_aim_143 : decode cX10_aim 143 = .ok (.iinc 7 1, 3) := by decide +kernel
theorem dX10_aim_146 : decode cX10_aim 146 = .ok (.goto (-42), 3) := by decide +kernel
theorem dX10_aim_149 : decode cX10_aim 149 = .ok (.goto (-56), 3) := by decide +kernel
theorem dX10_aim_152 : decode cX10_aim 152 = .ok (.return_, 1) := by decide +kernel
theorem dX10_push_0 : decode cX10_push 0 = .ok (.iconst 0, 1) := by decide +kernel
theorem dX10_push_1 : decode cX10_push 1 = .ok (.istore_n 2, 1) := by decide +kernel
theorem dX10_push_2 : decode cX10_push 2 = .ok (.iload_n 2, 1) := by decide +kernel
theorem dX10_push_3 : decode cX10_push 3 = .ok (.bipush 11, 2) := by decide +kernel
theorem dX10_push_5 : decode cX10_push 5 = .ok (.if_icmp .ge 111, 3) := by decide +kernel
theorem dX10_push_8 : decode cX10_push 8 = .ok (.ldc2_w 91, 3) := by decide +kernel
theorem dX10_push_11 : decode cX10_push 11 = .ok (.lstore_n 3, 1) := by decide +kernel
theorem dX10_push_12 : decode cX10_push 12 = .ok (.iconst 0, 1) := by decide +kernel
theorem dX10_push_13 : decode cX10_push 13 = .ok (.istore 5, 2) := by decide +kernel
theorem dX10_push_15 : decode cX10_push 15 = .ok (.iload 5, 2) := by decide +kernel
theorem dX10_push_17 : decode cX10_push 17 = .ok (.bipush 11, 2) := by decide +kernel
theorem dX10_push_19 : decode cX10_push 19 = .ok (.if_icmp .ge 74, 3) := by decide +kernel
theorem dX10_push_22 : decode cX10_push 22 = .ok (.aload_n 0, 1) := by decide +kernel
theorem dX10_push_23 : decode cX10_push 23 = .ok (.iload_n 2, 1) := by decide +kernel
theorem dX10_push_24 : decode cX10_push 24 = .ok (.iload_n 1, 1) := by decide +kernel
theorem dX10_push_25 : decode cX10_push 25 = .ok (.iload 5, 2) := by decide +kernel
theorem dX10_push_27 : decode cX10_push 27 = .ok (.invokevirtual 95, 3) := by decide +kernel
theorem dX10_push_30 : decode cX10_push 30 = .ok (.lstore 6, 2) := by decide +kernel
theorem dX10_push_32 : decode cX10_push 32 = .ok (.aload_n 0, 1) := by decide +kernel
theorem dX10_push_33 : decode cX10_push 33 = .ok (.getfield 26, 3) := by decide +kernel
theorem dX10_push_36 : decode cX10_push 36 = .ok (.bipush 11, 2) := by decide +kernel
theorem dX10_push_38 : decode cX10_push 38 = .ok (.aload_n 0, 1) := by decide +kernel
theorem dX10_push_39 : decode cX10_push 39 = .ok (.getfield 120, 3) := by decide +kernel
theorem dX10_push_42 : decode cX10_push 42 = .ok (.imul, 1) := by decide +kernel
theorem dX10_push_43 : decode cX10_push 43 = .ok (.iload 5, 2) := by decide +kernel
theorem dX10_push_45 : decode cX10_push 45 = .ok (.iadd, 1) := by decide +kernel
theorem dX10_push_46 : decode cX10_push 46 = .ok (.laload, 1) := by decide +kernel
theorem dX10_push_47 : decode cX10_push 47 = .ok (.lstore 8, 2) := by decide +kernel
theorem dX10_push_49 : decode cX10_push 49 = .ok (.lload 6, 2) := by decide +kernel
theorem dX10_push_51 : decode cX10_push 51 = .ok (.ldc2_w 91, 3) := by decide +kernel
theorem dX10_push_54 : decode cX10_push 54 = .ok (.lcmp, 1) := by decide +kernel
theorem dX10_push_55 : decode cX10_push 55 = .ok (.ifCond .ge 30, 3) := by decide +kernel
theorem dX10_push_58 : decode cX10_push 58 = .ok (.lload 8, 2) := by decide +kernel
theorem dX10_push_60 : decode cX10_push 60 = .ok (.ldc2_w 91, 3) := by decide +kernel
theorem dX10_push_63 : decode cX10_push 63 = .ok (.lcmp, 1) := by decide +kernel
theorem dX10_push_64 : decode cX10_push 64 = .ok (.ifCond .ge 21, 3) := by decide +kernel
theorem dX10_push_67 : decode cX10_push 67 = .ok (.lload 6, 2) := by decide +kernel
theorem dX10_push_69 : decode cX10_push 69 = .ok (.lload 8, 2) := by decide +kernel
theorem dX10_push_71 : decode cX10_push 71 = .ok (.ladd, 1) := by decide +kernel
theorem dX10_push_72 : decode cX10_push 72 = .ok (.lload_n 3, 1) := by decide +kernel
theorem dX10_push_73 : decode cX10_push 73 = .ok (.lcmp, 1) := by decide +kernel
theorem dX10_push_74 : decode cX10_push 74 = .ok (.ifCond .ge 11, 3) := by decide +kernel
theorem dX10_push_77 : decode cX10_push 77 = .ok (.lload 6, 2) := by decide +kernel
theorem dX10_push_79 : decode cX10_push 79 = .ok (.lload 8, 2) := by decide +kernel
theorem dX10_push_81 : decode cX10_push 81 = .ok (.ladd, 1) := by decide +kernel
theorem dX10_push_82 : decode cX10_push 82 = .ok (.goto 4, 3) := by decide +kernel
theorem dX10_push_85 : decode cX10_push 85 = .ok (.lload_n 3, 1) := by decide +kernel
theorem dX10_push_86 : decode cX10_push 86 = .ok (.lstore_n 3, 1) := by decide +kernel
theorem dX10_push_87 : decode cX10_push 87 = .ok (.iinc 5 1, 3) := by decide +kernel
theorem dX10_push_90 : decode cX10_push 90 = .ok (.goto (-75), 3) := by decide +kernel
theorem dX10_push_93 : decode cX10_push 93 = .ok (.aload_n 0, 1) := by decide +kernel
theorem dX10_push_94 : decode cX10_push 94 = .ok (.getfield 26, 3) := by decide +kernel
theorem dX10_push_97 : decode cX10_push 97 = .ok (.bipush 11, 2) := by decide +kernel
theorem dX10_push_99 : decode cX10_push 99 = .ok (.aload_n 0, 1) := by decide +kernel
theorem dX10_push_100 : decode cX10_push 100 = .ok (.getfield 120, 3) := by decide +kernel
theorem dX10_push_103 : decode cX10_push 103 = .ok (.iconst 1, 1) := by decide +kernel
theorem dX10_push_104 : decode cX10_push 104 = .ok (.iadd, 1) := by decide +kernel
theorem dX10_push_105 : decode cX10_push 105 = .ok (.imul, 1) := by decide +kernel
theorem dX10_push_106 : decode cX10_push 106 = .ok (.iload_n 2, 1) := by decide +kernel
theorem dX10_push_107 : decode cX10_push 107 = .ok (.iadd, 1) := by decide +kernel
theorem dX10_push_108 : decode cX10_push 108 = .ok (.lload_n 3, 1) := by decide +kernel
theorem dX10_push_109 : decode cX10_push 109 = .ok (.lastore, 1) := by decide +kernel
theorem dX10_push_110 : decode cX10_push 110 = .ok (.iinc 2 1, 3) := by decide +kernel
theorem dX10_push_113 : decode cX10_push 113 = .ok (.goto (-111), 3) := by decide +kernel
theorem dX10_push_116 : decode cX10_push 116 = .ok (.aload_n 0, 1) := by decide +kernel
theorem dX10_push_117 : decode cX10_push 117 = .ok (.getfield 23, 3) := by decide +kernel
theorem dX10_push_120 : decode cX10_push 120 = .ok (.aload_n 0, 1) := by decide +kernel
theorem dX10_push_121 : decode cX10_push 121 = .ok (.getfield 120, 3) := by decide +kernel
theorem dX10_push_124 : decode cX10_push 124 = .ok (.iload_n 1, 1) := by decide +kernel
theorem dX10_push_125 : decode cX10_push 125 = .ok (.iastore, 1) := by decide +kernel
theorem dX10_push_126 : decode cX10_push 126 = .ok (.aload_n 0, 1) := by decide +kernel
theorem dX10_push_127 : decode cX10_push 127 = .ok (.dup, 1) := by decide +kernel
theorem dX10_push_128 : decode cX10_push 128 = .ok (.getfield 120, 3) := by decide +kernel
theorem dX10_push_131 : decode cX10_push 131 = .ok (.iconst 1, 1) := by decide +kernel
theorem dX10_push_132 : decode cX10_push 132 = .ok (.iadd, 1) := by decide +kernel
theorem dX10_push_133 : decode cX10_push 133 = .ok (.putfield 120, 3) := by decide +kernel
theorem dX10_push_136 : decode cX10_push 136 = .ok (.return_, 1) := by decide +kernel
theorem dX10_pushWord_0 : decode cX10_pushWord 0 = .ok (.iload_n 1, 1) := by decide +kernel
theorem dX10_pushWord_1 : decode cX10_pushWord 1 = .ok (.istore_n 2, 1) := by decide +kernel
theorem dX10_pushWord_2 : decode cX10_pushWord 2 = .ok (.iload_n 2, 1) := by decide +kernel
theorem dX10_pushWord_3 : decode cX10_pushWord 3 = .ok (.ifCond .le 19, 3) := by decide +kernel
theorem dX10_pushWord_6 : decode cX10_pushWord 6 = .ok (.aload_n 0, 1) := by decide +kernel
theorem dX10_pushWord_7 : decode cX10_pushWord 7 = .ok (.iload_n 2, 1) := by decide +kernel
theorem dX10_pushWord_8 : decode cX10_pushWord 8 = .ok (.bipush 10, 2) := by decide +kernel
theorem dX10_pushWord_10 : decode cX10_pushWord 10 = .ok (.irem, 1) := by decide +kernel
theorem dX10_pushWord_11 : decode cX10_pushWord 11 = .ok (.invokevirtual 123, 3) := by decide +kernel
theorem dX10_pushWord_14 : decode cX10_pushWord 14 = .ok (.iload_n 2, 1) := by decide +kernel
theorem dX10_pushWord_15 : decode cX10_pushWord 15 = .ok (.bipush 10, 2) := by decide +kernel
theorem dX10_pushWord_17 : decode cX10_pushWord 17 = .ok (.idiv, 1) := by decide +kernel
theorem dX10_pushWord_18 : decode cX10_pushWord 18 = .ok (.istore_n 2, 1) := by decide +kernel
theorem dX10_pushWord_19 : decode cX10_pushWord 19 = .ok (.goto (-17), 3) := by decide +kernel
theorem dX10_pushWord_22 : decode cX10_pushWord 22 = .ok (.return_, 1) := by decide +kernel
theorem dX10_start_0 : decode cX10_start 0 = .ok (.iconst 0, 1) := by decide +kernel
theorem dX10_start_1 : decode cX10_start 1 = .ok (.istore_n 1, 1) := by decide +kernel
theorem dX10_start_2 : decode cX10_start 2 = .ok (.iload_n 1, 1) := by decide +kernel
theorem dX10_start_3 : decode cX10_start 3 = .ok (.bipush 11, 2) := by decide +kernel
theorem dX10_start_5 : decode cX10_start 5 = .ok (.if_icmp .ge 30, 3) := by decide +kernel
theorem dX10_start_8 : decode cX10_start 8 = .ok (.aload_n 0, 1) := by decide +kernel
theorem dX10_start_9 : decode cX10_start 9 = .ok (.getfield 26, 3) := by decide +kernel
theorem dX10_start_12 : decode cX10_start 12 = .ok (.iload_n 1, 1) := by decide +kernel
theorem dX10_start_13 : decode cX10_start 13 = .ok (.iload_n 1, 1) := by decide +kernel
theorem dX10_start_14 : decode cX10_start 14 = .ok (.aload_n 0, 1) := by decide +kernel
theorem dX10_start_15 : decode cX10_start 15 = .ok (.getfield 111, 3) := by decide +kernel
theorem dX10_start_18 : decode cX10_start 18 = .ok (.if_icmp .ne 7, 3) := by decide +kernel
theorem dX10_start_21 : decode cX10_start 21 = .ok (.lconst 0, 1) := by decide +kernel
theorem dX10_start_22 : decode cX10_start 22 = .ok (.goto 6, 3) := by decide +kernel
theorem dX10_start_25 : decode cX10_start 25 = .ok (.ldc2_w 91, 3) := by decide +kernel
theorem dX10_start_28 : decode cX10_start 28 = .ok (.lastore, 1) := by decide +kernel
theorem dX10_start_29 : decode cX10_start 29 = .ok (.iinc 1 1, 3) := by decide +kernel
theorem dX10_start_32 : decode cX10_start 32 = .ok (.goto (-30), 3) := by decide +kernel
theorem dX10_start_35 : decode cX10_start 35 = .ok (.aload_n 0, 1) := by decide +kernel
theorem dX10_start_36 : decode cX10_start 36 = .ok (.iconst 0, 1) := by decide +kernel
theorem dX10_start_37 : decode cX10_start 37 = .ok (.putfield 120, 3) := by decide +kernel
theorem dX10_start_40 : decode cX10_start 40 = .ok (.aload_n 0, 1) := by decide +kernel
theorem dX10_start_41 : decode cX10_start 41 = .ok (.aload_n 0, 1) := by decide +kernel
theorem dX10_start_42 : decode cX10_start 42 = .ok (.getfield 7, 3) := by decide +kernel
theorem dX10_start_45 : decode cX10_start 45 = .ok (.iconst 4, 1) := by decide +kernel
theorem dX10_start_46 : decode cX10_start 46 = .ok (.iaload, 1) := by decide +kernel
theorem dX10_start_47 : decode cX10_start 47 = .ok (.invokevirtual 127, 3) := by decide +kernel
theorem dX10_start_50 : decode cX10_start 50 = .ok (.aload_n 0, 1) := by decide +kernel
theorem dX10_start_51 : decode cX10_start 51 = .ok (.getfield 26, 3) := by decide +kernel
theorem dX10_start_54 : decode cX10_start 54 = .ok (.bipush 11, 2) := by decide +kernel
theorem dX10_start_56 : decode cX10_start 56 = .ok (.aload_n 0, 1) := by decide +kernel
theorem dX10_start_57 : decode cX10_start 57 = .ok (.getfield 120, 3) := by decide +kernel
theorem dX10_start_60 : decode cX10_start 60 = .ok (.imul, 1) := by decide +kernel
theorem dX10_start_61 : decode cX10_start 61 = .ok (.aload_n 0, 1) := by decide +kernel
theorem dX10_start_62 : decode cX10_start 62 = .ok (.getfield 7, 3) := by decide +kernel
theorem dX10_start_65 : decode cX10_start 65 = .ok (.iconst 3, 1) := by decide +kernel
theorem dX10_start_66 : decode cX10_start 66 = .ok (.iaload, 1) := by decide +kernel
theorem dX10_start_67 : decode cX10_start 67 = .ok (.iadd, 1) := by decide +kernel
theorem dX10_start_68 : decode cX10_start 68 = .ok (.laload, 1) := by decide +kernel
theorem dX10_start_69 : decode cX10_start 69 = .ok (.lreturn, 1) := by decide +kernel
theorem dX10_costTo_0 : decode cX10_costTo 0 = .ok (.aload_n 0, 1) := by decide +kernel
theorem dX10_costTo_1 : decode cX10_costTo 1 = .ok (.iload_n 1, 1) := by decide +kernel
theorem dX10_costTo_2 : decode cX10_costTo 2 = .ok (.iload_n 2, 1) := by decide +kernel
theorem dX10_costTo_3 : decode cX10_costTo 3 = .ok (.iload_n 3, 1) := by decide +kernel
theorem dX10_costTo_4 : decode cX10_costTo 4 = .ok (.invokevirtual 130, 3) := by decide +kernel
theorem dX10_costTo_7 : decode cX10_costTo 7 = .ok (.aload_n 0, 1) := by decide +kernel
theorem dX10_costTo_8 : decode cX10_costTo 8 = .ok (.invokevirtual 134, 3) := by decide +kernel
theorem dX10_costTo_11 : decode cX10_costTo 11 = .ok (.lstore 4, 2) := by decide +kernel
theorem dX10_costTo_13 : decode cX10_costTo 13 = .ok (.lload 4, 2) := by decide +kernel
theorem dX10_costTo_15 : decode cX10_costTo 15 = .ok (.ldc2_w 93, 3) := by decide +kernel
theorem dX10_costTo_18 : decode cX10_costTo 18 = .ok (.ldiv, 1) := by decide +kernel
theorem dX10_costTo_19 : decode cX10_costTo 19 = .ok (.ldc2_w 138, 3) := by decide +kernel
theorem dX10_costTo_22 : decode cX10_costTo 22 = .ok (.lcmp, 1) := by decide +kernel
theorem dX10_costTo_23 : decode cX10_costTo 23 = .ok (.ifCond .le 9, 3) := by decide +kernel
theorem dX10_costTo_26 : decode cX10_costTo 26 = .ok (.ldc2_w 91, 3) := by decide +kernel
theorem dX10_costTo_29 : decode cX10_costTo 29 = .ok (.goto 5, 3) := by decide +kernel
theorem dX10_costTo_32 : decode cX10_costTo 32 = .ok (.lload 4, 2) := by decide +kernel
theorem dX10_costTo_34 : decode cX10_costTo 34 = .ok (.lreturn, 1) := by decide +kernel
theorem dX10_isAsked_0 : decode cX10_isAsked 0 = .ok (.aload_n 0, 1) := by decide +kernel
theorem dX10_isAsked_1 : decode cX10_isAsked 1 = .ok (.iload_n 1, 1) := by decide +kernel
theorem dX10_isAsked_2 : decode cX10_isAsked 2 = .ok (.invokevirtual 71, 3) := by decide +kernel
theorem dX10_isAsked_5 : decode cX10_isAsked 5 = .ok (.ifCond .eq 18, 3) := by decide +kernel
theorem dX10_isAsked_8 : decode cX10_isAsked 8 = .ok (.aload_n 0, 1) := by decide +kernel
theorem dX10_isAsked_9 : decode cX10_isAsked 9 = .ok (.iload_n 2, 1) := by decide +kernel
theorem dX10_isAsked_10 : decode cX10_isAsked 10 = .ok (.iconst 0, 1) := by decide +kernel
theorem dX10_isAsked_11 : decode cX10_isAsked 11 = .ok (.bipush 6, 2) := by decide +kernel
theorem dX10_isAsked_13 : decode cX10_isAsked 13 = .ok (.invokevirtual 74, 3) := by decide +kernel
theorem dX10_isAsked_16 : decode cX10_isAsked 16 = .ok (.ifCond .eq 7, 3) := by decide +kernel
theorem dX10_isAsked_19 : decode cX10_isAsked 19 = .ok (.iconst 1, 1) := by decide +kernel
theorem dX10_isAsked_20 : decode cX10_isAsked 20 = .ok (.goto 4, 3) := by decide +kernel
theorem dX10_isAsked_23 : decode cX10_isAsked 23 = .ok (.iconst 0, 1) := by decide +kernel
theorem dX10_isAsked_24 : decode cX10_isAsked 24 = .ok (.ireturn, 1) := by decide +kernel
theorem dX10_distanceTo_0 : decode cX10_distanceTo 0 = .ok (.aload_n 0, 1) := by decide +kernel
theorem dX10_distanceTo_1 : decode cX10_distanceTo 1 = .ok (.iload_n 1, 1) := by decide +kernel
theorem dX10_distanceTo_2 : decode cX10_distanceTo 2 = .ok (.iload_n 2, 1) := by decide +kernel
theorem dX10_distanceTo_3 : decode cX10_distanceTo 3 = .ok (.iload_n 3, 1) := by decide +kernel
theorem dX10_distanceTo_4 : decode cX10_distanceTo 4 = .ok (.invokevirtual 140, 3) := by decide +kernel
theorem dX10_distanceTo_7 : decode cX10_distanceTo 7 = .ok (.lstore 4, 2) := by decide +kernel
theorem dX10_distanceTo_9 : decode cX10_distanceTo 9 = .ok (.lload 4, 2) := by decide +kernel
theorem dX10_distanceTo_11 : decode cX10_distanceTo 11 = .ok (.ldc2_w 91, 3) := by decide +kernel
theorem dX10_distanceTo_14 : decode cX10_distanceTo 14 = .ok (.lcmp, 1) := by decide +kernel
theorem dX10_distanceTo_15 : decode cX10_distanceTo 15 = .ok (.ifCond .ne 8, 3) := by decide +kernel
theorem dX10_distanceTo_18 : decode cX10_distanceTo 18 = .ok (.bipush (-6), 2) := by decide +kernel
theorem dX10_distanceTo_20 : decode cX10_distanceTo 20 = .ok (.goto 10, 3) := by decide +kernel
theorem dX10_distanceTo_23 : decode cX10_distanceTo 23 = .ok (.lload 4, 2) := by decide +kernel
theorem dX10_distanceTo_25 : decode cX10_distanceTo 25 = .ok (.ldc2_w 93, 3) := by decide +kernel
theorem dX10_distanceTo_28 : decode cX10_distanceTo 28 = .ok (.ldiv, 1) := by decide +kernel
theorem dX10_distanceTo_29 : decode cX10_distanceTo 29 = .ok (.l2i, 1) := by decide +kernel
theorem dX10_distanceTo_30 : decode cX10_distanceTo 30 = .ok (.ireturn, 1) := by decide +kernel
theorem dX10_distance_0 : decode cX10_distance 0 = .ok (.aload_n 0, 1) := by decide +kernel
theorem dX10_distance_1 : decode cX10_distance 1 = .ok (.iload_n 1, 1) := by decide +kernel
theorem dX10_distance_2 : decode cX10_distance 2 = .ok (.iload_n 2, 1) := by decide +kernel
theorem dX10_distance_3 : decode cX10_distance 3 = .ok (.invokevirtual 143, 3) := by decide +kernel
theorem dX10_distance_6 : decode cX10_distance 6 = .ok (.ifCond .eq 13, 3) := by decide +kernel
theorem dX10_distance_9 : decode cX10_distance 9 = .ok (.aload_n 0, 1) := by decide +kernel
theorem dX10_distance_10 : decode cX10_distance 10 = .ok (.iload_n 1, 1) := by decide +kernel
theorem dX10_distance_11 : decode cX10_distance 11 = .ok (.iload_n 2, 1) := by decide +kernel
theorem dX10_distance_12 : decode cX10_distance 12 = .ok (.iconst (-1), 1) := by decide +kernel
theorem dX10_distance_13 : decode cX10_distance 13 = .ok (.invokevirtual 147, 3) := by decide +kernel
theorem dX10_distance_16 : decode cX10_distance 16 = .ok (.goto 4, 3) := by decide +kernel
theorem dX10_distance_19 : decode cX10_distance 19 = .ok (.iconst (-1), 1) := by decide +kernel
theorem dX10_distance_20 : decode cX10_distance 20 = .ok (.ireturn, 1) := by decide +kernel
theorem dX10_steps_0 : decode cX10_steps 0 = .ok (.aload_n 0, 1) := by decide +kernel
theorem dX10_steps_1 : decode cX10_steps 1 = .ok (.iload_n 1, 1) := by decide +kernel
theorem dX10_steps_2 : decode cX10_steps 2 = .ok (.iload_n 2, 1) := by decide +kernel
theorem dX10_steps_3 : decode cX10_steps 3 = .ok (.invokevirtual 143, 3) := by decide +kernel
theorem dX10_steps_6 : decode cX10_steps 6 = .ok (.ifCond .ne 5, 3) := by decide +kernel
theorem dX10_steps_9 : decode cX10_steps 9 = .ok (.iconst (-1), 1) := by decide +kernel
theorem dX10_steps_10 : decode cX10_steps 10 = .ok (.ireturn, 1) := by decide +kernel
theorem dX10_steps_11 : decode cX10_steps 11 = .ok (.aload_n 0, 1) := by decide +kernel
theorem dX10_steps_12 : decode cX10_steps 12 = .ok (.iload_n 1, 1) := by decide +kernel
theorem dX10_steps_13 : decode cX10_steps 13 = .ok (.iload_n 2, 1) := by decide +kernel
theorem dX10_steps_14 : decode cX10_steps 14 = .ok (.iconst (-1), 1) := by decide +kernel
theorem dX10_steps_15 : decode cX10_steps 15 = .ok (.invokevirtual 140, 3) := by decide +kernel
theorem dX10_steps_18 : decode cX10_steps 18 = .ok (.lstore_n 3, 1) := by decide +kernel
theorem dX10_steps_19 : decode cX10_steps 19 = .ok (.lload_n 3, 1) := by decide +kernel
theorem dX10_steps_20 : decode cX10_steps 20 = .ok (.ldc2_w 91, 3) := by decide +kernel
theorem dX10_steps_23 : decode cX10_steps 23 = .ok (.lcmp, 1) := by decide +kernel
theorem dX10_steps_24 : decode cX10_steps 24 = .ok (.ifCond .ne 8, 3) := by decide +kernel
theorem dX10_steps_27 : decode cX10_steps 27 = .ok (.bipush (-6), 2) := by decide +kernel
theorem dX10_steps_29 : decode cX10_steps 29 = .ok (.goto 9, 3) := by decide +kernel
theorem dX10_steps_32 : decode cX10_steps 32 = .ok (.lload_n 3, 1) := by decide +kernel
theorem dX10_steps_33 : decode cX10_steps 33 = .ok (.ldc2_w 93, 3) := by decide +kernel
theorem dX10_steps_36 : decode cX10_steps 36 = .ok (.lrem, 1) := by decide +kernel
theorem dX10_steps_37 : decode cX10_steps 37 = .ok (.l2i, 1) := by decide +kernel
theorem dX10_steps_38 : decode cX10_steps 38 = .ok (.ireturn, 1) := by decide +kernel
theorem dX10_firstOf_0 : decode cX10_firstOf 0 = .ok (.iconst 0, 1) := by decide +kernel
theorem dX10_firstOf_1 : decode cX10_firstOf 1 = .ok (.istore 5, 2) := by decide +kernel
theorem dX10_firstOf_3 : decode cX10_firstOf 3 = .ok (.iload 5, 2) := by decide +kernel
theorem dX10_firstOf_5 : decode cX10_firstOf 5 = .ok (.aload_n 0, 1) := by decide +kernel
theorem dX10_firstOf_6 : decode cX10_firstOf 6 = .ok (.getfield 7, 3) := by decide +kernel
theorem dX10_firstOf_9 : decode cX10_firstOf 9 = .ok (.iconst 2, 1) := by decide +kernel
theorem dX10_firstOf_10 : decode cX10_firstOf 10 = .ok (.iaload, 1) := by decide +kernel
theorem dX10_firstOf_11 : decode cX10_firstOf 11 = .ok (.if_icmp .ge 187, 3) := by decide +kernel
theorem dX10_firstOf_14 : decode cX10_firstOf 14 = .ok (.aload_n 0, 1) := by decide +kernel
theorem dX10_firstOf_15 : decode cX10_firstOf 15 = .ok (.iload 5, 2) := by decide +kernel
theorem dX10_firstOf_17 : decode cX10_firstOf 17 = .ok (.iconst 0, 1) := by decide +kernel
theorem dX10_firstOf_18 : decode cX10_firstOf 18 = .ok (.invokevirtual 67, 3) := by decide +kernel
theorem dX10_firstOf_21 : decode cX10_firstOf 21 = .ok (.iload_n 1, 1) := by decide +kernel
theorem dX10_firstOf_22 : decode cX10_firstOf 22 = .ok (.if_icmp .ne 170, 3) := by decide +kernel
theorem dX10_firstOf_25 : decode cX10_firstOf 25 = .ok (.aload_n 0, 1) := by decide +kernel
theorem dX10_firstOf_26 : decode cX10_firstOf 26 = .ok (.iload 5, 2) := by decide +kernel
theorem dX10_firstOf_28 : decode cX10_firstOf 28 = .ok (.iconst 1, 1) := by decide +kernel
theorem dX10_firstOf_29 : decode cX10_firstOf 29 = .ok (.invokevirtual 67, 3) := by decide +kernel
theorem dX10_firstOf_32 : decode cX10_firstOf 32 = .ok (.aload_n 0, 1) := by decide +kernel
theorem dX10_firstOf_33 : decode cX10_firstOf 33 = .ok (.getfield 23, 3) := by decide +kernel
theorem dX10_firstOf_36 : decode cX10_firstOf 36 = .ok (.aload_n 0, 1) := by decide +kernel
theorem dX10_firstOf_37 : decode cX10_firstOf 37 = .ok (.getfield 120, 3) := by decide +kernel
theorem dX10_firstOf_40 : decode cX10_firstOf 40 = .ok (.iconst 1, 1) := by decide +kernel
theorem dX10_firstOf_41 : decode cX10_firstOf 41 = .ok (.isub, 1) := by decide +kernel
theorem dX10_firstOf_42 : decode cX10_firstOf 42 = .ok (.iaload, 1) := by decide +kernel
theorem dX10_firstOf_43 : decode cX10_firstOf 43 = .ok (.if_icmp .ne 149, 3) := by decide +kernel
theorem dX10_firstOf_46 : decode cX10_firstOf 46 = .ok (.aload_n 0, 1) := by decide +kernel
theorem dX10_firstOf_47 : decode cX10_firstOf 47 = .ok (.getfield 23, 3) := by decide +kernel
theorem dX10_firstOf_50 : decode cX10_firstOf 50 = .ok (.aload_n 0, 1) := by decide +kernel
theorem dX10_firstOf_51 : decode cX10_firstOf 51 = .ok (.getfield 120, 3) := by decide +kernel
theorem dX10_firstOf_54 : decode cX10_firstOf 54 = .ok (.iconst 1, 1) := by decide +kernel
theorem dX10_firstOf_55 : decode cX10_firstOf 55 = .ok (.isub, 1) := by decide +kernel
theorem dX10_firstOf_56 : decode cX10_firstOf 56 = .ok (.iaload, 1) := by decide +kernel
theorem dX10_firstOf_57 : decode cX10_firstOf 57 = .ok (.istore 6, 2) := by decide +kernel
theorem dX10_firstOf_59 : decode cX10_firstOf 59 = .ok (.aload_n 0, 1) := by decide +kernel
theorem dX10_firstOf_60 : decode cX10_firstOf 60 = .ok (.dup, 1) := by decide +kernel
theorem dX10_firstOf_61 : decode cX10_firstOf 61 = .ok (.getfield 120, 3) := by decide +kernel
theorem dX10_firstOf_64 : decode cX10_firstOf 64 = .ok (.iconst 1, 1) := by decide +kernel
theorem dX10_firstOf_65 : decode cX10_firstOf 65 = .ok (.isub, 1) := by decide +kernel
theorem dX10_firstOf_66 : decode cX10_firstOf 66 = .ok (.putfield 120, 3) := by decide +kernel
theorem dX10_firstOf_69 : decode cX10_firstOf 69 = .ok (.aload_n 0, 1) := by decide +kernel
theorem dX10_firstOf_70 : decode cX10_firstOf 70 = .ok (.aload_n 0, 1) := by decide +kernel
theorem dX10_firstOf_71 : decode cX10_firstOf 71 = .ok (.iload 5, 2) := by decide +kernel
theorem dX10_firstOf_73 : decode cX10_firstOf 73 = .ok (.iconst 3, 1) := by decide +kernel
theorem dX10_firstOf_74 : decode cX10_firstOf 74 = .ok (.invokevirtual 67, 3) := by decide +kernel
theorem dX10_firstOf_77 : decode cX10_firstOf 77 = .ok (.invokevirtual 127, 3) := by decide +kernel
theorem dX10_firstOf_80 : decode cX10_firstOf 80 = .ok (.aload_n 0, 1) := by decide +kernel
theorem dX10_firstOf_81 : decode cX10_firstOf 81 = .ok (.getfield 26, 3) := by decide +kernel
theorem dX10_firstOf_84 : decode cX10_firstOf 84 = .ok (.bipush 11, 2) := by decide +kernel
theorem dX10_firstOf_86 : decode cX10_firstOf 86 = .ok (.aload_n 0, 1) := by decide +kernel
theorem dX10_firstOf_87 : decode cX10_firstOf 87 = .ok (.getfield 120, 3) := by decide +kernel
theorem dX10_firstOf_90 : decode cX10_firstOf 90 = .ok (.imul, 1) := by decide +kernel
theorem dX10_firstOf_91 : decode cX10_firstOf 91 = .ok (.aload_n 0, 1) := by decide +kernel
theorem dX10_firstOf_92 : decode cX10_firstOf 92 = .ok (.iload 5, 2) := by decide +kernel
theorem dX10_firstOf_94 : decode cX10_firstOf 94 = .ok (.iconst 2, 1) := by decide +kernel
theorem dX10_firstOf_95 : decode cX10_firstOf 95 = .ok (.invokevirtual 67, 3) := by decide +kernel
theorem dX10_firstOf_98 : decode cX10_firstOf 98 = .ok (.iadd, 1) := by decide +kernel
theorem dX10_firstOf_99 : decode cX10_firstOf 99 = .ok (.laload, 1) := by decide +kernel
theorem dX10_firstOf_100 : decode cX10_firstOf 100 = .ok (.ldc2_w 91, 3) := by decide +kernel
theorem dX10_firstOf_103 : decode cX10_firstOf 103 = .ok (.lcmp, 1) := by decide +kernel
theorem dX10_firstOf_104 : decode cX10_firstOf 104 = .ok (.ifCond .ge 39, 3) := by decide +kernel
theorem dX10_firstOf_107 : decode cX10_firstOf 107 = .ok (.aload_n 0, 1) := by decide +kernel
theorem dX10_firstOf_108 : decode cX10_firstOf 108 = .ok (.getfield 26, 3) := by decide +kernel
theorem dX10_firstOf_111 : decode cX10_firstOf 111 = .ok (.bipush 11, 2) := by decide +kernel
theorem dX10_firstOf_113 : decode cX10_firstOf 113 = .ok (.aload_n 0, 1) := by decide +kernel
theorem dX10_firstOf_114 : decode cX10_firstOf 114 = .ok (.getfield 120, 3) := by decide +kernel
theorem dX10_firstOf_117 : decode cX10_firstOf 117 = .ok (.imul, 1) := by decide +kernel
theorem dX10_firstOf_118 : decode cX10_firstOf 118 = .ok (.aload_n 0, 1) := by decide +kernel
theorem dX10_firstOf_119 : decode cX10_firstOf 119 = .ok (.iload 5, 2) := by decide +kernel
theorem dX10_firstOf_121 : decode cX10_firstOf 121 = .ok (.iconst 2, 1) := by decide +kernel
theorem dX10_firstOf_122 : decode cX10_firstOf 122 = .ok (.invokevirtual 67, 3) := by decide +kernel
theorem dX10_firstOf_125 : decode cX10_firstOf 125 = .ok (.iadd, 1) := by decide +kernel
theorem dX10_firstOf_126 : decode cX10_firstOf 126 = .ok (.laload, 1) := by decide +kernel
theorem dX10_firstOf_127 : decode cX10_firstOf 127 = .ok (.aload_n 0, 1) := by decide +kernel
theorem dX10_firstOf_128 : decode cX10_firstOf 128 = .ok (.iload 5, 2) := by decide +kernel
theorem dX10_firstOf_130 : decode cX10_firstOf 130 = .ok (.invokevirtual 99, 3) := by decide +kernel
theorem dX10_firstOf_133 : decode cX10_firstOf 133 = .ok (.ladd, 1) := by decide +kernel
theorem dX10_firstOf_134 : decode cX10_firstOf 134 = .ok (.lload_n 2, 1) := by decide +kernel
theorem dX10_firstOf_135 : decode cX10_firstOf 135 = .ok (.lcmp, 1) := by decide +kernel
theorem dX10_firstOf_136 : decode cX10_firstOf 136 = .ok (.ifCond .ne 7, 3) := by decide +kernel
theorem dX10_firstOf_139 : decode cX10_firstOf 139 = .ok (.iconst 1, 1) := by decide +kernel
theorem dX10_firstOf_140 : decode cX10_firstOf 140 = .ok (.goto 4, 3) := by decide +kernel
theorem dX10_firstOf_143 : decode cX10_firstOf 143 = .ok (.iconst 0, 1) := by decide +kernel
theorem dX10_firstOf_144 : decode cX10_firstOf 144 = .ok (.istore 7, 2) := by decide +kernel
theorem dX10_firstOf_146 : decode cX10_firstOf 146 = .ok (.iload 7, 2) := by decide +kernel
theorem dX10_firstOf_148 : decode cX10_firstOf 148 = .ok (.ifCond .eq 11, 3) := by decide +kernel
theorem dX10_firstOf_151 : decode cX10_firstOf 151 = .ok (.iload 4, 2) := by decide +kernel
theorem dX10_firstOf_153 : decode cX10_firstOf 153 = .ok (.ifCond .ne 6, 3) := by decide +kernel
theorem dX10_firstOf_156 : decode cX10_firstOf 156 = .ok (.iload 5, 2) := by decide +kernel
theorem dX10_firstOf_158 : decode cX10_firstOf 158 = .ok (.ireturn, 1) := by decide +kernel
theorem dX10_firstOf_159 : decode cX10_firstOf 159 = .ok (.aload_n 0, 1) := by decide +kernel
theorem dX10_firstOf_160 : decode cX10_firstOf 160 = .ok (.dup, 1) := by decide +kernel
theorem dX10_firstOf_161 : decode cX10_firstOf 161 = .ok (.getfield 120, 3) := by decide +kernel
theorem dX10_firstOf_164 : decode cX10_firstOf 164 = .ok (.aload_n 0, 1) := by decide +kernel
theorem dX10_firstOf_165 : decode cX10_firstOf 165 = .ok (.iload 5, 2) := by decide +kernel
theorem dX10_firstOf_167 : decode cX10_firstOf 167 = .ok (.iconst 3, 1) := by decide +kernel
theorem dX10_firstOf_168 : decode cX10_firstOf 168 = .ok (.invokevirtual 67, 3) := by decide +kernel
theorem dX10_firstOf_171 : decode cX10_firstOf 171 = .ok (.invokestatic 48, 3) := by decide +kernel
theorem dX10_firstOf_174 : decode cX10_firstOf 174 = .ok (.isub, 1) := by decide +kernel
theorem dX10_firstOf_175 : decode cX10_firstOf 175 = .ok (.putfield 120, 3) := by decide +kernel
theorem dX10_firstOf_178 : decode cX10_firstOf 178 = .ok (.aload_n 0, 1) := by decide +kernel
theorem dX10_firstOf_179 : decode cX10_firstOf 179 = .ok (.iload 6, 2) := by decide +kernel
theorem dX10_firstOf_181 : decode cX10_firstOf 181 = .ok (.invokevirtual 123, 3) := by decide +kernel
theorem dX10_firstOf_184 : decode cX10_firstOf 184 = .ok (.iload 7, 2) := by decide +kernel
theorem dX10_firstOf_186 : decode cX10_firstOf 186 = .ok (.ifCond .eq 6, 3) := by decide +kernel
theorem dX10_firstOf_189 : decode cX10_firstOf 189 = .ok (.iload 5, 2) := by decide +kernel
theorem dX10_firstOf_191 : decode cX10_firstOf 191 = .ok (.ireturn, 1) := by decide +kernel
theorem dX10_firstOf_192 : decode cX10_firstOf 192 = .ok (.iinc 5 1, 3) := by decide +kernel
theorem dX10_firstOf_195 : decode cX10_firstOf 195 = .ok (.goto (-192), 3) := by decide +kernel
theorem dX10_firstOf_198 : decode cX10_firstOf 198 = .ok (.bipush (-6), 2) := by decide +kernel
theorem dX10_firstOf_200 : decode cX10_firstOf 200 = .ok (.ireturn, 1) := by decide +kernel
theorem dX10_witness_0 : decode cX10_witness 0 = .ok (.aload_n 0, 1) := by decide +kernel
theorem dX10_witness_1 : decode cX10_witness 1 = .ok (.iload_n 1, 1) := by decide +kernel
theorem dX10_witness_2 : decode cX10_witness 2 = .ok (.iload_n 2, 1) := by decide +kernel
theorem dX10_witness_3 : decode cX10_witness 3 = .ok (.invokevirtual 143, 3) := by decide +kernel
theorem dX10_witness_6 : decode cX10_witness 6 = .ok (.ifCond .ne 5, 3) := by decide +kernel
theorem dX10_witness_9 : decode cX10_witness 9 = .ok (.iconst (-1), 1) := by decide +kernel
theorem dX10_witness_10 : decode cX10_witness 10 = .ok (.ireturn, 1) := by decide +kernel
theorem dX10_witness_11 : decode cX10_witness 11 = .ok (.iload_n 3, 1) := by decide +kernel
theorem dX10_witness_12 : decode cX10_witness 12 = .ok (.iconst 0, 1) := by decide +kernel
theorem dX10_witness_13 : decode cX10_witness 13 = .ok (.sipush 300, 3) := by decide +kernel
theorem dX10_witness_16 : decode cX10_witness 16 = .ok (.invokestatic 44, 3) := by decide +kernel
theorem dX10_witness_19 : decode cX10_witness 19 = .ok (.ifCond .eq 13, 3) := by decide +kernel
theorem dX10_witness_22 : decode cX10_witness 22 = .ok (.iload 4, 2) := by decide +kernel
theorem dX10_witness_24 : decode cX10_witness 24 = .ok (.iconst 0, 1) := by decide +kernel
theorem dX10_witness_25 : decode cX10_witness 25 = .ok (.iconst 3, 1) := by decide +kernel
theorem dX10_witness_26 : decode cX10_witness 26 = .ok (.invokestatic 44, 3) := by decide +kernel
theorem dX10_witness_29 : decode cX10_witness 29 = .ok (.ifCond .ne 6, 3) := by decide +kernel
theorem dX10_witness_32 : decode cX10_witness 32 = .ok (.bipush (-2), 2) := by decide +kernel
theorem dX10_witness_34 : decode cX10_witness 34 = .ok (.ireturn, 1) := by decide +kernel
theorem dX10_witness_35 : decode cX10_witness 35 = .ok (.aload_n 0, 1) := by decide +kernel
theorem dX10_witness_36 : decode cX10_witness 36 = .ok (.iload_n 1, 1) := by decide +kernel
theorem dX10_witness_37 : decode cX10_witness 37 = .ok (.iload_n 2, 1) := by decide +kernel
theorem dX10_witness_38 : decode cX10_witness 38 = .ok (.iconst (-1), 1) := by decide +kernel
theorem dX10_witness_39 : decode cX10_witness 39 = .ok (.invokevirtual 140, 3) := by decide +kernel
theorem dX10_witness_42 : decode cX10_witness 42 = .ok (.lstore 5, 2) := by decide +kernel
theorem dX10_witness_44 : decode cX10_witness 44 = .ok (.lload 5, 2) := by decide +kernel
theorem dX10_witness_46 : decode cX10_witness 46 = .ok (.ldc2_w 91, 3) := by decide +kernel
theorem dX10_witness_49 : decode cX10_witness 49 = .ok (.lcmp, 1) := by decide +kernel
theorem dX10_witness_50 : decode cX10_witness 50 = .ok (.ifCond .eq 15, 3) := by decide +kernel
theorem dX10_witness_53 : decode cX10_witness 53 = .ok (.lload 5, 2) := by decide +kernel
theorem dX10_witness_55 : decode cX10_witness 55 = .ok (.ldc2_w 93, 3) := by decide +kernel
theorem dX10_witness_58 : decode cX10_witness 58 = .ok (.lrem, 1) := by decide +kernel
theorem dX10_witness_59 : decode cX10_witness 59 = .ok (.iload_n 3, 1) := by decide +kernel
theorem dX10_witness_60 : decode cX10_witness 60 = .ok (.i2l, 1) := by decide +kernel
theorem dX10_witness_61 : decode cX10_witness 61 = .ok (.lcmp, 1) := by decide +kernel
theorem dX10_witness_62 : decode cX10_witness 62 = .ok (.ifCond .gt 6, 3) := by decide +kernel
theorem dX10_witness_65 : decode cX10_witness 65 = .ok (.bipush (-6), 2) := by decide +kernel
theorem dX10_witness_67 : decode cX10_witness 67 = .ok (.ireturn, 1) := by decide +kernel
theorem dX10_witness_68 : decode cX10_witness 68 = .ok (.aload_n 0, 1) := by decide +kernel
theorem dX10_witness_69 : decode cX10_witness 69 = .ok (.getfield 7, 3) := by decide +kernel
theorem dX10_witness_72 : decode cX10_witness 72 = .ok (.iconst 3, 1) := by decide +kernel
theorem dX10_witness_73 : decode cX10_witness 73 = .ok (.iaload, 1) := by decide +kernel
theorem dX10_witness_74 : decode cX10_witness 74 = .ok (.istore 7, 2) := by decide +kernel
theorem dX10_witness_76 : decode cX10_witness 76 = .ok (.iconst 0, 1) := by decide +kernel
theorem dX10_witness_77 : decode cX10_witness 77 = .ok (.istore 8, 2) := by decide +kernel
theorem dX10_witness_79 : decode cX10_witness 79 = .ok (.iload 8, 2) := by decide +kernel
theorem dX10_witness_81 : decode cX10_witness 81 = .ok (.iload_n 3, 1) := by decide +kernel
theorem dX10_witness_82 : decode cX10_witness 82 = .ok (.if_icmp .ge 40, 3) := by decide +kernel
theorem dX10_witness_85 : decode cX10_witness 85 = .ok (.aload_n 0, 1) := by decide +kernel
theorem dX10_witness_86 : decode cX10_witness 86 = .ok (.iload 7, 2) := by decide +kernel
theorem dX10_witness_88 : decode cX10_witness 88 = .ok (.lload 5, 2) := by decide +kernel
theorem dX10_witness_90 : decode cX10_witness 90 = .ok (.iconst 0, 1) := by decide +kernel
theorem dX10_witness_91 : decode cX10_witness 91 = .ok (.invokevirtual 150, 3) := by decide +kernel
theorem dX10_witness_94 : decode cX10_witness 94 = .ok (.istore 9, 2) := by decide +kernel
theorem dX10_witness_96 : decode cX10_witness 96 = .ok (.lload 5, 2) := by decide +kernel
theorem dX10_witness_98 : decode cX10_witness 98 = .ok (.aload_n 0, 1) := by decide +kernel
theorem dX10_witness_99 : decode cX10_witness 99 = .ok (.iload 9, 2) := by decide +kernel
theorem dX10_witness_101 : decode cX10_witness 101 = .ok (.invokevirtual 99, 3) := by decide +kernel
theorem dX10_witness_104 : decode cX10_witness 104 = .ok (.lsub, 1) := by decide +kernel
theorem dX10_witness_105 : decode cX10_witness 105 = .ok (.lstore 5, 2) := by decide +kernel
theorem dX10_witness_107 : decode cX10_witness 107 = .ok (.aload_n 0, 1) := by decide +kernel
theorem dX10_witness_108 : decode cX10_witness 108 = .ok (.iload 9, 2) := by decide +kernel
theorem dX10_witness_110 : decode cX10_witness 110 = .ok (.iconst 2, 1) := by decide +kernel
theorem dX10_witness_111 : decode cX10_witness 111 = .ok (.invokevirtual 67, 3) := by decide +kernel
theorem dX10_witness_114 : decode cX10_witness 114 = .ok (.istore 7, 2) := by decide +kernel
theorem dX10_witness_116 : decode cX10_witness 116 = .ok (.iinc 8 1, 3) := by decide +kernel
theorem dX10_witness_119 : decode cX10_witness 119 = .ok (.goto (-40), 3) := by decide +kernel
theorem dX10_witness_122 : decode cX10_witness 122 = .ok (.iload 4, 2) := by decide +kernel
theorem dX10_witness_124 : decode cX10_witness 124 = .ok (.tableswitch 53 0 2 #[28, 38, 41], 28) := by decide +kernel
theorem dX10_witness_152 : decode cX10_witness 152 = .ok (.aload_n 0, 1) := by decide +kernel
theorem dX10_witness_153 : decode cX10_witness 153 = .ok (.iload 7, 2) := by decide +kernel
theorem dX10_witness_155 : decode cX10_witness 155 = .ok (.lload 5, 2) := by decide +kernel
theorem dX10_witness_157 : decode cX10_witness 157 = .ok (.iconst 1, 1) := by decide +kernel
theorem dX10_witness_158 : decode cX10_witness 158 = .ok (.invokevirtual 150, 3) := by decide +kernel
theorem dX10_witness_161 : decode cX10_witness 161 = .ok (.ireturn, 1) := by decide +kernel
theorem dX10_witness_162 : decode cX10_witness 162 = .ok (.iload 7, 2) := by decide +kernel
theorem dX10_witness_164 : decode cX10_witness 164 = .ok (.ireturn, 1) := by decide +kernel
theorem dX10_witness_165 : decode cX10_witness 165 = .ok (.aload_n 0, 1) := by decide +kernel
theorem dX10_witness_166 : decode cX10_witness 166 = .ok (.getfield 23, 3) := by decide +kernel
theorem dX10_witness_169 : decode cX10_witness 169 = .ok (.aload_n 0, 1) := by decide +kernel
theorem dX10_witness_170 : decode cX10_witness 170 = .ok (.getfield 120, 3) := by decide +kernel
theorem dX10_witness_173 : decode cX10_witness 173 = .ok (.iconst 1, 1) := by decide +kernel
theorem dX10_witness_174 : decode cX10_witness 174 = .ok (.isub, 1) := by decide +kernel
theorem dX10_witness_175 : decode cX10_witness 175 = .ok (.iaload, 1) := by decide +kernel
theorem dX10_witness_176 : decode cX10_witness 176 = .ok (.ireturn, 1) := by decide +kernel
theorem dX10_witness_177 : decode cX10_witness 177 = .ok (.aload_n 0, 1) := by decide +kernel
theorem dX10_witness_178 : decode cX10_witness 178 = .ok (.getfield 120, 3) := by decide +kernel
theorem dX10_witness_181 : decode cX10_witness 181 = .ok (.ireturn, 1) := by decide +kernel
theorem dX10_mean_0 : decode cX10_mean 0 = .ok (.aload_n 0, 1) := by decide +kernel
theorem dX10_mean_1 : decode cX10_mean 1 = .ok (.iload_n 1, 1) := by decide +kernel
theorem dX10_mean_2 : decode cX10_mean 2 = .ok (.iload_n 2, 1) := by decide +kernel
theorem dX10_mean_3 : decode cX10_mean 3 = .ok (.invokevirtual 143, 3) := by decide +kernel
theorem dX10_mean_6 : decode cX10_mean 6 = .ok (.ifCond .ne 6, 3) := by decide +kernel
theorem dX10_mean_9 : decode cX10_mean 9 = .ok (.ldc 154, 2) := by decide +kernel
theorem dX10_mean_11 : decode cX10_mean 11 = .ok (.freturn, 1) := by decide +kernel
theorem dX10_mean_12 : decode cX10_mean 12 = .ok (.aload_n 0, 1) := by decide +kernel
theorem dX10_mean_13 : decode cX10_mean 13 = .ok (.iload_n 1, 1) := by decide +kernel
theorem dX10_mean_14 : decode cX10_mean 14 = .ok (.iload_n 2, 1) := by decide +kernel
theorem dX10_mean_15 : decode cX10_mean 15 = .ok (.iconst (-1), 1) := by decide +kernel
theorem dX10_mean_16 : decode cX10_mean 16 = .ok (.invokevirtual 140, 3) := by decide +kernel
theorem dX10_mean_19 : decode cX10_mean 19 = .ok (.lstore_n 3, 1) := by decide +kernel
theorem dX10_mean_20 : decode cX10_mean 20 = .ok (.lload_n 3, 1) := by decide +kernel
theorem dX10_mean_21 : decode cX10_mean 21 = .ok (.ldc2_w 91, 3) := by decide +kernel
theorem dX10_mean_24 : decode cX10_mean 24 = .ok (.lcmp, 1) := by decide +kernel
theorem dX10_mean_25 : decode cX10_mean 25 = .ok (.ifCond .ne 6, 3) := by decide +kernel
theorem dX10_mean_28 : decode cX10_mean 28 = .ok (.ldc 155, 2) := by decide +kernel
theorem dX10_mean_30 : decode cX10_mean 30 = .ok (.freturn, 1) := by decide +kernel
theorem dX10_mean_31 : decode cX10_mean 31 = .ok (.lload_n 3, 1) := by decide +kernel
theorem dX10_mean_32 : decode cX10_mean 32 = .ok (.lconst 0, 1) := by decide +kernel
theorem dX10_mean_33 : decode cX10_mean 33 = .ok (.lcmp, 1) := by decide +kernel
theorem dX10_mean_34 : decode cX10_mean 34 = .ok (.ifCond .ne 7, 3) := by decide +kernel
theorem dX10_mean_37 : decode cX10_mean 37 = .ok (.fconst 0, 1) := by decide +kernel
theorem dX10_mean_38 : decode cX10_mean 38 = .ok (.goto 18, 3) := by decide +kernel
theorem dX10_mean_41 : decode cX10_mean 41 = .ok (.lload_n 3, 1) := by decide +kernel
theorem dX10_mean_42 : decode cX10_mean 42 = .ok (.ldc2_w 93, 3) := by decide +kernel
theorem dX10_mean_45 : decode cX10_mean 45 = .ok (.ldiv, 1) := by decide +kernel
theorem dX10_mean_46 : decode cX10_mean 46 = .ok (.l2i, 1) := by decide +kernel
theorem dX10_mean_47 : decode cX10_mean 47 = .ok (.i2f, 1) := by decide +kernel
theorem dX10_mean_48 : decode cX10_mean 48 = .ok (.lload_n 3, 1) := by decide +kernel
theorem dX10_mean_49 : decode cX10_mean 49 = .ok (.ldc2_w 93, 3) := by decide +kernel
theorem dX10_mean_52 : decode cX10_mean 52 = .ok (.lrem, 1) := by decide +kernel
theorem dX10_mean_53 : decode cX10_mean 53 = .ok (.l2i, 1) := by decide +kernel
theorem dX10_mean_54 : decode cX10_mean 54 = .ok (.i2f, 1) := by decide +kernel
theorem dX10_mean_55 : decode cX10_mean 55 = .ok (.fdiv, 1) := by decide +kernel
theorem dX10_mean_56 : decode cX10_mean 56 = .ok (.freturn, 1) := by decide +kernel
theorem dX10_priceOf_0 : decode cX10_priceOf 0 = .ok (.aload_n 0, 1) := by decide +kernel
theorem dX10_priceOf_1 : decode cX10_priceOf 1 = .ok (.iload_n 3, 1) := by decide +kernel
theorem dX10_priceOf_2 : decode cX10_priceOf 2 = .ok (.iconst 0, 1) := by decide +kernel
theorem dX10_priceOf_3 : decode cX10_priceOf 3 = .ok (.iconst (-1), 1) := by decide +kernel
theorem dX10_priceOf_4 : decode cX10_priceOf 4 = .ok (.invokevirtual 130, 3) := by decide +kernel
theorem dX10_priceOf_7 : decode cX10_priceOf 7 = .ok (.iconst 0, 1) := by decide +kernel
theorem dX10_priceOf_8 : decode cX10_priceOf 8 = .ok (.istore 4, 2) := by decide +kernel
theorem dX10_priceOf_10 : decode cX10_priceOf 10 = .ok (.iload 4, 2) := by decide +kernel
theorem dX10_priceOf_12 : decode cX10_priceOf 12 = .ok (.bipush 11, 2) := by decide +kernel
theorem dX10_priceOf_14 : decode cX10_priceOf 14 = .ok (.if_icmp .ge 32, 3) := by decide +kernel
theorem dX10_priceOf_17 : decode cX10_priceOf 17 = .ok (.aload_n 0, 1) := by decide +kernel
theorem dX10_priceOf_18 : decode cX10_priceOf 18 = .ok (.getfield 26, 3) := by decide +kernel
theorem dX10_priceOf_21 : decode cX10_priceOf 21 = .ok (.iload 4, 2) := by decide +kernel
theorem dX10_priceOf_23 : decode cX10_priceOf 23 = .ok (.iload 4, 2) := by decide +kernel
theorem dX10_priceOf_25 : decode cX10_priceOf 25 = .ok (.aload_n 0, 1) := by decide +kernel
theorem dX10_priceOf_26 : decode cX10_priceOf 26 = .ok (.getfield 111, 3) := by decide +kernel
theorem dX10_priceOf_29 : decode cX10_priceOf 29 = .ok (.if_icmp .ne 7, 3) := by decide +kernel
theorem dX10_priceOf_32 : decode cX10_priceOf 32 = .ok (.lconst 0, 1) := by decide +kernel
theorem dX10_priceOf_33 : decode cX10_priceOf 33 = .ok (.goto 6, 3) := by decide +kernel
theorem dX10_priceOf_36 : decode cX10_priceOf 36 = .ok (.ldc2_w 91, 3) := by decide +kernel
theorem dX10_priceOf_39 : decode cX10_priceOf 39 = .ok (.lastore, 1) := by decide +kernel
theorem dX10_priceOf_40 : decode cX10_priceOf 40 = .ok (.iinc 4 1, 3) := by decide +kernel
theorem dX10_priceOf_43 : decode cX10_priceOf 43 = .ok (.goto (-33), 3) := by decide +kernel
theorem dX10_priceOf_46 : decode cX10_priceOf 46 = .ok (.aload_n 0, 1) := by decide +kernel
theorem dX10_priceOf_47 : decode cX10_priceOf 47 = .ok (.iconst 0, 1) := by decide +kernel
theorem dX10_priceOf_48 : decode cX10_priceOf 48 = .ok (.putfield 120, 3) := by decide +kernel
theorem dX10_priceOf_51 : decode cX10_priceOf 51 = .ok (.aload_n 0, 1) := by decide +kernel
theorem dX10_priceOf_52 : decode cX10_priceOf 52 = .ok (.iload_n 2, 1) := by decide +kernel
theorem dX10_priceOf_53 : decode cX10_priceOf 53 = .ok (.invokevirtual 127, 3) := by decide +kernel
theorem dX10_priceOf_56 : decode cX10_priceOf 56 = .ok (.aload_n 0, 1) := by decide +kernel
theorem dX10_priceOf_57 : decode cX10_priceOf 57 = .ok (.getfield 26, 3) := by decide +kernel
theorem dX10_priceOf_60 : decode cX10_priceOf 60 = .ok (.bipush 11, 2) := by decide +kernel
theorem dX10_priceOf_62 : decode cX10_priceOf 62 = .ok (.aload_n 0, 1) := by decide +kernel
theorem dX10_priceOf_63 : decode cX10_priceOf 63 = .ok (.getfield 120, 3) := by decide +kernel
theorem dX10_priceOf_66 : decode cX10_priceOf 66 = .ok (.imul, 1) := by decide +kernel
theorem dX10_priceOf_67 : decode cX10_priceOf 67 = .ok (.iload_n 1, 1) := by decide +kernel
theorem dX10_priceOf_68 : decode cX10_priceOf 68 = .ok (.iadd, 1) := by decide +kernel
theorem dX10_priceOf_69 : decode cX10_priceOf 69 = .ok (.laload, 1) := by decide +kernel
theorem dX10_priceOf_70 : decode cX10_priceOf 70 = .ok (.lstore 4, 2) := by decide +kernel
theorem dX10_priceOf_72 : decode cX10_priceOf 72 = .ok (.lload 4, 2) := by decide +kernel
theorem dX10_priceOf_74 : decode cX10_priceOf 74 = .ok (.ldc2_w 93, 3) := by decide +kernel
theorem dX10_priceOf_77 : decode cX10_priceOf 77 = .ok (.ldiv, 1) := by decide +kernel
theorem dX10_priceOf_78 : decode cX10_priceOf 78 = .ok (.ldc2_w 138, 3) := by decide +kernel
theorem dX10_priceOf_81 : decode cX10_priceOf 81 = .ok (.lcmp, 1) := by decide +kernel
theorem dX10_priceOf_82 : decode cX10_priceOf 82 = .ok (.ifCond .le 8, 3) := by decide +kernel
theorem dX10_priceOf_85 : decode cX10_priceOf 85 = .ok (.bipush (-6), 2) := by decide +kernel
theorem dX10_priceOf_87 : decode cX10_priceOf 87 = .ok (.goto 10, 3) := by decide +kernel
theorem dX10_priceOf_90 : decode cX10_priceOf 90 = .ok (.lload 4, 2) := by decide +kernel
theorem dX10_priceOf_92 : decode cX10_priceOf 92 = .ok (.ldc2_w 93, 3) := by decide +kernel
theorem dX10_priceOf_95 : decode cX10_priceOf 95 = .ok (.ldiv, 1) := by decide +kernel
theorem dX10_priceOf_96 : decode cX10_priceOf 96 = .ok (.l2i, 1) := by decide +kernel
theorem dX10_priceOf_97 : decode cX10_priceOf 97 = .ok (.ireturn, 1) := by decide +kernel
theorem dX10_price_0 : decode cX10_price 0 = .ok (.aload_n 0, 1) := by decide +kernel
theorem dX10_price_1 : decode cX10_price 1 = .ok (.iload_n 1, 1) := by decide +kernel
theorem dX10_price_2 : decode cX10_price 2 = .ok (.invokevirtual 71, 3) := by decide +kernel
theorem dX10_price_5 : decode cX10_price 5 = .ok (.ifCond .eq 29, 3) := by decide +kernel
theorem dX10_price_8 : decode cX10_price 8 = .ok (.aload_n 0, 1) := by decide +kernel
theorem dX10_price_9 : decode cX10_price 9 = .ok (.iload_n 2, 1) := by decide +kernel
theorem dX10_price_10 : decode cX10_price 10 = .ok (.invokevirtual 52, 3) := by decide +kernel
theorem dX10_price_13 : decode cX10_price 13 = .ok (.ifCond .eq 21, 3) := by decide +kernel
theorem dX10_price_16 : decode cX10_price 16 = .ok (.aload_n 0, 1) := by decide +kernel
theorem dX10_price_17 : decode cX10_price 17 = .ok (.iload_n 3, 1) := by decide +kernel
theorem dX10_price_18 : decode cX10_price 18 = .ok (.invokevirtual 71, 3) := by decide +kernel
theorem dX10_price_21 : decode cX10_price 21 = .ok (.ifCond .eq 13, 3) := by decide +kernel
theorem dX10_price_24 : decode cX10_price 24 = .ok (.aload_n 0, 1) := by decide +kernel
theorem dX10_price_25 : decode cX10_price 25 = .ok (.iload_n 1, 1) := by decide +kernel
theorem dX10_price_26 : decode cX10_price 26 = .ok (.iload_n 2, 1) := by decide +kernel
theorem dX10_price_27 : decode cX10_price 27 = .ok (.iload_n 3, 1) := by decide +kernel
theorem dX10_price_28 : decode cX10_price 28 = .ok (.invokevirtual 156, 3) := by decide +kernel
theorem dX10_price_31 : decode cX10_price 31 = .ok (.goto 4, 3) := by decide +kernel
theorem dX10_price_34 : decode cX10_price 34 = .ok (.iconst (-1), 1) := by decide +kernel
theorem dX10_price_35 : decode cX10_price 35 = .ok (.ireturn, 1) := by decide +kernel
theorem dX10_wordPrice_0 : decode cX10_wordPrice 0 = .ok (.aload_n 0, 1) := by decide +kernel
theorem dX10_wordPrice_1 : decode cX10_wordPrice 1 = .ok (.iload_n 1, 1) := by decide +kernel
theorem dX10_wordPrice_2 : decode cX10_wordPrice 2 = .ok (.iload_n 2, 1) := by decide +kernel
theorem dX10_wordPrice_3 : decode cX10_wordPrice 3 = .ok (.invokevirtual 143, 3) := by decide +kernel
theorem dX10_wordPrice_6 : decode cX10_wordPrice 6 = .ok (.ifCond .eq 21, 3) := by decide +kernel
theorem dX10_wordPrice_9 : decode cX10_wordPrice 9 = .ok (.aload_n 0, 1) := by decide +kernel
theorem dX10_wordPrice_10 : decode cX10_wordPrice 10 = .ok (.iload_n 3, 1) := by decide +kernel
theorem dX10_wordPrice_11 : decode cX10_wordPrice 11 = .ok (.invokevirtual 71, 3) := by decide +kernel
theorem dX10_wordPrice_14 : decode cX10_wordPrice 14 = .ok (.ifCond .eq 13, 3) := by decide +kernel
theorem dX10_wordPrice_17 : decode cX10_wordPrice 17 = .ok (.aload_n 0, 1) := by decide +kernel
theorem dX10_wordPrice_18 : decode cX10_wordPrice 18 = .ok (.iload_n 1, 1) := by decide +kernel
theorem dX10_wordPrice_19 : decode cX10_wordPrice 19 = .ok (.iload_n 2, 1) := by decide +kernel
theorem dX10_wordPrice_20 : decode cX10_wordPrice 20 = .ok (.iload_n 3, 1) := by decide +kernel
theorem dX10_wordPrice_21 : decode cX10_wordPrice 21 = .ok (.invokevirtual 156, 3) := by decide +kernel
theorem dX10_wordPrice_24 : decode cX10_wordPrice 24 = .ok (.goto 4, 3) := by decide +kernel
theorem dX10_wordPrice_27 : decode cX10_wordPrice 27 = .ok (.iconst (-1), 1) := by decide +kernel
theorem dX10_wordPrice_28 : decode cX10_wordPrice 28 = .ok (.ireturn, 1) := by decide +kernel
theorem dX10_arcAt_0 : decode cX10_arcAt 0 = .ok (.sipush 210, 3) := by decide +kernel
theorem dX10_arcAt_3 : decode cX10_arcAt 3 = .ok (.iload_n 0, 1) := by decide +kernel
theorem dX10_arcAt_4 : decode cX10_arcAt 4 = .ok (.imul, 1) := by decide +kernel
theorem dX10_arcAt_5 : decode cX10_arcAt 5 = .ok (.bipush 35, 2) := by decide +kernel
theorem dX10_arcAt_7 : decode cX10_arcAt 7 = .ok (.iload_n 1, 1) := by decide +kernel
theorem dX10_arcAt_8 : decode cX10_arcAt 8 = .ok (.imul, 1) := by decide +kernel
theorem dX10_arcAt_9 : decode cX10_arcAt 9 = .ok (.iadd, 1) := by decide +kernel
theorem dX10_arcAt_10 : decode cX10_arcAt 10 = .ok (.iload_n 2, 1) := by decide +kernel
theorem dX10_arcAt_11 : decode cX10_arcAt 11 = .ok (.iadd, 1) := by decide +kernel
theorem dX10_arcAt_12 : decode cX10_arcAt 12 = .ok (.ireturn, 1) := by decide +kernel
theorem dX10_lessen_0 : decode cX10_lessen 0 = .ok (.iload 4, 2) := by decide +kernel
theorem dX10_lessen_2 : decode cX10_lessen 2 = .ok (.ldc 159, 2) := by decide +kernel
theorem dX10_lessen_4 : decode cX10_lessen 4 = .ok (.if_icmp .gt 23, 3) := by decide +kernel
theorem dX10_lessen_7 : decode cX10_lessen 7 = .ok (.iload 4, 2) := by decide +kernel
theorem dX10_lessen_9 : decode cX10_lessen 9 = .ok (.aload_n 0, 1) := by decide +kernel
theorem dX10_lessen_10 : decode cX10_lessen 10 = .ok (.getfield 29, 3) := by decide +kernel
theorem dX10_lessen_13 : decode cX10_lessen 13 = .ok (.iload_n 1, 1) := by decide +kernel
theorem dX10_lessen_14 : decode cX10_lessen 14 = .ok (.iload_n 2, 1) := by decide +kernel
theorem dX10_lessen_15 : decode cX10_lessen 15 = .ok (.iload_n 3, 1) := by decide +kernel
theorem dX10_lessen_16 : decode cX10_lessen 16 = .ok (.invokestatic 160, 3) := by decide +kernel
theorem dX10_lessen_19 : decode cX10_lessen 19 = .ok (.iaload, 1) := by decide +kernel
theorem dX10_lessen_20 : decode cX10_lessen 20 = .ok (.if_icmp .ge 7, 3) := by decide +kernel
theorem dX10_lessen_23 : decode cX10_lessen 23 = .ok (.iconst 1, 1) := by decide +kernel
theorem dX10_lessen_24 : decode cX10_lessen 24 = .ok (.goto 4, 3) := by decide +kernel
theorem dX10_lessen_27 : decode cX10_lessen 27 = .ok (.iconst 0, 1) := by decide +kernel
theorem dX10_lessen_28 : decode cX10_lessen 28 = .ok (.istore 5, 2) := by decide +kernel
theorem dX10_lessen_30 : decode cX10_lessen 30 = .ok (.aload_n 0, 1) := by decide +kernel
theorem dX10_lessen_31 : decode cX10_lessen 31 = .ok (.getfield 29, 3) := by decide +kernel
theorem dX10_lessen_34 : decode cX10_lessen 34 = .ok (.iload_n 1, 1) := by decide +kernel
theorem dX10_lessen_35 : decode cX10_lessen 35 = .ok (.iload_n 2, 1) := by decide +kernel
theorem dX10_lessen_36 : decode cX10_lessen 36 = .ok (.iload_n 3, 1) := by decide +kernel
theorem dX10_lessen_37 : decode cX10_lessen 37 = .ok (.invokestatic 160, 3) := by decide +kernel
theorem dX10_lessen_40 : decode cX10_lessen 40 = .ok (.iload 5, 2) := by decide +kernel
theorem dX10_lessen_42 : decode cX10_lessen 42 = .ok (.ifCond .eq 8, 3) := by decide +kernel
theorem dX10_lessen_45 : decode cX10_lessen 45 = .ok (.iload 4, 2) := by decide +kernel
theorem dX10_lessen_47 : decode cX10_lessen 47 = .ok (.goto 14, 3) := by decide +kernel
theorem dX10_lessen_50 : decode cX10_lessen 50 = .ok (.aload_n 0, 1) := by decide +kernel
theorem dX10_lessen_51 : decode cX10_lessen 51 = .ok (.getfield 29, 3) := by decide +kernel
theorem dX10_lessen_54 : decode cX10_lessen 54 = .ok (.iload_n 1, 1) := by decide +kernel
theorem dX10_lessen_55 : decode cX10_lessen 55 = .ok (.iload_n 2, 1) := by decide +kernel
theorem dX10_lessen_56 : decode cX10_lessen 56 = .ok (.iload_n 3, 1) := by decide +kernel
theorem dX10_lessen_57 : decode cX10_lessen 57 = .ok (.invokestatic 160, 3) := by decide +kernel
theorem dX10_lessen_60 : decode cX10_lessen 60 = .ok (.iaload, 1) := by decide +kernel
theorem dX10_lessen_61 : decode cX10_lessen 61 = .ok (.iastore, 1) := by decide +kernel
theorem dX10_lessen_62 : decode cX10_lessen 62 = .ok (.iload 5, 2) := by decide +kernel
theorem dX10_lessen_64 : decode cX10_lessen 64 = .ok (.ireturn, 1) := by decide +kernel
theorem dX10_reads_0 : decode cX10_reads 0 = .ok (.aload_n 0, 1) := by decide +kernel
theorem dX10_reads_1 : decode cX10_reads 1 = .ok (.getfield 29, 3) := by decide +kernel
theorem dX10_reads_4 : decode cX10_reads 4 = .ok (.iload_n 1, 1) := by decide +kernel
theorem dX10_reads_5 : decode cX10_reads 5 = .ok (.iload_n 2, 1) := by decide +kernel
theorem dX10_reads_6 : decode cX10_reads 6 = .ok (.iload_n 3, 1) := by decide +kernel
theorem dX10_reads_7 : decode cX10_reads 7 = .ok (.invokestatic 160, 3) := by decide +kernel
theorem dX10_reads_10 : decode cX10_reads 10 = .ok (.iaload, 1) := by decide +kernel
theorem dX10_reads_11 : decode cX10_reads 11 = .ok (.istore 4, 2) := by decide +kernel
theorem dX10_reads_13 : decode cX10_reads 13 = .ok (.iconst 0, 1) := by decide +kernel
theorem dX10_reads_14 : decode cX10_reads 14 = .ok (.istore 5, 2) := by decide +kernel
theorem dX10_reads_16 : decode cX10_reads 16 = .ok (.iload 5, 2) := by decide +kernel
theorem dX10_reads_18 : decode cX10_reads 18 = .ok (.bipush 35, 2) := by decide +kernel
theorem dX10_reads_20 : decode cX10_reads 20 = .ok (.if_icmp .ge 83, 3) := by decide +kernel
theorem dX10_reads_23 : decode cX10_reads 23 = .ok (.aload_n 0, 1) := by decide +kernel
theorem dX10_reads_24 : decode cX10_reads 24 = .ok (.getfield 29, 3) := by decide +kernel
theorem dX10_reads_27 : decode cX10_reads 27 = .ok (.iload_n 1, 1) := by decide +kernel
theorem dX10_reads_28 : decode cX10_reads 28 = .ok (.iconst 0, 1) := by decide +kernel
theorem dX10_reads_29 : decode cX10_reads 29 = .ok (.iload 5, 2) := by decide +kernel
theorem dX10_reads_31 : decode cX10_reads 31 = .ok (.invokestatic 160, 3) := by decide +kernel
theorem dX10_reads_34 : decode cX10_reads 34 = .ok (.iaload, 1) := by decide +kernel
theorem dX10_reads_35 : decode cX10_reads 35 = .ok (.istore 6, 2) := by decide +kernel
theorem dX10_reads_37 : decode cX10_reads 37 = .ok (.aload_n 0, 1) := by decide +kernel
theorem dX10_reads_38 : decode cX10_reads 38 = .ok (.getfield 29, 3) := by decide +kernel
theorem dX10_reads_41 : decode cX10_reads 41 = .ok (.iload 5, 2) := by decide +kernel
theorem dX10_reads_43 : decode cX10_reads 43 = .ok (.iload_n 2, 1) := by decide +kernel
theorem dX10_reads_44 : decode cX10_reads 44 = .ok (.iload_n 3, 1) := by decide +kernel
theorem dX10_reads_45 : decode cX10_reads 45 = .ok (.invokestatic 160, 3) := by decide +kernel
theorem dX10_reads_48 : decode cX10_reads 48 = .ok (.iaload, 1) := by decide +kernel
theorem dX10_reads_49 : decode cX10_reads 49 = .ok (.istore 7, 2) := by decide +kernel
theorem dX10_reads_51 : decode cX10_reads 51 = .ok (.iload 6, 2) := by decide +kernel
theorem dX10_reads_53 : decode cX10_reads 53 = .ok (.ldc 163, 2) := by decide +kernel
theorem dX10_reads_55 : decode cX10_reads 55 = .ok (.if_icmp .ge 38, 3) := by decide +kernel
theorem dX10_reads_58 : decode cX10_reads 58 = .ok (.iload 7, 2) := by decide +kernel
theorem dX10_reads_60 : decode cX10_reads 60 = .ok (.ldc 163, 2) := by decide +kernel
theorem dX10_reads_62 : decode cX10_reads 62 = .ok (.if_icmp .ge 31, 3) := by decide +kernel
theorem dX10_reads_65 : decode cX10_reads 65 = .ok (.iload 6, 2) := by decide +kernel
theorem dX10_reads_67 : decode cX10_reads 67 = .ok (.iload 7, 2) := by decide +kernel
theorem dX10_reads_69 : decode cX10_reads 69 = .ok (.iadd, 1) := by decide +kernel
theorem dX10_reads_70 : decode cX10_reads 70 = .ok (.ldc 159, 2) := by decide +kernel
theorem dX10_reads_72 : decode cX10_reads 72 = .ok (.if_icmp .gt 21, 3) := by decide +kernel
theorem dX10_reads_75 : decode cX10_reads 75 = .ok (.iload 6, 2) := by decide +kernel
theorem dX10_reads_77 : decode cX10_reads 77 = .ok (.iload 7, 2) := by decide +kernel
theorem dX10_reads_79 : decode cX10_reads 79 = .ok (.iadd, 1) := by decide +kernel
theorem dX10_reads_80 : decode cX10_reads 80 = .ok (.iload 4, 2) := by decide +kernel
theorem dX10_reads_82 : decode cX10_reads 82 = .ok (.if_icmp .ge 11, 3) := by decide +kernel
theorem dX10_reads_85 : decode cX10_reads 85 = .ok (.iload 6, 2) := by decide +kernel
theorem dX10_reads_87 : decode cX10_reads 87 = .ok (.iload 7, 2) := by decide +kernel
theorem dX10_reads_89 : decode cX10_reads 89 = .ok (.iadd, 1) := by decide +kernel
theorem dX10_reads_90 : decode cX10_reads 90 = .ok (.goto 5, 3) := by decide +kernel
theorem dX10_reads_93 : decode cX10_reads 93 = .ok (.iload 4, 2) := by decide +kernel
theorem dX10_reads_95 : decode cX10_reads 95 = .ok (.istore 4, 2) := by decide +kernel
theorem dX10_reads_97 : decode cX10_reads 97 = .ok (.iinc 5 1, 3) := by decide +kernel
theorem dX10_reads_100 : decode cX10_reads 100 = .ok (.goto (-84), 3) := by decide +kernel
theorem dX10_reads_103 : decode cX10_reads 103 = .ok (.iload 4, 2) := by decide +kernel
theorem dX10_reads_105 : decode cX10_reads 105 = .ok (.ireturn, 1) := by decide +kernel
theorem dX10_nodeOf_0 : decode cX10_nodeOf 0 = .ok (.bipush 10, 2) := by decide +kernel
theorem dX10_nodeOf_2 : decode cX10_nodeOf 2 = .ok (.iconst 5, 1) := by decide +kernel
theorem dX10_nodeOf_3 : decode cX10_nodeOf 3 = .ok (.iload_n 0, 1) := by decide +kernel
theorem dX10_nodeOf_4 : decode cX10_nodeOf 4 = .ok (.imul, 1) := by decide +kernel
theorem dX10_nodeOf_5 : decode cX10_nodeOf 5 = .ok (.iadd, 1) := by decide +kernel
theorem dX10_nodeOf_6 : decode cX10_nodeOf 6 = .ok (.iload_n 1, 1) := by decide +kernel
theorem dX10_nodeOf_7 : decode cX10_nodeOf 7 = .ok (.iadd, 1) := by decide +kernel
theorem dX10_nodeOf_8 : decode cX10_nodeOf 8 = .ok (.iconst 1, 1) := by decide +kernel
theorem dX10_nodeOf_9 : decode cX10_nodeOf 9 = .ok (.isub, 1) := by decide +kernel
theorem dX10_nodeOf_10 : decode cX10_nodeOf 10 = .ok (.ireturn, 1) := by decide +kernel
theorem dX10_extend_0 : decode cX10_extend 0 = .ok (.aload_n 0, 1) := by decide +kernel
theorem dX10_extend_1 : decode cX10_extend 1 = .ok (.iload_n 1, 1) := by decide +kernel
theorem dX10_extend_2 : decode cX10_extend 2 = .ok (.iconst 2, 1) := by decide +kernel
theorem dX10_extend_3 : decode cX10_extend 3 = .ok (.invokevirtual 67, 3) := by decide +kernel
theorem dX10_extend_6 : decode cX10_extend 6 = .ok (.istore_n 2, 1) := by decide +kernel
theorem dX10_extend_7 : decode cX10_extend 7 = .ok (.aload_n 0, 1) := by decide +kernel
theorem dX10_extend_8 : decode cX10_extend 8 = .ok (.iload_n 1, 1) := by decide +kernel
theorem dX10_extend_9 : decode cX10_extend 9 = .ok (.iconst 3, 1) := by decide +kernel
theorem dX10_extend_10 : decode cX10_extend 10 = .ok (.invokevirtual 67, 3) := by decide +kernel
theorem dX10_extend_13 : decode cX10_extend 13 = .ok (.istore_n 3, 1) := by decide +kernel
theorem dX10_extend_14 : decode cX10_extend 14 = .ok (.iconst 0, 1) := by decide +kernel
theorem dX10_extend_15 : decode cX10_extend 15 = .ok (.istore 4, 2) := by decide +kernel
theorem dX10_extend_17 : decode cX10_extend 17 = .ok (.iconst 0, 1) := by decide +kernel
theorem dX10_extend_18 : decode cX10_extend 18 = .ok (.istore 5, 2) := by decide +kernel
theorem dX10_extend_20 : decode cX10_extend 20 = .ok (.iload 5, 2) := by decide +kernel
theorem dX10_extend_22 : decode cX10_extend 22 = .ok (.bipush 35, 2) := by decide +kernel
theorem dX10_extend_24 : decode cX10_extend 24 = .ok (.if_icmp .ge 162, 3) := by decide +kernel
theorem dX10_extend_27 : decode cX10_extend 27 = .ok (.aload_n 0, 1) := by decide +kernel
theorem dX10_extend_28 : decode cX10_extend 28 = .ok (.aload_n 0, 1) := by decide +kernel
theorem dX10_extend_29 : decode cX10_extend 29 = .ok (.iload_n 1, 1) := by decide +kernel
theorem dX10_extend_30 : decode cX10_extend 30 = .ok (.iconst 0, 1) := by decide +kernel
theorem dX10_extend_31 : decode cX10_extend 31 = .ok (.invokevirtual 67, 3) := by decide +kernel
theorem dX10_extend_34 : decode cX10_extend 34 = .ok (.aload_n 0, 1) := by decide +kernel
theorem dX10_extend_35 : decode cX10_extend 35 = .ok (.iload_n 1, 1) := by decide +kernel
theorem dX10_extend_36 : decode cX10_extend 36 = .ok (.iconst 1, 1) := by decide +kernel
theorem dX10_extend_37 : decode cX10_extend 37 = .ok (.invokevirtual 67, 3) := by decide +kernel
theorem dX10_extend_40 : decode cX10_extend 40 = .ok (.iload 5, 2) := by decide +kernel
theorem dX10_extend_42 : decode cX10_extend 42 = .ok (.invokevirtual 164, 3) := by decide +kernel
theorem dX10_extend_45 : decode cX10_extend 45 = .ok (.istore 6, 2) := by decide +kernel
theorem dX10_extend_47 : decode cX10_extend 47 = .ok (.iload 6, 2) := by decide +kernel
theorem dX10_extend_49 : decode cX10_extend 49 = .ok (.ldc 163, 2) := by decide +kernel
theorem dX10_extend_51 : decode cX10_extend 51 = .ok (.if_icmp .ge 129, 3) := by decide +kernel
theorem dX10_extend_54 : decode cX10_extend 54 = .ok (.iload 6, 2) := by decide +kernel
theorem dX10_extend_56 : decode cX10_extend 56 = .ok (.aload_n 0, 1) := by decide +kernel
theorem dX10_extend_57 : decode cX10_extend 57 = .ok (.iload_n 1, 1) := by decide +kernel
theorem dX10_extend_58 : decode cX10_extend 58 = .ok (.iconst 4, 1) := by decide +kernel
theorem dX10_extend_59 : decode cX10_extend 59 = .ok (.invokevirtual 67, 3) := by decide +kernel
theorem dX10_extend_62 : decode cX10_extend 62 = .ok (.iadd, 1) := by decide +kernel
theorem dX10_extend_63 : decode cX10_extend 63 = .ok (.istore 7, 2) := by decide +kernel
theorem dX10_extend_65 : decode cX10_extend 65 = .ok (.iload_n 3, 1) := by decide +kernel
theorem dX10_extend_66 : decode cX10_extend 66 = .ok (.invokestatic 48, 3) := by decide +kernel
theorem dX10_extend_69 : decode cX10_extend 69 = .ok (.lookupswitch 63 #[(0, 27), (1, 45)], 27) := by decide +kernel
theorem dX10_extend_96 : decode cX10_extend 96 = .ok (.iload 4, 2) := by decide +kernel
theorem dX10_extend_98 : decode cX10_extend 98 = .ok (.aload_n 0, 1) := by decide +kernel
theorem dX10_extend_99 : decode cX10_extend 99 = .ok (.iload_n 2, 1) := by decide +kernel
theorem dX10_extend_100 : decode cX10_extend 100 = .ok (.iconst 0, 1) := by decide +kernel
theorem dX10_extend_101 : decode cX10_extend 101 = .ok (.iload 5, 2) := by decide +kernel
theorem dX10_extend_103 : decode cX10_extend 103 = .ok (.iload 7, 2) := by decide +kernel
theorem dX10_extend_105 : decode cX10_extend 105 = .ok (.invokevirtual 167, 3) := by decide +kernel
theorem dX10_extend_108 : decode cX10_extend 108 = .ok (.ior, 1) := by decide +kernel
theorem dX10_extend_109 : decode cX10_extend 109 = .ok (.istore 4, 2) := by decide +kernel
theorem dX10_extend_111 : decode cX10_extend 111 = .ok (.goto 69, 3) := by decide +kernel
theorem dX10_extend_114 : decode cX10_extend 114 = .ok (.iload 4, 2) := by decide +kernel
theorem dX10_extend_116 : decode cX10_extend 116 = .ok (.aload_n 0, 1) := by decide +kernel
theorem dX10_extend_117 : decode cX10_extend 117 = .ok (.iload_n 2, 1) := by decide +kernel
theorem dX10_extend_118 : decode cX10_extend 118 = .ok (.iload_n 3, 1) := by decide +kernel
theorem dX10_extend_119 : decode cX10_extend 119 = .ok (.iload 5, 2) := by decide +kernel
theorem dX10_extend_121 : decode cX10_extend 121 = .ok (.iload 7, 2) := by decide +kernel
theorem dX10_extend_123 : decode cX10_extend 123 = .ok (.invokevirtual 167, 3) := by decide +kernel
theorem dX10_extend_126 : decode cX10_extend 126 = .ok (.ior, 1) := by decide +kernel
theorem dX10_extend_127 : decode cX10_extend 127 = .ok (.istore 4, 2) := by decide +kernel
theorem dX10_extend_129 : decode cX10_extend 129 = .ok (.goto 51, 3) := by decide +kernel
theorem dX10_extend_132 : decode cX10_extend 132 = .ok (.iload 4, 2) := by decide +kernel
theorem dX10_extend_134 : decode cX10_extend 134 = .ok (.aload_n 0, 1) := by decide +kernel
theorem dX10_extend_135 : decode cX10_extend 135 = .ok (.iload_n 2, 1) := by decide +kernel
theorem dX10_extend_136 : decode cX10_extend 136 = .ok (.iload_n 3, 1) := by decide +kernel
theorem dX10_extend_137 : decode cX10_extend 137 = .ok (.bipush 10, 2) := by decide +kernel
theorem dX10_extend_139 : decode cX10_extend 139 = .ok (.idiv, 1) := by decide +kernel
theorem dX10_extend_140 : decode cX10_extend 140 = .ok (.iload_n 2, 1) := by decide +kernel
theorem dX10_extend_141 : decode cX10_extend 141 = .ok (.iload_n 3, 1) := by decide +kernel
theorem dX10_extend_142 : decode cX10_extend 142 = .ok (.bipush 10, 2) := by decide +kernel
theorem dX10_extend_144 : decode cX10_extend 144 = .ok (.idiv, 1) := by decide +kernel
theorem dX10_extend_145 : decode cX10_extend 145 = .ok (.invokestatic 170, 3) := by decide +kernel
theorem dX10_extend_148 : decode cX10_extend 148 = .ok (.iconst 0, 1) := by decide +kernel
theorem dX10_extend_149 : decode cX10_extend 149 = .ok (.invokevirtual 167, 3) := by decide +kernel
theorem dX10_extend_152 : decode cX10_extend 152 = .ok (.ior, 1) := by decide +kernel
theorem dX10_extend_153 : decode cX10_extend 153 = .ok (.istore 4, 2) := by decide +kernel
theorem dX10_extend_155 : decode cX10_extend 155 = .ok (.iload 4, 2) := by decide +kernel
theorem dX10_extend_157 : decode cX10_extend 157 = .ok (.aload_n 0, 1) := by decide +kernel
theorem dX10_extend_158 : decode cX10_extend 158 = .ok (.iload_n 2, 1) := by decide +kernel
theorem dX10_extend_159 : decode cX10_extend 159 = .ok (.iload_n 3, 1) := by decide +kernel
theorem dX10_extend_160 : decode cX10_extend 160 = .ok (.bipush 10, 2) := by decide +kernel
theorem dX10_extend_162 : decode cX10_extend 162 = .ok (.idiv, 1) := by decide +kernel
theorem dX10_extend_163 : decode cX10_extend 163 = .ok (.invokestatic 170, 3) := by decide +kernel
theorem dX10_extend_166 : decode cX10_extend 166 = .ok (.iload_n 3, 1) := by decide +kernel
theorem dX10_extend_167 : decode cX10_extend 167 = .ok (.bipush 10, 2) := by decide +kernel
theorem dX10_extend_169 : decode cX10_extend 169 = .ok (.irem, 1) := by decide +kernel
theorem dX10_extend_170 : decode cX10_extend 170 = .ok (.iload 5, 2) := by decide +kernel
theorem dX10_extend_172 : decode cX10_extend 172 = .ok (.iload 7, 2) := by decide +kernel
theorem dX10_extend_174 : decode cX10_extend 174 = .ok (.invokevirtual 167, 3) := by decide +kernel
theorem dX10_extend_177 : decode cX10_extend 177 = .ok (.ior, 1) := by decide +kernel
theorem dX10_extend_178 : decode cX10_extend 178 = .ok (.istore 4, 2) := by decide +kernel
theorem dX10_extend_180 : decode cX10_extend 180 = .ok (.iinc 5 1, 3) := by decide +kernel
theorem dX10_extend_183 : decode cX10_extend 183 = .ok (.goto (-163), 3) := by decide +kernel
theorem dX10_extend_186 : decode cX10_extend 186 = .ok (.iload 4, 2) := by decide +kernel
theorem dX10_extend_188 : decode cX10_extend 188 = .ok (.ireturn, 1) := by decide +kernel
theorem dX10_layMachine_0 : decode cX10_layMachine 0 = .ok (.aload_n 0, 1) := by decide +kernel
theorem dX10_layMachine_1 : decode cX10_layMachine 1 = .ok (.getfield 56, 3) := by decide +kernel
theorem dX10_layMachine_4 : decode cX10_layMachine 4 = .ok (.ifCond .eq 4, 3) := by decide +kernel
theorem dX10_layMachine_7 : decode cX10_layMachine 7 = .ok (.return_, 1) := by decide +kernel
theorem dX10_layMachine_8 : decode cX10_layMachine 8 = .ok (.aload_n 0, 1) := by decide +kernel
theorem dX10_layMachine_9 : decode cX10_layMachine 9 = .ok (.iconst 1, 1) := by decide +kernel
theorem dX10_layMachine_10 : decode cX10_layMachine 10 = .ok (.putfield 56, 3) := by decide +kernel
theorem dX10_layMachine_13 : decode cX10_layMachine 13 = .ok (.iconst 0, 1) := by decide +kernel
theorem dX10_layMachine_14 : decode cX10_layMachine 14 = .ok (.istore_n 1, 1) := by decide +kernel
theorem dX10_layMachine_15 : decode cX10_layMachine 15 = .ok (.iload_n 1, 1) := by decide +kernel
theorem dX10_layMachine_16 : decode cX10_layMachine 16 = .ok (.sipush 7350, 3) := by decide +kernel
theorem dX10_layMachine_19 : decode cX10_layMachine 19 = .ok (.if_icmp .ge 17, 3) := by decide +kernel
theorem dX10_layMachine_22 : decode cX10_layMachine 22 = .ok (.aload_n 0, 1) := by decide +kernel
theorem dX10_layMachine_23 : decode cX10_layMachine 23 = .ok (.getfield 29, 3) := by decide +kernel
theorem dX10_layMachine_26 : decode cX10_layMachine 26 = .ok (.iload_n 1, 1) := by decide +kernel
theorem dX10_layMachine_27 : decode cX10_layMachine 27 = .ok (.ldc 163, 2) := by decide +kernel
theorem dX10_layMachine_29 : decode cX10_layMachine 29 = .ok (.iastore, 1) := by decide +kernel
theorem dX10_layMachine_30 : decode cX10_layMachine 30 = .ok (.iinc 1 1, 3) := by decide +kernel
theorem dX10_layMachine_33 : decode cX10_layMachine 33 = .ok (.goto (-18), 3) := by decide +kernel
theorem dX10_layMachine_36 : decode cX10_layMachine 36 = .ok (.aload_n 0, 1) := by decide +kernel
theorem dX10_layMachine_37 : decode cX10_layMachine 37 = .ok (.getfield 7, 3) := by decide +kernel
theorem dX10_layMachine_40 : decode cX10_layMachine 40 = .ok (.iconst 4, 1) := by decide +kernel
theorem dX10_layMachine_41 : decode cX10_layMachine 41 = .ok (.iaload, 1) := by decide +kernel
theorem dX10_layMachine_42 : decode cX10_layMachine 42 = .ok (.invokestatic 48, 3) := by decide +kernel
theorem dX10_layMachine_45 : decode cX10_layMachine 45 = .ok (.istore_n 1, 1) := by decide +kernel
theorem dX10_layMachine_46 : decode cX10_layMachine 46 = .ok (.iconst 0, 1) := by decide +kernel
theorem dX10_layMachine_47 : decode cX10_layMachine 47 = .ok (.istore_n 2, 1) := by decide +kernel
theorem dX10_layMachine_48 : decode cX10_layMachine 48 = .ok (.iload_n 2, 1) := by decide +kernel
theorem dX10_layMachine_49 : decode cX10_layMachine 49 = .ok (.iload_n 1, 1) := by decide +kernel
theorem dX10_layMachine_50 : decode cX10_layMachine 50 = .ok (.if_icmp .ge 47, 3) := by decide +kernel
theorem dX10_layMachine_53 : decode cX10_layMachine 53 = .ok (.aload_n 0, 1) := by decide +kernel
theorem dX10_layMachine_54 : decode cX10_layMachine 54 = .ok (.iload_n 2, 1) := by decide +kernel
theorem dX10_layMachine_55 : decode cX10_layMachine 55 = .ok (.ifCond .ne 12, 3) := by decide +kernel
theorem dX10_layMachine_58 : decode cX10_layMachine 58 = .ok (.aload_n 0, 1) := by decide +kernel
theorem dX10_layMachine_59 : decode cX10_layMachine 59 = .ok (.getfield 7, 3) := by decide +kernel
theorem dX10_layMachine_62 : decode cX10_layMachine 62 = .ok (.iconst 3, 1) := by decide +kernel
theorem dX10_layMachine_63 : decode cX10_layMachine 63 = .ok (.iaload, 1) := by decide +kernel
theorem dX10_layMachine_64 : decode cX10_layMachine 64 = .ok (.goto 7, 3) := by decide +kernel
theorem dX10_layMachine_67 : decode cX10_layMachine 67 = .ok (.bipush 30, 2) := by decide +kernel
theorem dX10_layMachine_69 : decode cX10_layMachine 69 = .ok (.iload_n 2, 1) := by decide +kernel
theorem dX10_layMachine_70 : decode cX10_layMachine 70 = .ok (.iadd, 1) := by decide +kernel
theorem dX10_layMachine_71 : decode cX10_layMachine 71 = .ok (.aload_n 0, 1) := by decide +kernel
theorem dX10_layMachine_72 : decode cX10_layMachine 72 = .ok (.getfield 7, 3) := by decide +kernel
theorem dX10_layMachine_75 : decode cX10_layMachine 75 = .ok (.iconst 4, 1) := by decide +kernel
theorem dX10_layMachine_76 : decode cX10_layMachine 76 = .ok (.iaload, 1) := by decide +kernel
theorem dX10_layMachine_77 : decode cX10_layMachine 77 = .ok (.iload_n 1, 1) := by decide +kernel
theorem dX10_layMachine_78 : decode cX10_layMachine 78 = .ok (.iload_n 2, 1) := by decide +kernel
theorem dX10_layMachine_79 : decode cX10_layMachine 79 = .ok (.invokestatic 107, 3) := by decide +kernel
theorem dX10_layMachine_82 : decode cX10_layMachine 82 = .ok (.bipush 31, 2) := by decide +kernel
theorem dX10_layMachine_84 : decode cX10_layMachine 84 = .ok (.iload_n 2, 1) := by decide +kernel
theorem dX10_layMachine_85 : decode cX10_layMachine 85 = .ok (.iadd, 1) := by decide +kernel
theorem dX10_layMachine_86 : decode cX10_layMachine 86 = .ok (.iconst 0, 1) := by decide +kernel
theorem dX10_layMachine_87 : decode cX10_layMachine 87 = .ok (.invokevirtual 167, 3) := by decide +kernel
theorem dX10_layMachine_90 : decode cX10_layMachine 90 = .ok (.istore_n 3, 1) := by decide +kernel
theorem dX10_layMachine_91 : decode cX10_layMachine 91 = .ok (.iinc 2 1, 3) := by decide +kernel
theorem dX10_layMachine_94 : decode cX10_layMachine 94 = .ok (.goto (-46), 3) := by decide +kernel
theorem dX10_layMachine_97 : decode cX10_layMachine 97 = .ok (.iconst 1, 1) := by decide +kernel
theorem dX10_layMachine_98 : decode cX10_layMachine 98 = .ok (.istore_n 2, 1) := by decide +kernel
theorem dX10_layMachine_99 : decode cX10_layMachine 99 = .ok (.iload_n 2, 1) := by decide +kernel
theorem dX10_layMachine_100 : decode cX10_layMachine 100 = .ok (.ifCond .eq 34, 3) := by decide +kernel
theorem dX10_layMachine_103 : decode cX10_layMachine 103 = .ok (.iconst 0, 1) := by decide +kernel
theorem dX10_layMachine_104 : decode cX10_layMachine 104 = .ok (.istore_n 2, 1) := by decide +kernel
theorem dX10_layMachine_105 : decode cX10_layMachine 105 = .ok (.iconst 0, 1) := by decide +kernel
theorem dX10_layMachine_106 : decode cX10_layMachine 106 = .ok (.istore_n 3, 1) := by decide +kernel
theorem dX10_layMachine_107 : decode cX10_layMachine 107 = .ok (.iload_n 3, 1) := by decide +kernel
theorem dX10_layMachine_108 : decode cX10_layMachine 108 = .ok (.aload_n 0, 1) := by decide +kernel
theorem dX10_layMachine_109 : decode cX10_layMachine 109 = .ok (.getfield 7, 3) := by decide +kernel
theorem dX10_layMachine_112 : decode cX10_layMachine 112 = .ok (.iconst 2, 1) := by decide +kernel
theorem dX10_layMachine_113 : decode cX10_layMachine 113 = .ok (.iaload, 1) := by decide +kernel
theorem dX10_layMachine_114 : decode cX10_layMachine 114 = .ok (.if_icmp .ge 17, 3) := by decide +kernel
theorem dX10_layMachine_117 : decode cX10_layMachine 117 = .ok (.iload_n 2, 1) := by decide +kernel
theorem dX10_layMachine_118 : decode cX10_layMachine 118 = .ok (.aload_n 0, 1) := by decide +kernel
theorem dX10_layMachine_119 : decode cX10_layMachine 119 = .ok (.iload_n 3, 1) := by decide +kernel
theorem dX10_layMachine_120 : decode cX10_layMachine 120 = .ok (.invokevirtual 173, 3) := by decide +kernel
theorem dX10_layMachine_123 : decode cX10_layMachine 123 = .ok (.ior, 1) := by decide +kernel
theorem dX10_layMachine_124 : decode cX10_layMachine 124 = .ok (.istore_n 2, 1) := by decide +kernel
theorem dX10_layMachine_125 : decode cX10_layMachine 125 = .ok (.iinc 3 1, 3) := by decide +kernel
theorem dX10_layMachine_128 : decode cX10_layMachine 128 = .ok (.goto (-21), 3) := by decide +kernel
theorem dX10_layMachine_131 : decode cX10_layMachine 131 = .ok (.goto (-32), 3) := by decide +kernel
theorem dX10_layMachine_134 : decode cX10_layMachine 134 = .ok (.return_, 1) := by decide +kernel
theorem dX10_restOf_0 : decode cX10_restOf 0 = .ok (.aload_n 0, 1) := by decide +kernel
theorem dX10_restOf_1 : decode cX10_restOf 1 = .ok (.getfield 32, 3) := by decide +kernel
theorem dX10_restOf_4 : decode cX10_restOf 4 = .ok (.bipush 35, 2) := by decide +kernel
theorem dX10_restOf_6 : decode cX10_restOf 6 = .ok (.iload_n 2, 1) := by decide +kernel
theorem dX10_restOf_7 : decode cX10_restOf 7 = .ok (.imul, 1) := by decide +kernel
theorem dX10_restOf_8 : decode cX10_restOf 8 = .ok (.iload_n 1, 1) := by decide +kernel
theorem dX10_restOf_9 : decode cX10_restOf 9 = .ok (.iadd, 1) := by decide +kernel
theorem dX10_restOf_10 : decode cX10_restOf 10 = .ok (.iaload, 1) := by decide +kernel
theorem dX10_restOf_11 : decode cX10_restOf 11 = .ok (.ireturn, 1) := by decide +kernel
theorem dX10_layRests_0 : decode cX10_layRests 0 = .ok (.bipush 30, 2) := by decide +kernel
theorem dX10_layRests_2 : decode cX10_layRests 2 = .ok (.aload_n 0, 1) := by decide +kernel
theorem dX10_layRests_3 : decode cX10_layRests 3 = .ok (.getfield 7, 3) := by decide +kernel
theorem dX10_layRests_6 : decode cX10_layRests 6 = .ok (.iconst 4, 1) := by decide +kernel
theorem dX10_layRests_7 : decode cX10_layRests 7 = .ok (.iaload, 1) := by decide +kernel
theorem dX10_layRests_8 : decode cX10_layRests 8 = .ok (.invokestatic 48, 3) := by decide +kernel
theorem dX10_layRests_11 : decode cX10_layRests 11 = .ok (.iadd, 1) := by decide +kernel
theorem dX10_layRests_12 : decode cX10_layRests 12 = .ok (.istore_n 1, 1) := by decide +kernel
theorem dX10_layRests_13 : decode cX10_layRests 13 = .ok (.iconst 0, 1) := by decide +kernel
theorem dX10_layRests_14 : decode cX10_layRests 14 = .ok (.istore_n 2, 1) := by decide +kernel
theorem dX10_layRests_15 : decode cX10_layRests 15 = .ok (.iload_n 2, 1) := by decide +kernel
theorem dX10_layRests_16 : decode cX10_layRests 16 = .ok (.bipush 35, 2) := by decide +kernel
theorem dX10_layRests_18 : decode cX10_layRests 18 = .ok (.if_icmp .ge 42, 3) := by decide +kernel
theorem dX10_layRests_21 : decode cX10_layRests 21 = .ok (.aload_n 0, 1) := by decide +kernel
theorem dX10_layRests_22 : decode cX10_layRests 22 = .ok (.getfield 32, 3) := by decide +kernel
theorem dX10_layRests_25 : decode cX10_layRests 25 = .ok (.iload_n 2, 1) := by decide +kernel
theorem dX10_layRests_26 : decode cX10_layRests 26 = .ok (.iload_n 2, 1) := by decide +kernel
theorem dX10_layRests_27 : decode cX10_layRests 27 = .ok (.iload_n 1, 1) := by decide +kernel
theorem dX10_layRests_28 : decode cX10_layRests 28 = .ok (.if_icmp .ne 7, 3) := by decide +kernel
theorem dX10_layRests_31 : decode cX10_layRests 31 = .ok (.iconst 0, 1) := by decide +kernel
theorem dX10_layRests_32 : decode cX10_layRests 32 = .ok (.goto 5, 3) := by decide +kernel
theorem dX10_layRests_35 : decode cX10_layRests 35 = .ok (.ldc 163, 2) := by decide +kernel
theorem dX10_layRests_37 : decode cX10_layRests 37 = .ok (.iastore, 1) := by decide +kernel
theorem dX10_layRests_38 : decode cX10_layRests 38 = .ok (.aload_n 0, 1) := by decide +kernel
theorem dX10_layRests_39 : decode cX10_layRests 39 = .ok (.getfield 32, 3) := by decide +kernel
theorem dX10_layRests_42 : decode cX10_layRests 42 = .ok (.sipush 245, 3) := by decide +kernel
theorem dX10_layRests_45 : decode cX10_layRests 45 = .ok (.iload_n 2, 1) := by decide +kernel
theorem dX10_layRests_46 : decode cX10_layRests 46 = .ok (.iadd, 1) := by decide +kernel
theorem dX10_layRests_47 : decode cX10_layRests 47 = .ok (.aload_n 0, 1) := by decide +kernel
theorem dX10_layRests_48 : decode cX10_layRests 48 = .ok (.getfield 32, 3) := by decide +kernel
theorem dX10_layRests_51 : decode cX10_layRests 51 = .ok (.iload_n 2, 1) := by decide +kernel
theorem dX10_layRests_52 : decode cX10_layRests 52 = .ok (.iaload, 1) := by decide +kernel
theorem dX10_layRests_53 : decode cX10_layRests 53 = .ok (.iastore, 1) := by decide +kernel
theorem dX10_layRests_54 : decode cX10_layRests 54 = .ok (.iinc 2 1, 3) := by decide +kernel
theorem dX10_layRests_57 : decode cX10_layRests 57 = .ok (.goto (-42), 3) := by decide +kernel
theorem dX10_layRests_60 : decode cX10_layRests 60 = .ok (.iconst 1, 1) := by decide +kernel
theorem dX10_layRests_61 : decode cX10_layRests 61 = .ok (.istore_n 2, 1) := by decide +kernel
theorem dX10_layRests_62 : decode cX10_layRests 62 = .ok (.iload_n 2, 1) := by decide +kernel
theorem dX10_layRests_63 : decode cX10_layRests 63 = .ok (.bipush 7, 2) := by decide +kernel
theorem dX10_layRests_65 : decode cX10_layRests 65 = .ok (.if_icmp .ge 42, 3) := by decide +kernel
theorem dX10_layRests_68 : decode cX10_layRests 68 = .ok (.iconst 0, 1) := by decide +kernel
theorem dX10_layRests_69 : decode cX10_layRests 69 = .ok (.istore_n 3, 1) := by decide +kernel
theorem dX10_layRests_70 : decode cX10_layRests 70 = .ok (.iload_n 3, 1) := by decide +kernel
theorem dX10_layRests_71 : decode cX10_layRests 71 = .ok (.bipush 35, 2) := by decide +kernel
theorem dX10_layRests_73 : decode cX10_layRests 73 = .ok (.if_icmp .ge 28, 3) := by decide +kernel
theorem dX10_layRests_76 : decode cX10_layRests 76 = .ok (.aload_n 0, 1) := by decide +kernel
theorem dX10_layRests_77 : decode cX10_layRests 77 = .ok (.getfield 32, 3) := by decide +kernel
theorem dX10_layRests_80 : decode cX10_layRests 80 = .ok (.bipush 35, 2) := by decide +kernel
theorem dX10_layRests_82 : decode cX10_layRests 82 = .ok (.iload_n 2, 1) := by decide +kernel
theorem dX10_layRests_83 : decode cX10_layRests 83 = .ok (.imul, 1) := by decide +kernel
theorem dX10_layRests_84 : decode cX10_layRests 84 = .ok (.iload_n 3, 1) := by decide +kernel
theorem dX10_layRests_85 : decode cX10_layRests 85 = .ok (.iadd, 1) := by decide +kernel
theorem dX10_layRests_86 : decode cX10_layRests 86 = .ok (.aload_n 0, 1) := by decide +kernel
theorem dX10_layRests_87 : decode cX10_layRests 87 = .ok (.iload_n 3, 1) := by decide +kernel
theorem dX10_layRests_88 : decode cX10_layRests 88 = .ok (.iload_n 2, 1) := by decide +kernel
theorem dX10_layRests_89 : decode cX10_layRests 89 = .ok (.iconst 1, 1) := by decide +kernel
theorem dX10_layRests_90 : decode cX10_layRests 90 = .ok (.isub, 1) := by decide +kernel
theorem dX10_layRests_91 : decode cX10_layRests 91 = .ok (.invokevirtual 176, 3) := by decide +kernel
theorem dX10_layRests_94 : decode cX10_layRests 94 = .ok (.iastore, 1) := by decide +kernel
theorem dX10_layRests_95 : decode cX10_layRests 95 = .ok (.iinc 3 1, 3) := by decide +kernel
theorem dX10_layRests_98 : decode cX10_layRests 98 = .ok (.goto (-28), 3) := by decide +kernel
theorem dX10_layRests_101 : decode cX10_layRests 101 = .ok (.iinc 2 1, 3) := by decide +kernel
theorem dX10_layRests_104 : decode cX10_layRests 104 = .ok (.goto (-42), 3) := by decide +kernel
theorem dX10_layRests_107 : decode cX10_layRests 107 = .ok (.iconst 1, 1) := by decide +kernel
theorem dX10_layRests_108 : decode cX10_layRests 108 = .ok (.istore_n 2, 1) := by decide +kernel
theorem dX10_layRests_109 : decode cX10_layRests 109 = .ok (.iload_n 2, 1) := by decide +kernel
theorem dX10_layRests_110 : decode cX10_layRests 110 = .ok (.ifCond .eq 85, 3) := by decide +kernel
theorem dX10_layRests_113 : decode cX10_layRests 113 = .ok (.iconst 0, 1) := by decide +kernel
theorem dX10_layRests_114 : decode cX10_layRests 114 = .ok (.istore_n 2, 1) := by decide +kernel
theorem dX10_layRests_115 : decode cX10_layRests 115 = .ok (.iconst 0, 1) := by decide +kernel
theorem dX10_layRests_116 : decode cX10_layRests 116 = .ok (.istore_n 3, 1) := by decide +kernel
theorem dX10_layRests_117 : decode cX10_layRests 117 = .ok (.iload_n 3, 1) := by decide +kernel
theorem dX10_layRests_118 : decode cX10_layRests 118 = .ok (.bipush 35, 2) := by decide +kernel
theorem dX10_layRests_120 : decode cX10_layRests 120 = .ok (.if_icmp .ge 72, 3) := by decide +kernel
theorem dX10_layRests_123 : decode cX10_layRests 123 = .ok (.aload_n 0, 1) := by decide +kernel
theorem dX10_layRests_124 : decode cX10_layRests 124 = .ok (.iload_n 3, 1) := by decide +kernel
theorem dX10_layRests_125 : decode cX10_layRests 125 = .ok (.bipush 7, 2) := by decide +kernel
theorem dX10_layRests_127 : decode cX10_layRests 127 = .ok (.invokevirtual 176, 3) := by decide +kernel
theorem dX10_layRests_130 : decode cX10_layRests 130 = .ok (.istore 4, 2) := by decide +kernel
theorem dX10_layRests_132 : decode cX10_layRests 132 = .ok (.iload_n 2, 1) := by decide +kernel
theorem dX10_layRests_133 : decode cX10_layRests 133 = .ok (.iload 4, 2) := by decide +kernel
theorem dX10_layRests_135 : decode cX10_layRests 135 = .ok (.aload_n 0, 1) := by decide +kernel
theorem dX10_layRests_136 : decode cX10_layRests 136 = .ok (.iload_n 3, 1) := by decide +kernel
theorem dX10_layRests_137 : decode cX10_layRests 137 = .ok (.bipush 7, 2) := by decide +kernel
theorem dX10_layRests_139 : decode cX10_layRests 139 = .ok (.invokevirtual 179, 3) := by decide +kernel
theorem dX10_layRests_142 : decode cX10_layRests 142 = .ok (.if_icmp .ge 7, 3) := by decide +kernel
theorem dX10_layRests_145 : decode cX10_layRests 145 = .ok (.iconst 1, 1) := by decide +kernel
theorem dX10_layRests_146 : decode cX10_layRests 146 = .ok (.goto 4, 3) := by decide +kernel
theorem dX10_layRests_149 : decode cX10_layRests 149 = .ok (.iconst 0, 1) := by decide +kernel
theorem dX10_layRests_150 : decode cX10_layRests 150 = .ok (.ior, 1) := by decide +kernel
theorem dX10_layRests_151 : decode cX10_layRests 151 = .ok (.istore_n 2, 1) := by decide +kernel
theorem dX10_layRests_152 : decode cX10_layRests 152 = .ok (.aload_n 0, 1) := by decide +kernel
theorem dX10_layRests_153 : decode cX10_layRests 153 = .ok (.getfield 32, 3) := by decide +kernel
theorem dX10_layRests_156 : decode cX10_layRests 156 = .ok (.sipush 245, 3) := by decide +kernel
theorem dX10_layRests_159 : decode cX10_layRests 159 = .ok (.iload_n 3, 1) := by decide +kernel
theorem dX10_layRests_160 : decode cX10_layRests 160 = .ok (.iadd, 1) := by decide +kernel
theorem dX10_layRests_161 : decode cX10_layRests 161 = .ok (.iload 4, 2) := by decide +kernel
theorem dX10_layRests_163 : decode cX10_layRests 163 = .ok (.aload_n 0, 1) := by decide +kernel
theorem dX10_layRests_164 : decode cX10_layRests 164 = .ok (.iload_n 3, 1) := by decide +kernel
theorem dX10_layRests_165 : decode cX10_layRests 165 = .ok (.bipush 7, 2) := by decide +kernel
theorem dX10_layRests_167 : decode cX10_layRests 167 = .ok (.invokevirtual 179, 3) := by decide +kernel
theorem dX10_layRests_170 : decode cX10_layRests 170 = .ok (.if_icmp .ge 8, 3) := by decide +kernel
theorem dX10_layRests_173 : decode cX10_layRests 173 = .ok (.iload 4, 2) := by decide +kernel
theorem dX10_layRests_175 : decode cX10_layRests 175 = .ok (.goto 10, 3) := by decide +kernel
theorem dX10_layRests_178 : decode cX10_layRests 178 = .ok (.aload_n 0, 1) := by decide +kernel
theorem dX10_layRests_179 : decode cX10_layRests 179 = .ok (.iload_n 3, 1) := by decide +kernel
theorem dX10_layRests_180 : decode cX10_layRests 180 = .ok (.bipush 7, 2) := by decide +kernel
theorem dX10_layRests_182 : decode cX10_layRests 182 = .ok (.invokevirtual 179, 3) := by decide +kernel
theorem dX10_layRests_185 : decode cX10_layRests 185 = .ok (.iastore, 1) := by decide +kernel
theorem dX10_layRests_186 : decode cX10_layRests 186 = .ok (.iinc 3 1, 3) := by decide +kernel
theorem dX10_layRests_189 : decode cX10_layRests 189 = .ok (.goto (-72), 3) := by decide +kernel
theorem dX10_layRests_192 : decode cX10_layRests 192 = .ok (.goto (-83), 3) := by decide +kernel
theorem dX10_layRests_195 : decode cX10_layRests 195 = .ok (.return_, 1) := by decide +kernel
theorem dX10_throughOne_0 : decode cX10_throughOne 0 = .ok (.ldc 163, 2) := by decide +kernel
theorem dX10_throughOne_2 : decode cX10_throughOne 2 = .ok (.istore_n 3, 1) := by decide +kernel
theorem dX10_throughOne_3 : decode cX10_throughOne 3 = .ok (.iconst 1, 1) := by decide +kernel
theorem dX10_throughOne_4 : decode cX10_throughOne 4 = .ok (.istore 4, 2) := by decide +kernel
theorem dX10_throughOne_6 : decode cX10_throughOne 6 = .ok (.iload 4, 2) := by decide +kernel
theorem dX10_throughOne_8 : decode cX10_throughOne 8 = .ok (.aload_n 0, 1) := by decide +kernel
theorem dX10_throughOne_9 : decode cX10_throughOne 9 = .ok (.getfield 7, 3) := by decide +kernel
theorem dX10_throughOne_12 : decode cX10_throughOne 12 = .ok (.iconst 1, 1) := by decide +kernel
theorem dX10_throughOne_13 : decode cX10_throughOne 13 = .ok (.iaload, 1) := by decide +kernel
theorem dX10_throughOne_14 : decode cX10_throughOne 14 = .ok (.if_icmp .gt 82, 3) := by decide +kernel
theorem dX10_throughOne_17 : decode cX10_throughOne 17 = .ok (.iconst 0, 1) := by decide +kernel
theorem dX10_throughOne_18 : decode cX10_throughOne 18 = .ok (.istore 5, 2) := by decide +kernel
theorem dX10_throughOne_20 : decode cX10_throughOne 20 = .ok (.iload 5, 2) := by decide +kernel
theorem dX10_throughOne_22 : decode cX10_throughOne 22 = .ok (.bipush 35, 2) := by decide +kernel
theorem dX10_throughOne_24 : decode cX10_throughOne 24 = .ok (.if_icmp .ge 66, 3) := by decide +kernel
theorem dX10_throughOne_27 : decode cX10_throughOne 27 = .ok (.aload_n 0, 1) := by decide +kernel
theorem dX10_throughOne_28 : decode cX10_throughOne 28 = .ok (.getfield 29, 3) := by decide +kernel
theorem dX10_throughOne_31 : decode cX10_throughOne 31 = .ok (.iload_n 1, 1) := by decide +kernel
theorem dX10_throughOne_32 : decode cX10_throughOne 32 = .ok (.iload 4, 2) := by decide +kernel
theorem dX10_throughOne_34 : decode cX10_throughOne 34 = .ok (.iload 5, 2) := by decide +kernel
theorem dX10_throughOne_36 : decode cX10_throughOne 36 = .ok (.invokestatic 160, 3) := by decide +kernel
theorem dX10_throughOne_39 : decode cX10_throughOne 39 = .ok (.iaload, 1) := by decide +kernel
theorem dX10_throughOne_40 : decode cX10_throughOne 40 = .ok (.istore 6, 2) := by decide +kernel
theorem dX10_throughOne_42 : decode cX10_throughOne 42 = .ok (.aload_n 0, 1) := by decide +kernel
theorem dX10_throughOne_43 : decode cX10_throughOne 43 = .ok (.iload 5, 2) := by decide +kernel
theorem dX10_throughOne_45 : decode cX10_throughOne 45 = .ok (.iload_n 2, 1) := by decide +kernel
theorem dX10_throughOne_46 : decode cX10_throughOne 46 = .ok (.invokevirtual 179, 3) := by decide +kernel
theorem dX10_throughOne_49 : decode cX10_throughOne 49 = .ok (.istore 7, 2) := by decide +kernel
theorem dX10_throughOne_51 : decode cX10_throughOne 51 = .ok (.iload 6, 2) := by decide +kernel
theorem dX10_throughOne_53 : decode cX10_throughOne 53 = .ok (.ldc 163, 2) := by decide +kernel
theorem dX10_throughOne_55 : decode cX10_throughOne 55 = .ok (.if_icmp .ge 27, 3) := by decide +kernel
theorem dX10_throughOne_58 : decode cX10_throughOne 58 = .ok (.iload 7, 2) := by decide +kernel
theorem dX10_throughOne_60 : decode cX10_throughOne 60 = .ok (.ldc 163, 2) := by decide +kernel
theorem dX10_throughOne_62 : decode cX10_throughOne 62 = .ok (.if_icmp .ge 20, 3) := by decide +kernel
theorem dX10_throughOne_65 : decode cX10_throughOne 65 = .ok (.iload 6, 2) := by decide +kernel
theorem dX10_throughOne_67 : decode cX10_throughOne 67 = .ok (.iload 7, 2) := by decide +kernel
theorem dX10_throughOne_69 : decode cX10_throughOne 69 = .ok (.iadd, 1) := by decide +kernel
theorem dX10_throughOne_70 : decode cX10_throughOne 70 = .ok (.iload_n 3, 1) := by decide +kernel
theorem dX10_throughOne_71 : decode cX10_throughOne 71 = .ok (.if_icmp .ge 11, 3) := by decide +kernel
theorem dX10_throughOne_74 : decode cX10_throughOne 74 = .ok (.iload 6, 2) := by decide +kernel
theorem dX10_throughOne_76 : decode cX10_throughOne 76 = .ok (.iload 7, 2) := by decide +kernel
theorem dX10_throughOne_78 : decode cX10_throughOne 78 = .ok (.iadd, 1) := by decide +kernel
theorem dX10_throughOne_79 : decode cX10_throughOne 79 = .ok (.goto 4, 3) := by decide +kernel
theorem dX10_throughOne_82 : decode cX10_throughOne 82 = .ok (.iload_n 3, 1) := by decide +kernel
theorem dX10_throughOne_83 : decode cX10_throughOne 83 = .ok (.istore_n 3, 1) := by decide +kernel
theorem dX10_throughOne_84 : decode cX10_throughOne 84 = .ok (.iinc 5 1, 3) := by decide +kernel
theorem dX10_throughOne_87 : decode cX10_throughOne 87 = .ok (.goto (-67), 3) := by decide +kernel
theorem dX10_throughOne_90 : decode cX10_throughOne 90 = .ok (.iinc 4 1, 3) := by decide +kernel
theorem dX10_throughOne_93 : decode cX10_throughOne 93 = .ok (.goto (-87), 3) := by decide +kernel
theorem dX10_throughOne_96 : decode cX10_throughOne 96 = .ok (.iload_n 3, 1) := by decide +kernel
theorem dX10_throughOne_97 : decode cX10_throughOne 97 = .ok (.ireturn, 1) := by decide +kernel
theorem dX10_meet_0 : decode cX10_meet 0 = .ok (.ldc 163, 2) := by decide +kernel
theorem dX10_meet_2 : decode cX10_meet 2 = .ok (.istore_n 3, 1) := by decide +kernel
theorem dX10_meet_3 : decode cX10_meet 3 = .ok (.iconst 0, 1) := by decide +kernel
theorem dX10_meet_4 : decode cX10_meet 4 = .ok (.istore 4, 2) := by decide +kernel
theorem dX10_meet_6 : decode cX10_meet 6 = .ok (.iload 4, 2) := by decide +kernel
theorem dX10_meet_8 : decode cX10_meet 8 = .ok (.bipush 35, 2) := by decide +kernel
theorem dX10_meet_10 : decode cX10_meet 10 = .ok (.if_icmp .ge 57, 3) := by decide +kernel
theorem dX10_meet_13 : decode cX10_meet 13 = .ok (.aload_n 0, 1) := by decide +kernel
theorem dX10_meet_14 : decode cX10_meet 14 = .ok (.iload 4, 2) := by decide +kernel
theorem dX10_meet_16 : decode cX10_meet 16 = .ok (.iload_n 2, 1) := by decide +kernel
theorem dX10_meet_17 : decode cX10_meet 17 = .ok (.invokevirtual 179, 3) := by decide +kernel
theorem dX10_meet_20 : decode cX10_meet 20 = .ok (.istore 5, 2) := by decide +kernel
theorem dX10_meet_22 : decode cX10_meet 22 = .ok (.aload_n 1, 1) := by decide +kernel
theorem dX10_meet_23 : decode cX10_meet 23 = .ok (.iload 4, 2) := by decide +kernel
theorem dX10_meet_25 : decode cX10_meet 25 = .ok (.iaload, 1) := by decide +kernel
theorem dX10_meet_26 : decode cX10_meet 26 = .ok (.ldc 163, 2) := by decide +kernel
theorem dX10_meet_28 : decode cX10_meet 28 = .ok (.if_icmp .ge 31, 3) := by decide +kernel
theorem dX10_meet_31 : decode cX10_meet 31 = .ok (.iload 5, 2) := by decide +kernel
theorem dX10_meet_33 : decode cX10_meet 33 = .ok (.ldc 163, 2) := by decide +kernel
theorem dX10_meet_35 : decode cX10_meet 35 = .ok (.if_icmp .ge 24, 3) := by decide +kernel
theorem dX10_meet_38 : decode cX10_meet 38 = .ok (.aload_n 1, 1) := by decide +kernel
theorem dX10_meet_39 : decode cX10_meet 39 = .ok (.iload 4, 2) := by decide +kernel
theorem dX10_meet_41 : decode cX10_meet 41 = .ok (.iaload, 1) := by decide +kernel
theorem dX10_meet_42 : decode cX10_meet 42 = .ok (.iload 5, 2) := by decide +kernel
theorem dX10_meet_44 : decode cX10_meet 44 = .ok (.iadd, 1) := by decide +kernel
theorem dX10_meet_45 : decode cX10_meet 45 = .ok (.iload_n 3, 1) := by decide +kernel
theorem dX10_meet_46 : decode cX10_meet 46 = .ok (.if_icmp .ge 13, 3) := by decide +kernel
theorem dX10_meet_49 : decode cX10_meet 49 = .ok (.aload_n 1, 1) := by decide +kernel
theorem dX10_meet_50 : decode cX10_meet 50 = .ok (.iload 4, 2) := by decide +kernel
theorem dX10_meet_52 : decode cX10_meet 52 = .ok (.iaload, 1) := by decide +kernel
theorem dX10_meet_53 : decode cX10_meet 53 = .ok (.iload 5, 2) := by decide +kernel
theorem dX10_meet_55 : decode cX10_meet 55 = .ok (.iadd, 1) := by decide +kernel
theorem dX10_meet_56 : decode cX10_meet 56 = .ok (.goto 4, 3) := by decide +kernel
theorem dX10_meet_59 : decode cX10_meet 59 = .ok (.iload_n 3, 1) := by decide +kernel
theorem dX10_meet_60 : decode cX10_meet 60 = .ok (.istore_n 3, 1) := by decide +kernel
theorem dX10_meet_61 : decode cX10_meet 61 = .ok (.iinc 4 1, 3) := by decide +kernel
theorem dX10_meet_64 : decode cX10_meet 64 = .ok (.goto (-58), 3) := by decide +kernel
theorem dX10_meet_67 : decode cX10_meet 67 = .ok (.iload_n 3, 1) := by decide +kernel
theorem dX10_meet_68 : decode cX10_meet 68 = .ok (.ireturn, 1) := by decide +kernel
theorem dX10_readFront_0 : decode cX10_readFront 0 = .ok (.iconst 0, 1) := by decide +kernel
theorem dX10_readFront_1 : decode cX10_readFront 1 = .ok (.istore_n 2, 1) := by decide +kernel
theorem dX10_readFront_2 : decode cX10_readFront 2 = .ok (.iload_n 2, 1) := by decide +kernel
theorem dX10_readFront_3 : decode cX10_readFront 3 = .ok (.bipush 35, 2) := by decide +kernel
theorem dX10_readFront_5 : decode cX10_readFront 5 = .ok (.if_icmp .ge 104, 3) := by decide +kernel
theorem dX10_readFront_8 : decode cX10_readFront 8 = .ok (.aload_n 0, 1) := by decide +kernel
theorem dX10_readFront_9 : decode cX10_readFront 9 = .ok (.getfield 38, 3) := by decide +kernel
theorem dX10_readFront_12 : decode cX10_readFront 12 = .ok (.iload_n 2, 1) := by decide +kernel
theorem dX10_readFront_13 : decode cX10_readFront 13 = .ok (.ldc 163, 2) := by decide +kernel
theorem dX10_readFront_15 : decode cX10_readFront 15 = .ok (.iastore, 1) := by decide +kernel
theorem dX10_readFront_16 : decode cX10_readFront 16 = .ok (.iconst 0, 1) := by decide +kernel
theorem dX10_readFront_17 : decode cX10_readFront 17 = .ok (.istore_n 3, 1) := by decide +kernel
theorem dX10_readFront_18 : decode cX10_readFront 18 = .ok (.iload_n 3, 1) := by decide +kernel
theorem dX10_readFront_19 : decode cX10_readFront 19 = .ok (.bipush 35, 2) := by decide +kernel
theorem dX10_readFront_21 : decode cX10_readFront 21 = .ok (.if_icmp .ge 82, 3) := by decide +kernel
theorem dX10_readFront_24 : decode cX10_readFront 24 = .ok (.aload_n 0, 1) := by decide +kernel
theorem dX10_readFront_25 : decode cX10_readFront 25 = .ok (.getfield 29, 3) := by decide +kernel
theorem dX10_readFront_28 : decode cX10_readFront 28 = .ok (.iload_n 3, 1) := by decide +kernel
theorem dX10_readFront_29 : decode cX10_readFront 29 = .ok (.iload_n 1, 1) := by decide +kernel
theorem dX10_readFront_30 : decode cX10_readFront 30 = .ok (.iload_n 2, 1) := by decide +kernel
theorem dX10_readFront_31 : decode cX10_readFront 31 = .ok (.invokestatic 160, 3) := by decide +kernel
theorem dX10_readFront_34 : decode cX10_readFront 34 = .ok (.iaload, 1) := by decide +kernel
theorem dX10_readFront_35 : decode cX10_readFront 35 = .ok (.istore 4, 2) := by decide +kernel
theorem dX10_readFront_37 : decode cX10_readFront 37 = .ok (.aload_n 0, 1) := by decide +kernel
theorem dX10_readFront_38 : decode cX10_readFront 38 = .ok (.getfield 38, 3) := by decide +kernel
theorem dX10_readFront_41 : decode cX10_readFront 41 = .ok (.iload_n 2, 1) := by decide +kernel
theorem dX10_readFront_42 : decode cX10_readFront 42 = .ok (.aload_n 0, 1) := by decide +kernel
theorem dX10_readFront_43 : decode cX10_readFront 43 = .ok (.getfield 35, 3) := by decide +kernel
theorem dX10_readFront_46 : decode cX10_readFront 46 = .ok (.iload_n 3, 1) := by decide +kernel
theorem dX10_readFront_47 : decode cX10_readFront 47 = .ok (.iaload, 1) := by decide +kernel
theorem dX10_readFront_48 : decode cX10_readFront 48 = .ok (.ldc 163, 2) := by decide +kernel
theorem dX10_readFront_50 : decode cX10_readFront 50 = .ok (.if_icmp .ge 40, 3) := by decide +kernel
theorem dX10_readFront_53 : decode cX10_readFront 53 = .ok (.iload 4, 2) := by decide +kernel
theorem dX10_readFront_55 : decode cX10_readFront 55 = .ok (.ldc 163, 2) := by decide +kernel
theorem dX10_readFront_57 : decode cX10_readFront 57 = .ok (.if_icmp .ge 33, 3) := by decide +kernel
theorem dX10_readFront_60 : decode cX10_readFront 60 = .ok (.aload_n 0, 1) := by decide +kernel
theorem dX10_readFront_61 : decode cX10_readFront 61 = .ok (.getfield 35, 3) := by decide +kernel
theorem dX10_readFront_64 : decode cX10_readFront 64 = .ok (.iload_n 3, 1) := by decide +kernel
theorem dX10_readFront_65 : decode cX10_readFront 65 = .ok (.iaload, 1) := by decide +kernel
theorem dX10_readFront_66 : decode cX10_readFront 66 = .ok (.iload 4, 2) := by decide +kernel
theorem dX10_readFront_68 : decode cX10_readFront 68 = .ok (.iadd, 1) := by decide +kernel
theorem dX10_readFront_69 : decode cX10_readFront 69 = .ok (.aload_n 0, 1) := by decide +kernel
theorem dX10_readFront_70 : decode cX10_readFront 70 = .ok (.getfield 38, 3) := by decide +kernel
theorem dX10_readFront_73 : decode cX10_readFront 73 = .ok (.iload_n 2, 1) := by decide +kernel
theorem dX10_readFront_74 : decode cX10_readFront 74 = .ok (.iaload, 1) := by decide +kernel
theorem dX10_readFront_75 : decode cX10_readFront 75 = .ok (.if_icmp .ge 15, 3) := by decide +kernel
theorem dX10_readFront_78 : decode cX10_readFront 78 = .ok (.aload_n 0, 1) := by decide +kernel
theorem dX10_readFront_79 : decode cX10_readFront 79 = .ok (.getfield 35, 3) := by decide +kernel
theorem dX10_readFront_82 : decode cX10_readFront 82 = .ok (.iload_n 3, 1) := by decide +kernel
theorem dX10_readFront_83 : decode cX10_readFront 83 = .ok (.iaload, 1) := by decide +kernel
theorem dX10_readFront_84 : decode cX10_readFront 84 = .ok (.iload 4, 2) := by decide +kernel
theorem dX10_readFront_86 : decode cX10_readFront 86 = .ok (.iadd, 1) := by decide +kernel
theorem dX10_readFront_87 : decode cX10_readFront 87 = .ok (.goto 9, 3) := by decide +kernel
theorem dX10_readFront_90 : decode cX10_readFront 90 = .ok (.aload_n 0, 1) := by decide +kernel
theorem dX10_readFront_91 : decode cX10_readFront 91 = .ok (.getfield 38, 3) := by decide +kernel
theorem dX10_readFront_94 : decode cX10_readFront 94 = .ok (.iload_n 2, 1) := by decide +kernel
theorem dX10_readFront_95 : decode cX10_readFront 95 = .ok (.iaload, 1) := by decide +kernel
theorem dX10_readFront_96 : decode cX10_readFront 96 = .ok (.iastore, 1) := by decide +kernel
theorem dX10_readFront_97 : decode cX10_readFront 97 = .ok (.iinc 3 1, 3) := by decide +kernel
theorem dX10_readFront_100 : decode cX10_readFront 100 = .ok (.goto (-82), 3) := by decide +kernel
theorem dX10_readFront_103 : decode cX10_readFront 103 = .ok (.iinc 2 1, 3) := by decide +kernel
theorem dX10_readFront_106 : decode cX10_readFront 106 = .ok (.goto (-104), 3) := by decide +kernel
theorem dX10_readFront_109 : decode cX10_readFront 109 = .ok (.return_, 1) := by decide +kernel
theorem dX10_layFront_0 : decode cX10_layFront 0 = .ok (.iconst 0, 1) := by decide +kernel
theorem dX10_layFront_1 : decode cX10_layFront 1 = .ok (.istore_n 3, 1) := by decide +kernel
theorem dX10_layFront_2 : decode cX10_layFront 2 = .ok (.iload_n 3, 1) := by decide +kernel
theorem dX10_layFront_3 : decode cX10_layFront 3 = .ok (.bipush 35, 2) := by decide +kernel
theorem dX10_layFront_5 : decode cX10_layFront 5 = .ok (.if_icmp .ge 22, 3) := by decide +kernel
theorem dX10_layFront_8 : decode cX10_layFront 8 = .ok (.aload_n 0, 1) := by decide +kernel
theorem dX10_layFront_9 : decode cX10_layFront 9 = .ok (.getfield 35, 3) := by decide +kernel
theorem dX10_layFront_12 : decode cX10_layFront 12 = .ok (.iload_n 3, 1) := by decide +kernel
theorem dX10_layFront_13 : decode cX10_layFront 13 = .ok (.aload_n 0, 1) := by decide +kernel
theorem dX10_layFront_14 : decode cX10_layFront 14 = .ok (.iload_n 1, 1) := by decide +kernel
theorem dX10_layFront_15 : decode cX10_layFront 15 = .ok (.iload_n 2, 1) := by decide +kernel
theorem dX10_layFront_16 : decode cX10_layFront 16 = .ok (.iload_n 3, 1) := by decide +kernel
theorem dX10_layFront_17 : decode cX10_layFront 17 = .ok (.invokevirtual 164, 3) := by decide +kernel
theorem dX10_layFront_20 : decode cX10_layFront 20 = .ok (.iastore, 1) := by decide +kernel
theorem dX10_layFront_21 : decode cX10_layFront 21 = .ok (.iinc 3 1, 3) := by decide +kernel
theorem dX10_layFront_24 : decode cX10_layFront 24 = .ok (.goto (-22), 3) := by decide +kernel
theorem dX10_layFront_27 : decode cX10_layFront 27 = .ok (.return_, 1) := by decide +kernel
theorem dX10_headOf_0 : decode cX10_headOf 0 = .ok (.aload_n 0, 1) := by decide +kernel
theorem dX10_headOf_1 : decode cX10_headOf 1 = .ok (.iload_n 1, 1) := by decide +kernel
theorem dX10_headOf_2 : decode cX10_headOf 2 = .ok (.iload_n 2, 1) := by decide +kernel
theorem dX10_headOf_3 : decode cX10_headOf 3 = .ok (.invokevirtual 182, 3) := by decide +kernel
theorem dX10_headOf_6 : decode cX10_headOf 6 = .ok (.aload_n 0, 1) := by decide +kernel
theorem dX10_headOf_7 : decode cX10_headOf 7 = .ok (.aload_n 0, 1) := by decide +kernel
theorem dX10_headOf_8 : decode cX10_headOf 8 = .ok (.getfield 35, 3) := by decide +kernel
theorem dX10_headOf_11 : decode cX10_headOf 11 = .ok (.bipush 7, 2) := by decide +kernel
theorem dX10_headOf_13 : decode cX10_headOf 13 = .ok (.invokevirtual 186, 3) := by decide +kernel
theorem dX10_headOf_16 : decode cX10_headOf 16 = .ok (.istore_n 3, 1) := by decide +kernel
theorem dX10_headOf_17 : decode cX10_headOf 17 = .ok (.iload_n 3, 1) := by decide +kernel
theorem dX10_headOf_18 : decode cX10_headOf 18 = .ok (.ldc 159, 2) := by decide +kernel
theorem dX10_headOf_20 : decode cX10_headOf 20 = .ok (.if_icmp .le 8, 3) := by decide +kernel
theorem dX10_headOf_23 : decode cX10_headOf 23 = .ok (.bipush (-6), 2) := by decide +kernel
theorem dX10_headOf_25 : decode cX10_headOf 25 = .ok (.goto 4, 3) := by decide +kernel
theorem dX10_headOf_28 : decode cX10_headOf 28 = .ok (.iload_n 3, 1) := by decide +kernel
theorem dX10_headOf_29 : decode cX10_headOf 29 = .ok (.ireturn, 1) := by decide +kernel
theorem dX10_isHead_0 : decode cX10_isHead 0 = .ok (.aload_n 0, 1) := by decide +kernel
theorem dX10_isHead_1 : decode cX10_isHead 1 = .ok (.iload_n 1, 1) := by decide +kernel
theorem dX10_isHead_2 : decode cX10_isHead 2 = .ok (.invokevirtual 71, 3) := by decide +kernel
theorem dX10_isHead_5 : decode cX10_isHead 5 = .ok (.ifCond .eq 15, 3) := by decide +kernel
theorem dX10_isHead_8 : decode cX10_isHead 8 = .ok (.aload_n 0, 1) := by decide +kernel
theorem dX10_isHead_9 : decode cX10_isHead 9 = .ok (.iload_n 2, 1) := by decide +kernel
theorem dX10_isHead_10 : decode cX10_isHead 10 = .ok (.invokevirtual 52, 3) := by decide +kernel
theorem dX10_isHead_13 : decode cX10_isHead 13 = .ok (.ifCond .eq 7, 3) := by decide +kernel
theorem dX10_isHead_16 : decode cX10_isHead 16 = .ok (.iconst 1, 1) := by decide +kernel
theorem dX10_isHead_17 : decode cX10_isHead 17 = .ok (.goto 4, 3) := by decide +kernel
theorem dX10_isHead_20 : decode cX10_isHead 20 = .ok (.iconst 0, 1) := by decide +kernel
theorem dX10_isHead_21 : decode cX10_isHead 21 = .ok (.ireturn, 1) := by decide +kernel
theorem dX10_headDistance_0 : decode cX10_headDistance 0 = .ok (.aload_n 0, 1) := by decide +kernel
theorem dX10_headDistance_1 : decode cX10_headDistance 1 = .ok (.iload_n 1, 1) := by decide +kernel
theorem dX10_headDistance_2 : decode cX10_headDistance 2 = .ok (.iload_n 2, 1) := by decide +kernel
theorem dX10_headDistance_3 : decode cX10_headDistance 3 = .ok (.invokevirtual 190, 3) := by decide +kernel
theorem dX10_headDistance_6 : decode cX10_headDistance 6 = .ok (.ifCond .ne 5, 3) := by decide +kernel
theorem dX10_headDistance_9 : decode cX10_headDistance 9 = .ok (.iconst (-1), 1) := by decide +kernel
theorem dX10_headDistance_10 : decode cX10_headDistance 10 = .ok (.ireturn, 1) := by decide +kernel
theorem dX10_headDistance_11 : decode cX10_headDistance 11 = .ok (.aload_n 0, 1) := by decide +kernel
theorem dX10_headDistance_12 : decode cX10_headDistance 12 = .ok (.invokevirtual 193, 3) := by decide +kernel
theorem dX10_headDistance_15 : decode cX10_headDistance 15 = .ok (.aload_n 0, 1) := by decide +kernel
theorem dX10_headDistance_16 : decode cX10_headDistance 16 = .ok (.invokevirtual 196, 3) := by decide +kernel
theorem dX10_headDistance_19 : decode cX10_headDistance 19 = .ok (.aload_n 0, 1) := by decide +kernel
theorem dX10_headDistance_20 : decode cX10_headDistance 20 = .ok (.iload_n 1, 1) := by decide +kernel
theorem dX10_headDistance_21 : decode cX10_headDistance 21 = .ok (.iload_n 2, 1) := by decide +kernel
theorem dX10_headDistance_22 : decode cX10_headDistance 22 = .ok (.invokevirtual 199, 3) := by decide +kernel
theorem dX10_headDistance_25 : decode cX10_headDistance 25 = .ok (.ireturn, 1) := by decide +kernel
theorem dX10_nearestStack_0 : decode cX10_nearestStack 0 = .ok (.aload_n 0, 1) := by decide +kernel
theorem dX10_nearestStack_1 : decode cX10_nearestStack 1 = .ok (.iload_n 1, 1) := by decide +kernel
theorem dX10_nearestStack_2 : decode cX10_nearestStack 2 = .ok (.iload_n 2, 1) := by decide +kernel
theorem dX10_nearestStack_3 : decode cX10_nearestStack 3 = .ok (.invokevirtual 190, 3) := by decide +kernel
theorem dX10_nearestStack_6 : decode cX10_nearestStack 6 = .ok (.ifCond .ne 5, 3) := by decide +kernel
theorem dX10_nearestStack_9 : decode cX10_nearestStack 9 = .ok (.iconst (-1), 1) := by decide +kernel
theorem dX10_nearestStack_10 : decode cX10_nearestStack 10 = .ok (.ireturn, 1) := by decide +kernel
theorem dX10_nearestStack_11 : decode cX10_nearestStack 11 = .ok (.aload_n 0, 1) := by decide +kernel
theorem dX10_nearestStack_12 : decode cX10_nearestStack 12 = .ok (.invokevirtual 193, 3) := by decide +kernel
theorem dX10_nearestStack_15 : decode cX10_nearestStack 15 = .ok (.aload_n 0, 1) := by decide +kernel
theorem dX10_nearestStack_16 : decode cX10_nearestStack 16 = .ok (.invokevirtual 196, 3) := by decide +kernel
theorem dX10_nearestStack_19 : decode cX10_nearestStack 19 = .ok (.aload_n 0, 1) := by decide +kernel
theorem dX10_nearestStack_20 : decode cX10_nearestStack 20 = .ok (.iload_n 1, 1) := by decide +kernel
theorem dX10_nearestStack_21 : decode cX10_nearestStack 21 = .ok (.iload_n 2, 1) := by decide +kernel
theorem dX10_nearestStack_22 : decode cX10_nearestStack 22 = .ok (.invokevirtual 199, 3) := by decide +kernel
theorem dX10_nearestStack_25 : decode cX10_nearestStack 25 = .ok (.istore_n 3, 1) := by decide +kernel
theorem dX10_nearestStack_26 : decode cX10_nearestStack 26 = .ok (.iconst 0, 1) := by decide +kernel
theorem dX10_nearestStack_27 : decode cX10_nearestStack 27 = .ok (.istore 4, 2) := by decide +kernel
theorem dX10_nearestStack_29 : decode cX10_nearestStack 29 = .ok (.iload 4, 2) := by decide +kernel
theorem dX10_nearestStack_31 : decode cX10_nearestStack 31 = .ok (.bipush 6, 2) := by decide +kernel
theorem dX10_nearestStack_33 : decode cX10_nearestStack 33 = .ok (.if_icmp .ge 29, 3) := by decide +kernel
theorem dX10_nearestStack_36 : decode cX10_nearestStack 36 = .ok (.iload_n 3, 1) := by decide +kernel
theorem dX10_nearestStack_37 : decode cX10_nearestStack 37 = .ok (.bipush (-6), 2) := by decide +kernel
theorem dX10_nearestStack_39 : decode cX10_nearestStack 39 = .ok (.if_icmp .eq 17, 3) := by decide +kernel
theorem dX10_nearestStack_42 : decode cX10_nearestStack 42 = .ok (.aload_n 0, 1) := by decide +kernel
theorem dX10_nearestStack_43 : decode cX10_nearestStack 43 = .ok (.aload_n 0, 1) := by decide +kernel
theorem dX10_nearestStack_44 : decode cX10_nearestStack 44 = .ok (.getfield 35, 3) := by decide +kernel
theorem dX10_nearestStack_47 : decode cX10_nearestStack 47 = .ok (.iload 4, 2) := by decide +kernel
theorem dX10_nearestStack_49 : decode cX10_nearestStack 49 = .ok (.invokevirtual 186, 3) := by decide +kernel
theorem dX10_nearestStack_52 : decode cX10_nearestStack 52 = .ok (.iload_n 3, 1) := by decide +kernel
theorem dX10_nearestStack_53 : decode cX10_nearestStack 53 = .ok (.if_icmp .eq 9, 3) := by decide +kernel
theorem dX10_nearestStack_56 : decode cX10_nearestStack 56 = .ok (.iinc 4 1, 3) := by decide +kernel
theorem dX10_nearestStack_59 : decode cX10_nearestStack 59 = .ok (.goto (-30), 3) := by decide +kernel
theorem dX10_nearestStack_62 : decode cX10_nearestStack 62 = .ok (.iload 4, 2) := by decide +kernel
theorem dX10_nearestStack_64 : decode cX10_nearestStack 64 = .ok (.bipush 6, 2) := by decide +kernel
theorem dX10_nearestStack_66 : decode cX10_nearestStack 66 = .ok (.if_icmp .ne 6, 3) := by decide +kernel
theorem dX10_nearestStack_69 : decode cX10_nearestStack 69 = .ok (.bipush (-6), 2) := by decide +kernel
theorem dX10_nearestStack_71 : decode cX10_nearestStack 71 = .ok (.ireturn, 1) := by decide +kernel
theorem dX10_nearestStack_72 : decode cX10_nearestStack 72 = .ok (.iload_n 2, 1) := by decide +kernel
theorem dX10_nearestStack_73 : decode cX10_nearestStack 73 = .ok (.istore 5, 2) := by decide +kernel
theorem dX10_nearestStack_75 : decode cX10_nearestStack 75 = .ok (.iload 4, 2) := by decide +kernel
theorem dX10_nearestStack_77 : decode cX10_nearestStack 77 = .ok (.iconst 1, 1) := by decide +kernel
theorem dX10_nearestStack_78 : decode cX10_nearestStack 78 = .ok (.isub, 1) := by decide +kernel
theorem dX10_nearestStack_79 : decode cX10_nearestStack 79 = .ok (.istore 6, 2) := by decide +kernel
theorem dX10_nearestStack_81 : decode cX10_nearestStack 81 = .ok (.iload 6, 2) := by decide +kernel
theorem dX10_nearestStack_83 : decode cX10_nearestStack 83 = .ok (.ifCond .lt 84, 3) := by decide +kernel
theorem dX10_nearestStack_86 : decode cX10_nearestStack 86 = .ok (.iconst 1, 1) := by decide +kernel
theorem dX10_nearestStack_87 : decode cX10_nearestStack 87 = .ok (.istore 7, 2) := by decide +kernel
theorem dX10_nearestStack_89 : decode cX10_nearestStack 89 = .ok (.aload_n 0, 1) := by decide +kernel
theorem dX10_nearestStack_90 : decode cX10_nearestStack 90 = .ok (.iload 7, 2) := by decide +kernel
theorem dX10_nearestStack_92 : decode cX10_nearestStack 92 = .ok (.invokevirtual 202, 3) := by decide +kernel
theorem dX10_nearestStack_95 : decode cX10_nearestStack 95 = .ok (.aload_n 0, 1) := by decide +kernel
theorem dX10_nearestStack_96 : decode cX10_nearestStack 96 = .ok (.aload_n 0, 1) := by decide +kernel
theorem dX10_nearestStack_97 : decode cX10_nearestStack 97 = .ok (.getfield 38, 3) := by decide +kernel
theorem dX10_nearestStack_100 : decode cX10_nearestStack 100 = .ok (.iload 6, 2) := by decide +kernel
theorem dX10_nearestStack_102 : decode cX10_nearestStack 102 = .ok (.invokevirtual 186, 3) := by decide +kernel
theorem dX10_nearestStack_105 : decode cX10_nearestStack 105 = .ok (.iload_n 3, 1) := by decide +kernel
theorem dX10_nearestStack_106 : decode cX10_nearestStack 106 = .ok (.if_icmp .eq 15, 3) := by decide +kernel
theorem dX10_nearestStack_109 : decode cX10_nearestStack 109 = .ok (.iinc 7 1, 3) := by decide +kernel
theorem dX10_nearestStack_112 : decode cX10_nearestStack 112 = .ok (.aload_n 0, 1) := by decide +kernel
theorem dX10_nearestStack_113 : decode cX10_nearestStack 113 = .ok (.iload 7, 2) := by decide +kernel
theorem dX10_nearestStack_115 : decode cX10_nearestStack 115 = .ok (.invokevirtual 202, 3) := by decide +kernel
theorem dX10_nearestStack_118 : decode cX10_nearestStack 118 = .ok (.goto (-23), 3) := by decide +kernel
theorem dX10_nearestStack_121 : decode cX10_nearestStack 121 = .ok (.iconst 0, 1) := by decide +kernel
theorem dX10_nearestStack_122 : decode cX10_nearestStack 122 = .ok (.istore 8, 2) := by decide +kernel
theorem dX10_nearestStack_124 : decode cX10_nearestStack 124 = .ok (.iload 8, 2) := by decide +kernel
theorem dX10_nearestStack_126 : decode cX10_nearestStack 126 = .ok (.bipush 35, 2) := by decide +kernel
theorem dX10_nearestStack_128 : decode cX10_nearestStack 128 = .ok (.if_icmp .ge 23, 3) := by decide +kernel
theorem dX10_nearestStack_131 : decode cX10_nearestStack 131 = .ok (.aload_n 0, 1) := by decide +kernel
theorem dX10_nearestStack_132 : decode cX10_nearestStack 132 = .ok (.getfield 35, 3) := by decide +kernel
theorem dX10_nearestStack_135 : decode cX10_nearestStack 135 = .ok (.iload 8, 2) := by decide +kernel
theorem dX10_nearestStack_137 : decode cX10_nearestStack 137 = .ok (.aload_n 0, 1) := by decide +kernel
theorem dX10_nearestStack_138 : decode cX10_nearestStack 138 = .ok (.getfield 38, 3) := by decide +kernel
theorem dX10_nearestStack_141 : decode cX10_nearestStack 141 = .ok (.iload 8, 2) := by decide +kernel
theorem dX10_nearestStack_143 : decode cX10_nearestStack 143 = .ok (.iaload, 1) := by decide +kernel
theorem dX10_nearestStack_144 : decode cX10_nearestStack 144 = .ok (.iastore, 1) := by decide +kernel
theorem dX10_nearestStack_145 : decode cX10_nearestStack 145 = .ok (.iinc 8 1, 3) := by decide +kernel
theorem dX10_nearestStack_148 : decode cX10_nearestStack 148 = .ok (.goto (-24), 3) := by decide +kernel
theorem dX10_nearestStack_151 : decode cX10_nearestStack 151 = .ok (.bipush 10, 2) := by decide +kernel
theorem dX10_nearestStack_153 : decode cX10_nearestStack 153 = .ok (.iload 5, 2) := by decide +kernel
theorem dX10_nearestStack_155 : decode cX10_nearestStack 155 = .ok (.imul, 1) := by decide +kernel
theorem dX10_nearestStack_156 : decode cX10_nearestStack 156 = .ok (.iload 7, 2) := by decide +kernel
theorem dX10_nearestStack_158 : decode cX10_nearestStack 158 = .ok (.iadd, 1) := by decide +kernel
theorem dX10_nearestStack_159 : decode cX10_nearestStack 159 = .ok (.istore 5, 2) := by decide +kernel
theorem dX10_nearestStack_161 : decode cX10_nearestStack 161 = .ok (.iinc 6 (-1), 3) := by decide +kernel
theorem dX10_nearestStack_164 : decode cX10_nearestStack 164 = .ok (.goto (-83), 3) := by decide +kernel
theorem dX10_nearestStack_167 : decode cX10_nearestStack 167 = .ok (.iload 5, 2) := by decide +kernel
theorem dX10_nearestStack_169 : decode cX10_nearestStack 169 = .ok (.ireturn, 1) := by decide +kernel
theorem dX10_heads_0 : decode cX10_heads 0 = .ok (.aload_n 0, 1) := by decide +kernel
theorem dX10_heads_1 : decode cX10_heads 1 = .ok (.invokevirtual 193, 3) := by decide +kernel
theorem dX10_heads_4 : decode cX10_heads 4 = .ok (.aload_n 0, 1) := by decide +kernel
theorem dX10_heads_5 : decode cX10_heads 5 = .ok (.invokevirtual 196, 3) := by decide +kernel
theorem dX10_heads_8 : decode cX10_heads 8 = .ok (.iconst 0, 1) := by decide +kernel
theorem dX10_heads_9 : decode cX10_heads 9 = .ok (.istore_n 1, 1) := by decide +kernel
theorem dX10_heads_10 : decode cX10_heads 10 = .ok (.iconst 0, 1) := by decide +kernel
theorem dX10_heads_11 : decode cX10_heads 11 = .ok (.istore_n 2, 1) := by decide +kernel
theorem dX10_heads_12 : decode cX10_heads 12 = .ok (.iload_n 2, 1) := by decide +kernel
theorem dX10_heads_13 : decode cX10_heads 13 = .ok (.aload_n 0, 1) := by decide +kernel
theorem dX10_heads_14 : decode cX10_heads 14 = .ok (.getfield 7, 3) := by decide +kernel
theorem dX10_heads_17 : decode cX10_heads 17 = .ok (.iconst 0, 1) := by decide +kernel
theorem dX10_heads_18 : decode cX10_heads 18 = .ok (.iaload, 1) := by decide +kernel
theorem dX10_heads_19 : decode cX10_heads 19 = .ok (.if_icmp .ge 46, 3) := by decide +kernel
theorem dX10_heads_22 : decode cX10_heads 22 = .ok (.iconst 1, 1) := by decide +kernel
theorem dX10_heads_23 : decode cX10_heads 23 = .ok (.istore_n 3, 1) := by decide +kernel
theorem dX10_heads_24 : decode cX10_heads 24 = .ok (.iload_n 3, 1) := by decide +kernel
theorem dX10_heads_25 : decode cX10_heads 25 = .ok (.aload_n 0, 1) := by decide +kernel
theorem dX10_heads_26 : decode cX10_heads 26 = .ok (.getfield 7, 3) := by decide +kernel
theorem dX10_heads_29 : decode cX10_heads 29 = .ok (.iconst 1, 1) := by decide +kernel
theorem dX10_heads_30 : decode cX10_heads 30 = .ok (.iaload, 1) := by decide +kernel
theorem dX10_heads_31 : decode cX10_heads 31 = .ok (.if_icmp .gt 28, 3) := by decide +kernel
theorem dX10_heads_34 : decode cX10_heads 34 = .ok (.iload_n 1, 1) := by decide +kernel
theorem dX10_heads_35 : decode cX10_heads 35 = .ok (.aload_n 0, 1) := by decide +kernel
theorem dX10_heads_36 : decode cX10_heads 36 = .ok (.iload_n 2, 1) := by decide +kernel
theorem dX10_heads_37 : decode cX10_heads 37 = .ok (.iload_n 3, 1) := by decide +kernel
theorem dX10_heads_38 : decode cX10_heads 38 = .ok (.invokevirtual 199, 3) := by decide +kernel
theorem dX10_heads_41 : decode cX10_heads 41 = .ok (.bipush (-6), 2) := by decide +kernel
theorem dX10_heads_43 : decode cX10_heads 43 = .ok (.if_icmp .eq 7, 3) := by decide +kernel
theorem dX10_heads_46 : decode cX10_heads 46 = .ok (.iconst 1, 1) := by decide +kernel
theorem dX10_heads_47 : decode cX10_heads 47 = .ok (.goto 4, 3) := by decide +kernel
theorem dX10_heads_50 : decode cX10_heads 50 = .ok (.iconst 0, 1) := by decide +kernel
theorem dX10_heads_51 : decode cX10_heads 51 = .ok (.iadd, 1) := by decide +kernel
theorem dX10_heads_52 : decode cX10_heads 52 = .ok (.istore_n 1, 1) := by decide +kernel
theorem dX10_heads_53 : decode cX10_heads 53 = .ok (.iinc 3 1, 3) := by decide +kernel
theorem dX10_heads_56 : decode cX10_heads 56 = .ok (.goto (-32), 3) := by decide +kernel
theorem dX10_heads_59 : decode cX10_heads 59 = .ok (.iinc 2 1, 3) := by decide +kernel
theorem dX10_heads_62 : decode cX10_heads 62 = .ok (.goto (-50), 3) := by decide +kernel
theorem dX10_heads_65 : decode cX10_heads 65 = .ok (.iload_n 1, 1) := by decide +kernel
theorem dX10_heads_66 : decode cX10_heads 66 = .ok (.ireturn, 1) := by decide +kernel
theorem dX10_arcs_0 : decode cX10_arcs 0 = .ok (.aload_n 0, 1) := by decide +kernel
theorem dX10_arcs_1 : decode cX10_arcs 1 = .ok (.invokevirtual 193, 3) := by decide +kernel
theorem dX10_arcs_4 : decode cX10_arcs 4 = .ok (.iconst 0, 1) := by decide +kernel
theorem dX10_arcs_5 : decode cX10_arcs 5 = .ok (.istore_n 1, 1) := by decide +kernel
theorem dX10_arcs_6 : decode cX10_arcs 6 = .ok (.iconst 0, 1) := by decide +kernel
theorem dX10_arcs_7 : decode cX10_arcs 7 = .ok (.istore_n 2, 1) := by decide +kernel
theorem dX10_arcs_8 : decode cX10_arcs 8 = .ok (.iload_n 2, 1) := by decide +kernel
theorem dX10_arcs_9 : decode cX10_arcs 9 = .ok (.sipush 7350, 3) := by decide +kernel
theorem dX10_arcs_12 : decode cX10_arcs 12 = .ok (.if_icmp .ge 28, 3) := by decide +kernel
theorem dX10_arcs_15 : decode cX10_arcs 15 = .ok (.iload_n 1, 1) := by decide +kernel
theorem dX10_arcs_16 : decode cX10_arcs 16 = .ok (.aload_n 0, 1) := by decide +kernel
theorem dX10_arcs_17 : decode cX10_arcs 17 = .ok (.getfield 29, 3) := by decide +kernel
theorem dX10_arcs_20 : decode cX10_arcs 20 = .ok (.iload_n 2, 1) := by decide +kernel
theorem dX10_arcs_21 : decode cX10_arcs 21 = .ok (.iaload, 1) := by decide +kernel
theorem dX10_arcs_22 : decode cX10_arcs 22 = .ok (.ldc 163, 2) := by decide +kernel
theorem dX10_arcs_24 : decode cX10_arcs 24 = .ok (.if_icmp .ge 7, 3) := by decide +kernel
theorem dX10_arcs_27 : decode cX10_arcs 27 = .ok (.iconst 1, 1) := by decide +kernel
theorem dX10_arcs_28 : decode cX10_arcs 28 = .ok (.goto 4, 3) := by decide +kernel
theorem dX10_arcs_31 : decode cX10_arcs 31 = .ok (.iconst 0, 1) := by decide +kernel
theorem dX10_arcs_32 : decode cX10_arcs 32 = .ok (.iadd, 1) := by decide +kernel
theorem dX10_arcs_33 : decode cX10_arcs 33 = .ok (.istore_n 1, 1) := by decide +kernel
theorem dX10_arcs_34 : decode cX10_arcs 34 = .ok (.iinc 2 1, 3) := by decide +kernel
theorem dX10_arcs_37 : decode cX10_arcs 37 = .ok (.goto (-29), 3) := by decide +kernel
theorem dX10_arcs_40 : decode cX10_arcs 40 = .ok (.iload_n 1, 1) := by decide +kernel
theorem dX10_arcs_41 : decode cX10_arcs 41 = .ok (.ireturn, 1) := by decide +kernel
theorem dX10_arc_0 : decode cX10_arc 0 = .ok (.iload_n 1, 1) := by decide +kernel
theorem dX10_arc_1 : decode cX10_arc 1 = .ok (.ifCond .lt 12, 3) := by decide +kernel
theorem dX10_arc_4 : decode cX10_arc 4 = .ok (.iload_n 2, 1) := by decide +kernel
theorem dX10_arc_5 : decode cX10_arc 5 = .ok (.iconst 0, 1) := by decide +kernel
theorem dX10_arc_6 : decode cX10_arc 6 = .ok (.iconst 3, 1) := by decide +kernel
theorem dX10_arc_7 : decode cX10_arc 7 = .ok (.invokestatic 44, 3) := by decide +kernel
theorem dX10_arc_10 : decode cX10_arc 10 = .ok (.ifCond .ne 6, 3) := by decide +kernel
theorem dX10_arc_13 : decode cX10_arc 13 = .ok (.bipush (-2), 2) := by decide +kernel
theorem dX10_arc_15 : decode cX10_arc 15 = .ok (.ireturn, 1) := by decide +kernel
theorem dX10_arc_16 : decode cX10_arc 16 = .ok (.aload_n 0, 1) := by decide +kernel
theorem dX10_arc_17 : decode cX10_arc 17 = .ok (.invokevirtual 193, 3) := by decide +kernel
theorem dX10_arc_20 : decode cX10_arc 20 = .ok (.iload_n 1, 1) := by decide +kernel
theorem dX10_arc_21 : decode cX10_arc 21 = .ok (.istore_n 3, 1) := by decide +kernel
theorem dX10_arc_22 : decode cX10_arc 22 = .ok (.iconst 0, 1) := by decide +kernel
theorem dX10_arc_23 : decode cX10_arc 23 = .ok (.istore 4, 2) := by decide +kernel
theorem dX10_arc_25 : decode cX10_arc 25 = .ok (.iload 4, 2) := by decide +kernel
theorem dX10_arc_27 : decode cX10_arc 27 = .ok (.sipush 7350, 3) := by decide +kernel
theorem dX10_arc_30 : decode cX10_arc 30 = .ok (.if_icmp .ge 78, 3) := by decide +kernel
theorem dX10_arc_33 : decode cX10_arc 33 = .ok (.aload_n 0, 1) := by decide +kernel
theorem dX10_arc_34 : decode cX10_arc 34 = .ok (.getfield 29, 3) := by decide +kernel
theorem dX10_arc_37 : decode cX10_arc 37 = .ok (.iload 4, 2) := by decide +kernel
theorem dX10_arc_39 : decode cX10_arc 39 = .ok (.iaload, 1) := by decide +kernel
theorem dX10_arc_40 : decode cX10_arc 40 = .ok (.ldc 163, 2) := by decide +kernel
theorem dX10_arc_42 : decode cX10_arc 42 = .ok (.if_icmp .ge 60, 3) := by decide +kernel
theorem dX10_arc_45 : decode cX10_arc 45 = .ok (.iload_n 3, 1) := by decide +kernel
theorem dX10_arc_46 : decode cX10_arc 46 = .ok (.ifCond .ne 53, 3) := by decide +kernel
theorem dX10_arc_49 : decode cX10_arc 49 = .ok (.iload_n 2, 1) := by decide +kernel
theorem dX10_arc_50 : decode cX10_arc 50 = .ok (.ifCond .ne 12, 3) := by decide +kernel
theorem dX10_arc_53 : decode cX10_arc 53 = .ok (.iload 4, 2) := by decide +kernel
theorem dX10_arc_55 : decode cX10_arc 55 = .ok (.sipush 210, 3) := by decide +kernel
theorem dX10_arc_58 : decode cX10_arc 58 = .ok (.idiv, 1) := by decide +kernel
theorem dX10_arc_59 : decode cX10_arc 59 = .ok (.goto 39, 3) := by decide +kernel
theorem dX10_arc_62 : decode cX10_arc 62 = .ok (.iload_n 2, 1) := by decide +kernel
theorem dX10_arc_63 : decode cX10_arc 63 = .ok (.iconst 1, 1) := by decide +kernel
theorem dX10_arc_64 : decode cX10_arc 64 = .ok (.if_icmp .ne 14, 3) := by decide +kernel
theorem dX10_arc_67 : decode cX10_arc 67 = .ok (.iload 4, 2) := by decide +kernel
theorem dX10_arc_69 : decode cX10_arc 69 = .ok (.bipush 35, 2) := by decide +kernel
theorem dX10_arc_71 : decode cX10_arc 71 = .ok (.idiv, 1) := by decide +kernel
theorem dX10_arc_72 : decode cX10_arc 72 = .ok (.bipush 6, 2) := by decide +kernel
theorem dX10_arc_74 : decode cX10_arc 74 = .ok (.irem, 1) := by decide +kernel
theorem dX10_arc_75 : decode cX10_arc 75 = .ok (.goto 23, 3) := by decide +kernel
theorem dX10_arc_78 : decode cX10_arc 78 = .ok (.iload_n 2, 1) := by decide +kernel
theorem dX10_arc_79 : decode cX10_arc 79 = .ok (.iconst 2, 1) := by decide +kernel
theorem dX10_arc_80 : decode cX10_arc 80 = .ok (.if_icmp .ne 11, 3) := by decide +kernel
theorem dX10_arc_83 : decode cX10_arc 83 = .ok (.iload 4, 2) := by decide +kernel
theorem dX10_arc_85 : decode cX10_arc 85 = .ok (.bipush 35, 2) := by decide +kernel
theorem dX10_arc_87 : decode cX10_arc 87 = .ok (.irem, 1) := by decide +kernel
theorem dX10_arc_88 : decode cX10_arc 88 = .ok (.goto 10, 3) := by decide +kernel
theorem dX10_arc_91 : decode cX10_arc 91 = .ok (.aload_n 0, 1) := by decide +kernel
theorem dX10_arc_92 : decode cX10_arc 92 = .ok (.getfield 29, 3) := by decide +kernel
theorem dX10_arc_95 : decode cX10_arc 95 = .ok (.iload 4, 2) := by decide +kernel
theorem dX10_arc_97 : decode cX10_arc 97 = .ok (.iaload, 1) := by decide +kernel
theorem dX10_arc_98 : decode cX10_arc 98 = .ok (.ireturn, 1) := by decide +kernel
theorem dX10_arc_99 : decode cX10_arc 99 = .ok (.iinc 3 (-1), 3) := by decide +kernel
theorem dX10_arc_102 : decode cX10_arc 102 = .ok (.iinc 4 1, 3) := by decide +kernel
theorem dX10_arc_105 : decode cX10_arc 105 = .ok (.goto (-80), 3) := by decide +kernel
theorem dX10_arc_108 : decode cX10_arc 108 = .ok (.bipush (-6), 2) := by decide +kernel
theorem dX10_arc_110 : decode cX10_arc 110 = .ok (.ireturn, 1) := by decide +kernel
theorem dX10_arcWeight_0 : decode cX10_arcWeight 0 = .ok (.iload_n 1, 1) := by decide +kernel
theorem dX10_arcWeight_1 : decode cX10_arcWeight 1 = .ok (.iconst 0, 1) := by decide +kernel
theorem dX10_arcWeight_2 : decode cX10_arcWeight 2 = .ok (.bipush 34, 2) := by decide +kernel
theorem dX10_arcWeight_4 : decode cX10_arcWeight 4 = .ok (.invokestatic 44, 3) := by decide +kernel
theorem dX10_arcWeight_7 : decode cX10_arcWeight 7 = .ok (.ifCond .eq 22, 3) := by decide +kernel
theorem dX10_arcWeight_10 : decode cX10_arcWeight 10 = .ok (.iload_n 2, 1) := by decide +kernel
theorem dX10_arcWeight_11 : decode cX10_arcWeight 11 = .ok (.iconst 0, 1) := by decide +kernel
theorem dX10_arcWeight_12 : decode cX10_arcWeight 12 = .ok (.iconst 5, 1) := by decide +kernel
theorem dX10_arcWeight_13 : decode cX10_arcWeight 13 = .ok (.invokestatic 44, 3) := by decide +kernel
theorem dX10_arcWeight_16 : decode cX10_arcWeight 16 = .ok (.ifCond .eq 13, 3) := by decide +kernel
theorem dX10_arcWeight_19 : decode cX10_arcWeight 19 = .ok (.iload_n 3, 1) := by decide +kernel
theorem dX10_arcWeight_20 : decode cX10_arcWeight 20 = .ok (.iconst 0, 1) := by decide +kernel
theorem dX10_arcWeight_21 : decode cX10_arcWeight 21 = .ok (.bipush 34, 2) := by decide +kernel
theorem dX10_arcWeight_23 : decode cX10_arcWeight 23 = .ok (.invokestatic 44, 3) := by decide +kernel
theorem dX10_arcWeight_26 : decode cX10_arcWeight 26 = .ok (.ifCond .ne 6, 3) := by decide +kernel
theorem dX10_arcWeight_29 : decode cX10_arcWeight 29 = .ok (.bipush (-6), 2) := by decide +kernel
theorem dX10_arcWeight_31 : decode cX10_arcWeight 31 = .ok (.ireturn, 1) := by decide +kernel
theorem dX10_arcWeight_32 : decode cX10_arcWeight 32 = .ok (.aload_n 0, 1) := by decide +kernel
theorem dX10_arcWeight_33 : decode cX10_arcWeight 33 = .ok (.invokevirtual 193, 3) := by decide +kernel
theorem dX10_arcWeight_36 : decode cX10_arcWeight 36 = .ok (.aload_n 0, 1) := by decide +kernel
theorem dX10_arcWeight_37 : decode cX10_arcWeight 37 = .ok (.getfield 29, 3) := by decide +kernel
theorem dX10_arcWeight_40 : decode cX10_arcWeight 40 = .ok (.iload_n 1, 1) := by decide +kernel
theorem dX10_arcWeight_41 : decode cX10_arcWeight 41 = .ok (.iload_n 2, 1) := by decide +kernel
theorem dX10_arcWeight_42 : decode cX10_arcWeight 42 = .ok (.iload_n 3, 1) := by decide +kernel
theorem dX10_arcWeight_43 : decode cX10_arcWeight 43 = .ok (.invokestatic 160, 3) := by decide +kernel
theorem dX10_arcWeight_46 : decode cX10_arcWeight 46 = .ok (.iaload, 1) := by decide +kernel
theorem dX10_arcWeight_47 : decode cX10_arcWeight 47 = .ok (.istore 4, 2) := by decide +kernel
theorem dX10_arcWeight_49 : decode cX10_arcWeight 49 = .ok (.iload 4, 2) := by decide +kernel
theorem dX10_arcWeight_51 : decode cX10_arcWeight 51 = .ok (.ldc 163, 2) := by decide +kernel
theorem dX10_arcWeight_53 : decode cX10_arcWeight 53 = .ok (.if_icmp .ge 8, 3) := by decide +kernel
theorem dX10_arcWeight_56 : decode cX10_arcWeight 56 = .ok (.iload 4, 2) := by decide +kernel
theorem dX10_arcWeight_58 : decode cX10_arcWeight 58 = .ok (.goto 5, 3) := by decide +kernel
theorem dX10_arcWeight_61 : decode cX10_arcWeight 61 = .ok (.bipush (-6), 2) := by decide +kernel
theorem dX10_arcWeight_63 : decode cX10_arcWeight 63 = .ok (.ireturn, 1) := by decide +kernel
theorem dX10_distanceWithout_0 : decode cX10_distanceWithout 0 = .ok (.aload_n 0, 1) := by decide +kernel
theorem dX10_distanceWithout_1 : decode cX10_distanceWithout 1 = .ok (.iload_n 1, 1) := by decide +kernel
theorem dX10_distanceWithout_2 : decode cX10_distanceWithout 2 = .ok (.invokevirtual 85, 3) := by decide +kernel
theorem dX10_distanceWithout_5 : decode cX10_distanceWithout 5 = .ok (.ifCond .eq 22, 3) := by decide +kernel
theorem dX10_distanceWithout_8 : decode cX10_distanceWithout 8 = .ok (.aload_n 0, 1) := by decide +kernel
theorem dX10_distanceWithout_9 : decode cX10_distanceWithout 9 = .ok (.iload_n 2, 1) := by decide +kernel
theorem dX10_distanceWithout_10 : decode cX10_distanceWithout 10 = .ok (.iload_n 3, 1) := by decide +kernel
theorem dX10_distanceWithout_11 : decode cX10_distanceWithout 11 = .ok (.invokevirtual 143, 3) := by decide +kernel
theorem dX10_distanceWithout_14 : decode cX10_distanceWithout 14 = .ok (.ifCond .eq 13, 3) := by decide +kernel
theorem dX10_distanceWithout_17 : decode cX10_distanceWithout 17 = .ok (.aload_n 0, 1) := by decide +kernel
theorem dX10_distanceWithout_18 : decode cX10_distanceWithout 18 = .ok (.iload_n 2, 1) := by decide +kernel
theorem dX10_distanceWithout_19 : decode cX10_distanceWithout 19 = .ok (.iload_n 3, 1) := by decide +kernel
theorem dX10_distanceWithout_20 : decode cX10_distanceWithout 20 = .ok (.iload_n 1, 1) := by decide +kernel
theorem dX10_distanceWithout_21 : decode cX10_distanceWithout 21 = .ok (.invokevirtual 147, 3) := by decide +kernel
theorem dX10_distanceWithout_24 : decode cX10_distanceWithout 24 = .ok (.goto 4, 3) := by decide +kernel
theorem dX10_distanceWithout_27 : decode cX10_distanceWithout 27 = .ok (.iconst (-1), 1) := by decide +kernel
theorem dX10_distanceWithout_28 : decode cX10_distanceWithout 28 = .ok (.ireturn, 1) := by decide +kernel
theorem dX10_critical_0 : decode cX10_critical 0 = .ok (.aload_n 0, 1) := by decide +kernel
theorem dX10_critical_1 : decode cX10_critical 1 = .ok (.iload_n 1, 1) := by decide +kernel
theorem dX10_critical_2 : decode cX10_critical 2 = .ok (.iload_n 2, 1) := by decide +kernel
theorem dX10_critical_3 : decode cX10_critical 3 = .ok (.invokevirtual 143, 3) := by decide +kernel
theorem dX10_critical_6 : decode cX10_critical 6 = .ok (.ifCond .ne 5, 3) := by decide +kernel
theorem dX10_critical_9 : decode cX10_critical 9 = .ok (.iconst (-1), 1) := by decide +kernel
theorem dX10_critical_10 : decode cX10_critical 10 = .ok (.ireturn, 1) := by decide +kernel
theorem dX10_critical_11 : decode cX10_critical 11 = .ok (.aload_n 0, 1) := by decide +kernel
theorem dX10_critical_12 : decode cX10_critical 12 = .ok (.iload_n 1, 1) := by decide +kernel
theorem dX10_critical_13 : decode cX10_critical 13 = .ok (.iload_n 2, 1) := by decide +kernel
theorem dX10_critical_14 : decode cX10_critical 14 = .ok (.iconst (-1), 1) := by decide +kernel
theorem dX10_critical_15 : decode cX10_critical 15 = .ok (.invokevirtual 147, 3) := by decide +kernel
theorem dX10_critical_18 : decode cX10_critical 18 = .ok (.istore_n 3, 1) := by decide +kernel
theorem dX10_critical_19 : decode cX10_critical 19 = .ok (.iload_n 3, 1) := by decide +kernel
theorem dX10_critical_20 : decode cX10_critical 20 = .ok (.bipush (-6), 2) := by decide +kernel
theorem dX10_critical_22 : decode cX10_critical 22 = .ok (.if_icmp .ne 6, 3) := by decide +kernel
theorem dX10_critical_25 : decode cX10_critical 25 = .ok (.bipush (-6), 2) := by decide +kernel
theorem dX10_critical_27 : decode cX10_critical 27 = .ok (.ireturn, 1) := by decide +kernel
theorem dX10_critical_28 : decode cX10_critical 28 = .ok (.iconst 0, 1) := by decide +kernel
theorem dX10_critical_29 : decode cX10_critical 29 = .ok (.istore 4, 2) := by decide +kernel
theorem dX10_critical_31 : decode cX10_critical 31 = .ok (.iconst 0, 1) := by decide +kernel
theorem dX10_critical_32 : decode cX10_critical 32 = .ok (.istore 5, 2) := by decide +kernel
theorem dX10_critical_34 : decode cX10_critical 34 = .ok (.iload 5, 2) := by decide +kernel
theorem dX10_critical_36 : decode cX10_critical 36 = .ok (.aload_n 0, 1) := by decide +kernel
theorem dX10_critical_37 : decode cX10_critical 37 = .ok (.getfield 7, 3) := by decide +kernel
theorem dX10_critical_40 : decode cX10_critical 40 = .ok (.iconst 2, 1) := by decide +kernel
theorem dX10_critical_41 : decode cX10_critical 41 = .ok (.iaload, 1) := by decide +kernel
theorem dX10_critical_42 : decode cX10_critical 42 = .ok (.if_icmp .ge 34, 3) := by decide +kernel
theorem dX10_critical_45 : decode cX10_critical 45 = .ok (.iload 4, 2) := by decide +kernel
theorem dX10_critical_47 : decode cX10_critical 47 = .ok (.aload_n 0, 1) := by decide +kernel
theorem dX10_critical_48 : decode cX10_critical 48 = .ok (.iload_n 1, 1) := by decide +kernel
theorem dX10_critical_49 : decode cX10_critical 49 = .ok (.iload_n 2, 1) := by decide +kernel
theorem dX10_critical_50 : decode cX10_critical 50 = .ok (.iload 5, 2) := by decide +kernel
theorem dX10_critical_52 : decode cX10_critical 52 = .ok (.invokevirtual 147, 3) := by decide +kernel
theorem dX10_critical_55 : decode cX10_critical 55 = .ok (.iload_n 3, 1) := by decide +kernel
theorem dX10_critical_56 : decode cX10_critical 56 = .ok (.if_icmp .eq 10, 3) := by decide +kernel
theorem dX10_critical_59 : decode cX10_critical 59 = .ok (.iconst 1, 1) := by decide +kernel
theorem dX10_critical_60 : decode cX10_critical 60 = .ok (.iload 5, 2) := by decide +kernel
theorem dX10_critical_62 : decode cX10_critical 62 = .ok (.ishl, 1) := by decide +kernel
theorem dX10_critical_63 : decode cX10_critical 63 = .ok (.goto 4, 3) := by decide +kernel
theorem dX10_critical_66 : decode cX10_critical 66 = .ok (.iconst 0, 1) := by decide +kernel
theorem dX10_critical_67 : decode cX10_critical 67 = .ok (.ior, 1) := by decide +kernel
theorem dX10_critical_68 : decode cX10_critical 68 = .ok (.istore 4, 2) := by decide +kernel
theorem dX10_critical_70 : decode cX10_critical 70 = .ok (.iinc 5 1, 3) := by decide +kernel
theorem dX10_critical_73 : decode cX10_critical 73 = .ok (.goto (-39), 3) := by decide +kernel
theorem dX10_critical_76 : decode cX10_critical 76 = .ok (.iload 4, 2) := by decide +kernel
theorem dX10_critical_78 : decode cX10_critical 78 = .ok (.ireturn, 1) := by decide +kernel
theorem dX10_tolerance_0 : decode cX10_tolerance 0 = .ok (.aload_n 0, 1) := by decide +kernel
theorem dX10_tolerance_1 : decode cX10_tolerance 1 = .ok (.iload_n 1, 1) := by decide +kernel
theorem dX10_tolerance_2 : decode cX10_tolerance 2 = .ok (.invokevirtual 85, 3) := by decide +kernel
theorem dX10_tolerance_5 : decode cX10_tolerance 5 = .ok (.ifCond .eq 12, 3) := by decide +kernel
theorem dX10_tolerance_8 : decode cX10_tolerance 8 = .ok (.aload_n 0, 1) := by decide +kernel
theorem dX10_tolerance_9 : decode cX10_tolerance 9 = .ok (.iload_n 2, 1) := by decide +kernel
theorem dX10_tolerance_10 : decode cX10_tolerance 10 = .ok (.iload_n 3, 1) := by decide +kernel
theorem dX10_tolerance_11 : decode cX10_tolerance 11 = .ok (.invokevirtual 143, 3) := by decide +kernel
theorem dX10_tolerance_14 : decode cX10_tolerance 14 = .ok (.ifCond .ne 5, 3) := by decide +kernel
theorem dX10_tolerance_17 : decode cX10_tolerance 17 = .ok (.iconst (-1), 1) := by decide +kernel
theorem dX10_tolerance_18 : decode cX10_tolerance 18 = .ok (.ireturn, 1) := by decide +kernel
theorem dX10_tolerance_19 : decode cX10_tolerance 19 = .ok (.aload_n 0, 1) := by decide +kernel
theorem dX10_tolerance_20 : decode cX10_tolerance 20 = .ok (.iload_n 2, 1) := by decide +kernel
theorem dX10_tolerance_21 : decode cX10_tolerance 21 = .ok (.iload_n 3, 1) := by decide +kernel
theorem dX10_tolerance_22 : decode cX10_tolerance 22 = .ok (.iconst (-1), 1) := by decide +kernel
theorem dX10_tolerance_23 : decode cX10_tolerance 23 = .ok (.invokevirtual 147, 3) := by decide +kernel
theorem dX10_tolerance_26 : decode cX10_tolerance 26 = .ok (.istore 4, 2) := by decide +kernel
theorem dX10_tolerance_28 : decode cX10_tolerance 28 = .ok (.iload 4, 2) := by decide +kernel
theorem dX10_tolerance_30 : decode cX10_tolerance 30 = .ok (.bipush (-6), 2) := by decide +kernel
theorem dX10_tolerance_32 : decode cX10_tolerance 32 = .ok (.if_icmp .ne 6, 3) := by decide +kernel
theorem dX10_tolerance_35 : decode cX10_tolerance 35 = .ok (.bipush (-6), 2) := by decide +kernel
theorem dX10_tolerance_37 : decode cX10_tolerance 37 = .ok (.ireturn, 1) := by decide +kernel
theorem dX10_tolerance_38 : decode cX10_tolerance 38 = .ok (.aload_n 0, 1) := by decide +kernel
theorem dX10_tolerance_39 : decode cX10_tolerance 39 = .ok (.iload_n 1, 1) := by decide +kernel
theorem dX10_tolerance_40 : decode cX10_tolerance 40 = .ok (.iconst 4, 1) := by decide +kernel
theorem dX10_tolerance_41 : decode cX10_tolerance 41 = .ok (.invokevirtual 67, 3) := by decide +kernel
theorem dX10_tolerance_44 : decode cX10_tolerance 44 = .ok (.istore 5, 2) := by decide +kernel
theorem dX10_tolerance_46 : decode cX10_tolerance 46 = .ok (.bipush 20, 2) := by decide +kernel
theorem dX10_tolerance_48 : decode cX10_tolerance 48 = .ok (.iload 5, 2) := by decide +kernel
theorem dX10_tolerance_50 : decode cX10_tolerance 50 = .ok (.isub, 1) := by decide +kernel
theorem dX10_tolerance_51 : decode cX10_tolerance 51 = .ok (.istore 6, 2) := by decide +kernel
theorem dX10_tolerance_53 : decode cX10_tolerance 53 = .ok (.iconst 0, 1) := by decide +kernel
theorem dX10_tolerance_54 : decode cX10_tolerance 54 = .ok (.istore 7, 2) := by decide +kernel
theorem dX10_tolerance_56 : decode cX10_tolerance 56 = .ok (.iload 7, 2) := by decide +kernel
theorem dX10_tolerance_58 : decode cX10_tolerance 58 = .ok (.ifCond .ne 57, 3) := by decide +kernel
theorem dX10_tolerance_61 : decode cX10_tolerance 61 = .ok (.aload_n 0, 1) := by decide +kernel
theorem dX10_tolerance_62 : decode cX10_tolerance 62 = .ok (.getfield 7, 3) := by decide +kernel
theorem dX10_tolerance_65 : decode cX10_tolerance 65 = .ok (.iconst 5, 1) := by decide +kernel
theorem dX10_tolerance_66 : decode cX10_tolerance 66 = .ok (.iconst 5, 1) := by decide +kernel
theorem dX10_tolerance_67 : decode cX10_tolerance 67 = .ok (.iload_n 1, 1) := by decide +kernel
theorem dX10_tolerance_68 : decode cX10_tolerance 68 = .ok (.imul, 1) := by decide +kernel
theorem dX10_tolerance_69 : decode cX10_tolerance 69 = .ok (.iadd, 1) := by decide +kernel
theorem dX10_tolerance_70 : decode cX10_tolerance 70 = .ok (.iconst 4, 1) := by decide +kernel
theorem dX10_tolerance_71 : decode cX10_tolerance 71 = .ok (.iadd, 1) := by decide +kernel
theorem dX10_tolerance_72 : decode cX10_tolerance 72 = .ok (.iload 5, 2) := by decide +kernel
theorem dX10_tolerance_74 : decode cX10_tolerance 74 = .ok (.iload 6, 2) := by decide +kernel
theorem dX10_tolerance_76 : decode cX10_tolerance 76 = .ok (.iadd, 1) := by decide +kernel
theorem dX10_tolerance_77 : decode cX10_tolerance 77 = .ok (.iastore, 1) := by decide +kernel
theorem dX10_tolerance_78 : decode cX10_tolerance 78 = .ok (.aload_n 0, 1) := by decide +kernel
theorem dX10_tolerance_79 : decode cX10_tolerance 79 = .ok (.iload_n 2, 1) := by decide +kernel
theorem dX10_tolerance_80 : decode cX10_tolerance 80 = .ok (.iload_n 3, 1) := by decide +kernel
theorem dX10_tolerance_81 : decode cX10_tolerance 81 = .ok (.iconst (-1), 1) := by decide +kernel
theorem dX10_tolerance_82 : decode cX10_tolerance 82 = .ok (.invokevirtual 147, 3) := by decide +kernel
theorem dX10_tolerance_85 : decode cX10_tolerance 85 = .ok (.iload 4, 2) := by decide +kernel
theorem dX10_tolerance_87 : decode cX10_tolerance 87 = .ok (.if_icmp .ne 7, 3) := by decide +kernel
theorem dX10_tolerance_90 : decode cX10_tolerance 90 = .ok (.iconst 1, 1) := by decide +kernel
theorem dX10_tolerance_91 : decode cX10_tolerance 91 = .ok (.goto 4, 3) := by decide +kernel
theorem dX10_tolerance_94 : decode cX10_tolerance 94 = .ok (.iconst 0, 1) := by decide +kernel
theorem dX10_tolerance_95 : decode cX10_tolerance 95 = .ok (.istore 7, 2) := by decide +kernel
theorem dX10_tolerance_97 : decode cX10_tolerance 97 = .ok (.iload 6, 2) := by decide +kernel
theorem dX10_tolerance_99 : decode cX10_tolerance 99 = .ok (.iload 7, 2) := by decide +kernel
theorem dX10_tolerance_101 : decode cX10_tolerance 101 = .ok (.ifCond .eq 7, 3) := by decide +kernel
theorem dX10_tolerance_104 : decode cX10_tolerance 104 = .ok (.iconst 0, 1) := by decide +kernel
theorem dX10_tolerance_105 : decode cX10_tolerance 105 = .ok (.goto 4, 3) := by decide +kernel
theorem dX10_tolerance_108 : decode cX10_tolerance 108 = .ok (.iconst 1, 1) := by decide +kernel
theorem dX10_tolerance_109 : decode cX10_tolerance 109 = .ok (.isub, 1) := by decide +kernel
theorem dX10_tolerance_110 : decode cX10_tolerance 110 = .ok (.istore 6, 2) := by decide +kernel
theorem dX10_tolerance_112 : decode cX10_tolerance 112 = .ok (.goto (-56), 3) := by decide +kernel
theorem dX10_tolerance_115 : decode cX10_tolerance 115 = .ok (.aload_n 0, 1) := by decide +kernel
theorem dX10_tolerance_116 : decode cX10_tolerance 116 = .ok (.getfield 7, 3) := by decide +kernel
theorem dX10_tolerance_119 : decode cX10_tolerance 119 = .ok (.iconst 5, 1) := by decide +kernel
theorem dX10_tolerance_120 : decode cX10_tolerance 120 = .ok (.iconst 5, 1) := by decide +kernel
theorem dX10_tolerance_121 : decode cX10_tolerance 121 = .ok (.iload_n 1, 1) := by decide +kernel
theorem dX10_tolerance_122 : decode cX10_tolerance 122 = .ok (.imul, 1) := by decide +kernel
theorem dX10_tolerance_123 : decode cX10_tolerance 123 = .ok (.iadd, 1) := by decide +kernel
theorem dX10_tolerance_124 : decode cX10_tolerance 124 = .ok (.iconst 4, 1) := by decide +kernel
theorem dX10_tolerance_125 : decode cX10_tolerance 125 = .ok (.iadd, 1) := by decide +kernel
theorem dX10_tolerance_126 : decode cX10_tolerance 126 = .ok (.iload 5, 2) := by decide +kernel
theorem dX10_tolerance_128 : decode cX10_tolerance 128 = .ok (.iastore, 1) := by decide +kernel
theorem dX10_tolerance_129 : decode cX10_tolerance 129 = .ok (.iload 6, 2) := by decide +kernel
theorem dX10_tolerance_131 : decode cX10_tolerance 131 = .ok (.ireturn, 1) := by decide +kernel
theorem dX10_write_0 : decode cX10_write 0 = .ok (.iload_n 1, 1) := by decide +kernel
theorem dX10_write_1 : decode cX10_write 1 = .ok (.bipush 32, 2) := by decide +kernel
theorem dX10_write_3 : decode cX10_write 3 = .ok (.bipush 126, 2) := by decide +kernel
theorem dX10_write_5 : decode cX10_write 5 = .ok (.invokestatic 44, 3) := by decide +kernel
theorem dX10_write_8 : decode cX10_write 8 = .ok (.ifCond .ne 6, 3) := by decide +kernel
theorem dX10_write_11 : decode cX10_write 11 = .ok (.bipush (-2), 2) := by decide +kernel
theorem dX10_write_13 : decode cX10_write 13 = .ok (.ireturn, 1) := by decide +kernel
theorem dX10_write_14 : decode cX10_write 14 = .ok (.aload_n 0, 1) := by decide +kernel
theorem dX10_write_15 : decode cX10_write 15 = .ok (.getfield 205, 3) := by decide +kernel
theorem dX10_write_18 : decode cX10_write 18 = .ok (.sipush 200, 3) := by decide +kernel
theorem dX10_write_21 : decode cX10_write 21 = .ok (.if_icmp .ne 6, 3) := by decide +kernel
theorem dX10_write_24 : decode cX10_write 24 = .ok (.bipush (-4), 2) := by decide +kernel
theorem dX10_write_26 : decode cX10_write 26 = .ok (.ireturn, 1) := by decide +kernel
theorem dX10_write_27 : decode cX10_write 27 = .ok (.aload_n 0, 1) := by decide +kernel
theorem dX10_write_28 : decode cX10_write 28 = .ok (.getfield 16, 3) := by decide +kernel
theorem dX10_write_31 : decode cX10_write 31 = .ok (.aload_n 0, 1) := by decide +kernel
theorem dX10_write_32 : decode cX10_write 32 = .ok (.getfield 205, 3) := by decide +kernel
theorem dX10_write_35 : decode cX10_write 35 = .ok (.iload_n 1, 1) := by decide +kernel
theorem dX10_write_36 : decode cX10_write 36 = .ok (.iastore, 1) := by decide +kernel
theorem dX10_write_37 : decode cX10_write 37 = .ok (.aload_n 0, 1) := by decide +kernel
theorem dX10_write_38 : decode cX10_write 38 = .ok (.dup, 1) := by decide +kernel
theorem dX10_write_39 : decode cX10_write 39 = .ok (.getfield 205, 3) := by decide +kernel
theorem dX10_write_42 : decode cX10_write 42 = .ok (.iconst 1, 1) := by decide +kernel
theorem dX10_write_43 : decode cX10_write 43 = .ok (.iadd, 1) := by decide +kernel
theorem dX10_write_44 : decode cX10_write 44 = .ok (.putfield 205, 3) := by decide +kernel
theorem dX10_write_47 : decode cX10_write 47 = .ok (.aload_n 0, 1) := by decide +kernel
theorem dX10_write_48 : decode cX10_write 48 = .ok (.getfield 205, 3) := by decide +kernel
theorem dX10_write_51 : decode cX10_write 51 = .ok (.ireturn, 1) := by decide +kernel
theorem dX10_wipe_0 : decode cX10_wipe 0 = .ok (.aload_n 0, 1) := by decide +kernel
theorem dX10_wipe_1 : decode cX10_wipe 1 = .ok (.getfield 205, 3) := by decide +kernel
theorem dX10_wipe_4 : decode cX10_wipe 4 = .ok (.istore_n 1, 1) := by decide +kernel
theorem dX10_wipe_5 : decode cX10_wipe 5 = .ok (.aload_n 0, 1) := by decide +kernel
theorem dX10_wipe_6 : decode cX10_wipe 6 = .ok (.iconst 0, 1) := by decide +kernel
theorem dX10_wipe_7 : decode cX10_wipe 7 = .ok (.putfield 205, 3) := by decide +kernel
theorem dX10_wipe_10 : decode cX10_wipe 10 = .ok (.iload_n 1, 1) := by decide +kernel
theorem dX10_wipe_11 : decode cX10_wipe 11 = .ok (.ireturn, 1) := by decide +kernel
theorem dX10_here_0 : decode cX10_here 0 = .ok (.aload_n 0, 1) := by decide +kernel
theorem dX10_here_1 : decode cX10_here 1 = .ok (.getfield 208, 3) := by decide +kernel
theorem dX10_here_4 : decode cX10_here 4 = .ok (.aload_n 0, 1) := by decide +kernel
theorem dX10_here_5 : decode cX10_here 5 = .ok (.getfield 205, 3) := by decide +kernel
theorem dX10_here_8 : decode cX10_here 8 = .ok (.if_icmp .ge 15, 3) := by decide +kernel
theorem dX10_here_11 : decode cX10_here 11 = .ok (.aload_n 0, 1) := by decide +kernel
theorem dX10_here_12 : decode cX10_here 12 = .ok (.getfield 16, 3) := by decide +kernel
theorem dX10_here_15 : decode cX10_here 15 = .ok (.aload_n 0, 1) := by decide +kernel
theorem dX10_here_16 : decode cX10_here 16 = .ok (.getfield 208, 3) := by decide +kernel
theorem dX10_here_19 : decode cX10_here 19 = .ok (.iaload, 1) := by decide +kernel
theorem dX10_here_20 : decode cX10_here 20 = .ok (.goto 4, 3) := by decide +kernel
theorem dX10_here_23 : decode cX10_here 23 = .ok (.iconst 0, 1) := by decide +kernel
theorem dX10_here_24 : decode cX10_here 24 = .ok (.ireturn, 1) := by decide +kernel
theorem dX10_fails_0 : decode cX10_fails 0 = .ok (.aload_n 0, 1) := by decide +kernel
theorem dX10_fails_1 : decode cX10_fails 1 = .ok (.aload_n 0, 1) := by decide +kernel
theorem dX10_fails_2 : decode cX10_fails 2 = .ok (.getfield 211, 3) := by decide +kernel
theorem dX10_fails_5 : decode cX10_fails 5 = .ok (.bipush (-6), 2) := by decide +kernel
theorem dX10_fails_7 : decode cX10_fails 7 = .ok (.if_icmp .ne 7, 3) := by decide +kernel
theorem dX10_fails_10 : decode cX10_fails 10 = .ok (.iload_n 1, 1) := by decide +kernel
theorem dX10_fails_11 : decode cX10_fails 11 = .ok (.goto 7, 3) := by decide +kernel
theorem dX10_fails_14 : decode cX10_fails 14 = .ok (.aload_n 0, 1) := by decide +kernel
theorem dX10_fails_15 : decode cX10_fails 15 = .ok (.getfield 211, 3) := by decide +kernel
theorem dX10_fails_18 : decode cX10_fails 18 = .ok (.putfield 211, 3) := by decide +kernel
theorem dX10_fails_21 : decode cX10_fails 21 = .ok (.return_, 1) := by decide +kernel
theorem dX10_take_0 : decode cX10_take 0 = .ok (.aload_n 0, 1) := by decide +kernel
theorem dX10_take_1 : decode cX10_take 1 = .ok (.getfield 211, 3) := by decide +kernel
theorem dX10_take_4 : decode cX10_take 4 = .ok (.bipush (-6), 2) := by decide +kernel
theorem dX10_take_6 : decode cX10_take 6 = .ok (.if_icmp .eq 5, 3) := by decide +kernel
theorem dX10_take_9 : decode cX10_take 9 = .ok (.iconst 0, 1) := by decide +kernel
theorem dX10_take_10 : decode cX10_take 10 = .ok (.ireturn, 1) := by decide +kernel
theorem dX10_take_11 : decode cX10_take 11 = .ok (.aload_n 0, 1) := by decide +kernel
theorem dX10_take_12 : decode cX10_take 12 = .ok (.invokevirtual 214, 3) := by decide +kernel
theorem dX10_take_15 : decode cX10_take 15 = .ok (.iload_n 1, 1) := by decide +kernel
theorem dX10_take_16 : decode cX10_take 16 = .ok (.iload_n 2, 1) := by decide +kernel
theorem dX10_take_17 : decode cX10_take 17 = .ok (.invokestatic 44, 3) := by decide +kernel
theorem dX10_take_20 : decode cX10_take 20 = .ok (.ifCond .ne 13, 3) := by decide +kernel
theorem dX10_take_23 : decode cX10_take 23 = .ok (.aload_n 0, 1) := by decide +kernel
theorem dX10_take_24 : decode cX10_take 24 = .ok (.aload_n 0, 1) := by decide +kernel
theorem dX10_take_25 : decode cX10_take 25 = .ok (.getfield 208, 3) := by decide +kernel
theorem dX10_take_28 : decode cX10_take 28 = .ok (.invokevirtual 218, 3) := by decide +kernel
theorem dX10_take_31 : decode cX10_take 31 = .ok (.iconst 0, 1) := by decide +kernel
theorem dX10_take_32 : decode cX10_take 32 = .ok (.ireturn, 1) := by decide +kernel
theorem dX10_take_33 : decode cX10_take 33 = .ok (.aload_n 0, 1) := by decide +kernel
theorem dX10_take_34 : decode cX10_take 34 = .ok (.dup, 1) := by decide +kernel
theorem dX10_take_35 : decode cX10_take 35 = .ok (.getfield 208, 3) := by decide +kernel
theorem dX10_take_38 : decode cX10_take 38 = .ok (.iconst 1, 1) := by decide +kernel
theorem dX10_take_39 : decode cX10_take 39 = .ok (.iadd, 1) := by decide +kernel
theorem dX10_take_40 : decode cX10_take 40 = .ok (.putfield 208, 3) := by decide +kernel
theorem dX10_take_43 : decode cX10_take 43 = .ok (.aload_n 0, 1) := by decide +kernel
theorem dX10_take_44 : decode cX10_take 44 = .ok (.getfield 16, 3) := by decide +kernel
theorem dX10_take_47 : decode cX10_take 47 = .ok (.aload_n 0, 1) := by decide +kernel
theorem dX10_take_48 : decode cX10_take 48 = .ok (.getfield 208, 3) := by decide +kernel
theorem dX10_take_51 : decode cX10_take 51 = .ok (.iconst 1, 1) := by decide +kernel
theorem dX10_take_52 : decode cX10_take 52 = .ok (.isub, 1) := by decide +kernel
theorem dX10_take_53 : decode cX10_take 53 = .ok (.iaload, 1) := by decide +kernel
theorem dX10_take_54 : decode cX10_take 54 = .ok (.iload_n 1, 1) := by decide +kernel
theorem dX10_take_55 : decode cX10_take 55 = .ok (.isub, 1) := by decide +kernel
theorem dX10_take_56 : decode cX10_take 56 = .ok (.ireturn, 1) := by decide +kernel
theorem dX10_readItem_0 : decode cX10_readItem 0 = .ok (.aload_n 0, 1) := by decide +kernel
theorem dX10_readItem_1 : decode cX10_readItem 1 = .ok (.getfield 221, 3) := by decide +kernel
theorem dX10_readItem_4 : decode cX10_readItem 4 = .ok (.bipush 20, 2) := by decide +kernel
theorem dX10_readItem_6 : decode cX10_readItem 6 = .ok (.if_icmp .ne 12, 3) := by decide +kernel
theorem dX10_readItem_9 : decode cX10_readItem 9 = .ok (.aload_n 0, 1) := by decide +kernel
theorem dX10_readItem_10 : decode cX10_readItem 10 = .ok (.aload_n 0, 1) := by decide +kernel
theorem dX10_readItem_11 : decode cX10_readItem 11 = .ok (.getfield 208, 3) := by decide +kernel
theorem dX10_readItem_14 : decode cX10_readItem 14 = .ok (.invokevirtual 218, 3) := by decide +kernel
theorem dX10_readItem_17 : decode cX10_readItem 17 = .ok (.return_, 1) := by decide +kernel
theorem dX10_readItem_18 : decode cX10_readItem 18 = .ok (.aload_n 0, 1) := by decide +kernel
theorem dX10_readItem_19 : decode cX10_readItem 19 = .ok (.getfield 7, 3) := by decide +kernel
theorem dX10_readItem_22 : decode cX10_readItem 22 = .ok (.iconst 1, 1) := by decide +kernel
theorem dX10_readItem_23 : decode cX10_readItem 23 = .ok (.iaload, 1) := by decide +kernel
theorem dX10_readItem_24 : decode cX10_readItem 24 = .ok (.iconst 1, 1) := by decide +kernel
theorem dX10_readItem_25 : decode cX10_readItem 25 = .ok (.isub, 1) := by decide +kernel
theorem dX10_readItem_26 : decode cX10_readItem 26 = .ok (.istore_n 1, 1) := by decide +kernel
theorem dX10_readItem_27 : decode cX10_readItem 27 = .ok (.aload_n 0, 1) := by decide +kernel
theorem dX10_readItem_28 : decode cX10_readItem 28 = .ok (.bipush 48, 2) := by decide +kernel
theorem dX10_readItem_30 : decode cX10_readItem 30 = .ok (.bipush 48, 2) := by decide +kernel
theorem dX10_readItem_32 : decode cX10_readItem 32 = .ok (.aload_n 0, 1) := by decide +kernel
theorem dX10_readItem_33 : decode cX10_readItem 33 = .ok (.getfield 7, 3) := by decide +kernel
theorem dX10_readItem_36 : decode cX10_readItem 36 = .ok (.iconst 0, 1) := by decide +kernel
theorem dX10_readItem_37 : decode cX10_readItem 37 = .ok (.iaload, 1) := by decide +kernel
theorem dX10_readItem_38 : decode cX10_readItem 38 = .ok (.iadd, 1) := by decide +kernel
theorem dX10_readItem_39 : decode cX10_readItem 39 = .ok (.iconst 1, 1) := by decide +kernel
theorem dX10_readItem_40 : decode cX10_readItem 40 = .ok (.isub, 1) := by decide +kernel
theorem dX10_readItem_41 : decode cX10_readItem 41 = .ok (.invokevirtual 224, 3) := by decide +kernel
theorem dX10_readItem_44 : decode cX10_readItem 44 = .ok (.istore_n 2, 1) := by decide +kernel
theorem dX10_readItem_45 : decode cX10_readItem 45 = .ok (.aload_n 0, 1) := by decide +kernel
theorem dX10_readItem_46 : decode cX10_readItem 46 = .ok (.bipush 97, 2) := by decide +kernel
theorem dX10_readItem_48 : decode cX10_readItem 48 = .ok (.bipush 97, 2) := by decide +kernel
theorem dX10_readItem_50 : decode cX10_readItem 50 = .ok (.iload_n 1, 1) := by decide +kernel
theorem dX10_readItem_51 : decode cX10_readItem 51 = .ok (.iadd, 1) := by decide +kernel
theorem dX10_readItem_52 : decode cX10_readItem 52 = .ok (.invokevirtual 224, 3) := by decide +kernel
theorem dX10_readItem_55 : decode cX10_readItem 55 = .ok (.iconst 1, 1) := by decide +kernel
theorem dX10_readItem_56 : decode cX10_readItem 56 = .ok (.iadd, 1) := by decide +kernel
theorem dX10_readItem_57 : decode cX10_readItem 57 = .ok (.istore_n 3, 1) := by decide +kernel
theorem dX10_readItem_58 : decode cX10_readItem 58 = .ok (.aload_n 0, 1) := by decide +kernel
theorem dX10_readItem_59 : decode cX10_readItem 59 = .ok (.bipush 62, 2) := by decide +kernel
theorem dX10_readItem_61 : decode cX10_readItem 61 = .ok (.bipush 62, 2) := by decide +kernel
theorem dX10_readItem_63 : decode cX10_readItem 63 = .ok (.invokevirtual 224, 3) := by decide +kernel
theorem dX10_readItem_66 : decode cX10_readItem 66 = .ok (.istore 4, 2) := by decide +kernel
theorem dX10_readItem_68 : decode cX10_readItem 68 = .ok (.aload_n 0, 1) := by decide +kernel
theorem dX10_readItem_69 : decode cX10_readItem 69 = .ok (.bipush 48, 2) := by decide +kernel
theorem dX10_readItem_71 : decode cX10_readItem 71 = .ok (.bipush 48, 2) := by decide +kernel
theorem dX10_readItem_73 : decode cX10_readItem 73 = .ok (.aload_n 0, 1) := by decide +kernel
theorem dX10_readItem_74 : decode cX10_readItem 74 = .ok (.getfield 7, 3) := by decide +kernel
theorem dX10_readItem_77 : decode cX10_readItem 77 = .ok (.iconst 0, 1) := by decide +kernel
theorem dX10_readItem_78 : decode cX10_readItem 78 = .ok (.iaload, 1) := by decide +kernel
theorem dX10_readItem_79 : decode cX10_readItem 79 = .ok (.iadd, 1) := by decide +kernel
theorem dX10_readItem_80 : decode cX10_readItem 80 = .ok (.iconst 1, 1) := by decide +kernel
theorem dX10_readItem_81 : decode cX10_readItem 81 = .ok (.isub, 1) := by decide +kernel
theorem dX10_readItem_82 : decode cX10_readItem 82 = .ok (.invokevirtual 224, 3) := by decide +kernel
theorem dX10_readItem_85 : decode cX10_readItem 85 = .ok (.istore 5, 2) := by decide +kernel
theorem dX10_readItem_87 : decode cX10_readItem 87 = .ok (.iconst 0, 1) := by decide +kernel
theorem dX10_readItem_88 : decode cX10_readItem 88 = .ok (.istore 6, 2) := by decide +kernel
theorem dX10_readItem_90 : decode cX10_readItem 90 = .ok (.iconst 0, 1) := by decide +kernel
theorem dX10_readItem_91 : decode cX10_readItem 91 = .ok (.istore 7, 2) := by decide +kernel
theorem dX10_readItem_93 : decode cX10_readItem 93 = .ok (.iload 7, 2) := by decide +kernel
theorem dX10_readItem_95 : decode cX10_readItem 95 = .ok (.iconst 2, 1) := by decide +kernel
theorem dX10_readItem_96 : decode cX10_readItem 96 = .ok (.if_icmp .ge 54, 3) := by decide +kernel
theorem dX10_readItem_99 : decode cX10_readItem 99 = .ok (.aload_n 0, 1) := by decide +kernel
theorem dX10_readItem_100 : decode cX10_readItem 100 = .ok (.getfield 211, 3) := by decide +kernel
theorem dX10_readItem_103 : decode cX10_readItem 103 = .ok (.bipush (-6), 2) := by decide +kernel
theorem dX10_readItem_105 : decode cX10_readItem 105 = .ok (.if_icmp .ne 45, 3) := by decide +kernel
theorem dX10_readItem_108 : decode cX10_readItem 108 = .ok (.aload_n 0, 1) := by decide +kernel
theorem dX10_readItem_109 : decode cX10_readItem 109 = .ok (.invokevirtual 214, 3) := by decide +kernel
theorem dX10_readItem_112 : decode cX10_readItem 112 = .ok (.bipush 97, 2) := by decide +kernel
theorem dX10_readItem_114 : decode cX10_readItem 114 = .ok (.bipush 97, 2) := by decide +kernel
theorem dX10_readItem_116 : decode cX10_readItem 116 = .ok (.iload_n 1, 1) := by decide +kernel
theorem dX10_readItem_117 : decode cX10_readItem 117 = .ok (.iadd, 1) := by decide +kernel
theorem dX10_readItem_118 : decode cX10_readItem 118 = .ok (.invokestatic 44, 3) := by decide +kernel
theorem dX10_readItem_121 : decode cX10_readItem 121 = .ok (.ifCond .eq 29, 3) := by decide +kernel
theorem dX10_readItem_124 : decode cX10_readItem 124 = .ok (.bipush 10, 2) := by decide +kernel
theorem dX10_readItem_126 : decode cX10_readItem 126 = .ok (.iload 6, 2) := by decide +kernel
theorem dX10_readItem_128 : decode cX10_readItem 128 = .ok (.imul, 1) := by decide +kernel
theorem dX10_readItem_129 : decode cX10_readItem 129 = .ok (.aload_n 0, 1) := by decide +kernel
theorem dX10_readItem_130 : decode cX10_readItem 130 = .ok (.bipush 97, 2) := by decide +kernel
theorem dX10_readItem_132 : decode cX10_readItem 132 = .ok (.bipush 97, 2) := by decide +kernel
theorem dX10_readItem_134 : decode cX10_readItem 134 = .ok (.iload_n 1, 1) := by decide +kernel
theorem dX10_readItem_135 : decode cX10_readItem 135 = .ok (.iadd, 1) := by decide +kernel
theorem dX10_readItem_136 : decode cX10_readItem 136 = .ok (.invokevirtual 224, 3) := by decide +kernel
theorem dX10_readItem_139 : decode cX10_readItem 139 = .ok (.iadd, 1) := by decide +kernel
theorem dX10_readItem_140 : decode cX10_readItem 140 = .ok (.iconst 1, 1) := by decide +kernel
theorem dX10_readItem_141 : decode cX10_readItem 141 = .ok (.iadd, 1) := by decide +kernel
theorem dX10_readItem_142 : decode cX10_readItem 142 = .ok (.istore 6, 2) := by decide +kernel
theorem dX10_readItem_144 : decode cX10_readItem 144 = .ok (.iinc 7 1, 3) := by decide +kernel
theorem dX10_readItem_147 : decode cX10_readItem 147 = .ok (.goto (-54), 3) := by decide +kernel
theorem dX10_readItem_150 : decode cX10_readItem 150 = .ok (.aload_n 0, 1) := by decide +kernel
theorem dX10_readItem_151 : decode cX10_readItem 151 = .ok (.bipush 58, 2) := by decide +kernel
theorem dX10_readItem_153 : decode cX10_readItem 153 = .ok (.bipush 58, 2) := by decide +kernel
theorem dX10_readItem_155 : decode cX10_readItem 155 = .ok (.invokevirtual 224, 3) := by decide +kernel
theorem dX10_readItem_158 : decode cX10_readItem 158 = .ok (.istore 4, 2) := by decide +kernel
theorem dX10_readItem_160 : decode cX10_readItem 160 = .ok (.aload_n 0, 1) := by decide +kernel
theorem dX10_readItem_161 : decode cX10_readItem 161 = .ok (.getfield 208, 3) := by decide +kernel
theorem dX10_readItem_164 : decode cX10_readItem 164 = .ok (.istore 7, 2) := by decide +kernel
theorem dX10_readItem_166 : decode cX10_readItem 166 = .ok (.aload_n 0, 1) := by decide +kernel
theorem dX10_readItem_167 : decode cX10_readItem 167 = .ok (.bipush 48, 2) := by decide +kernel
theorem dX10_readItem_169 : decode cX10_readItem 169 = .ok (.bipush 57, 2) := by decide +kernel
theorem dX10_readItem_171 : decode cX10_readItem 171 = .ok (.invokevirtual 224, 3) := by decide +kernel
theorem dX10_readItem_174 : decode cX10_readItem 174 = .ok (.istore 8, 2) := by decide +kernel
theorem dX10_readItem_176 : decode cX10_readItem 176 = .ok (.aload_n 0, 1) := by decide +kernel
theorem dX10_readItem_177 : decode cX10_readItem 177 = .ok (.getfield 211, 3) := by decide +kernel
theorem dX10_readItem_180 : decode cX10_readItem 180 = .ok (.bipush (-6), 2) := by decide +kernel
theorem dX10_readItem_182 : decode cX10_readItem 182 = .ok (.if_icmp .ne 33, 3) := by decide +kernel
theorem dX10_readItem_185 : decode cX10_readItem 185 = .ok (.aload_n 0, 1) := by decide +kernel
theorem dX10_readItem_186 : decode cX10_readItem 186 = .ok (.invokevirtual 214, 3) := by decide +kernel
theorem dX10_readItem_189 : decode cX10_readItem 189 = .ok (.bipush 48, 2) := by decide +kernel
theorem dX10_readItem_191 : decode cX10_readItem 191 = .ok (.bipush 57, 2) := by decide +kernel
theorem dX10_readItem_193 : decode cX10_readItem 193 = .ok (.invokestatic 44, 3) := by decide +kernel
theorem dX10_readItem_196 : decode cX10_readItem 196 = .ok (.ifCond .eq 19, 3) := by decide +kernel
theorem dX10_readItem_199 : decode cX10_readItem 199 = .ok (.bipush 10, 2) := by decide +kernel
theorem dX10_readItem_201 : decode cX10_readItem 201 = .ok (.iload 8, 2) := by decide +kernel
theorem dX10_readItem_203 : decode cX10_readItem 203 = .ok (.imul, 1) := by decide +kernel
theorem dX10_readItem_204 : decode cX10_readItem 204 = .ok (.aload_n 0, 1) := by decide +kernel
theorem dX10_readItem_205 : decode cX10_readItem 205 = .ok (.bipush 48, 2) := by decide +kernel
theorem dX10_readItem_207 : decode cX10_readItem 207 = .ok (.bipush 57, 2) := by decide +kernel
theorem dX10_readItem_209 : decode cX10_readItem 209 = .ok (.invokevirtual 224, 3) := by decide +kernel
theorem dX10_readItem_212 : decode cX10_readItem 212 = .ok (.iadd, 1) := by decide +kernel
theorem dX10_readItem_213 : decode cX10_readItem 213 = .ok (.istore 8, 2) := by decide +kernel
theorem dX10_readItem_215 : decode cX10_readItem 215 = .ok (.aload_n 0, 1) := by decide +kernel
theorem dX10_readItem_216 : decode cX10_readItem 216 = .ok (.getfield 211, 3) := by decide +kernel
theorem dX10_readItem_219 : decode cX10_readItem 219 = .ok (.bipush (-6), 2) := by decide +kernel
theorem dX10_readItem_221 : decode cX10_readItem 221 = .ok (.if_icmp .ne 20, 3) := by decide +kernel
theorem dX10_readItem_224 : decode cX10_readItem 224 = .ok (.iload 8, 2) := by decide +kernel
theorem dX10_readItem_226 : decode cX10_readItem 226 = .ok (.iconst 1, 1) := by decide +kernel
theorem dX10_readItem_227 : decode cX10_readItem 227 = .ok (.bipush 20, 2) := by decide +kernel
theorem dX10_readItem_229 : decode cX10_readItem 229 = .ok (.invokestatic 44, 3) := by decide +kernel
theorem dX10_readItem_232 : decode cX10_readItem 232 = .ok (.ifCond .ne 9, 3) := by decide +kernel
theorem dX10_readItem_235 : decode cX10_readItem 235 = .ok (.aload_n 0, 1) := by decide +kernel
theorem dX10_readItem_236 : decode cX10_readItem 236 = .ok (.iload 7, 2) := by decide +kernel
theorem dX10_readItem_238 : decode cX10_readItem 238 = .ok (.invokevirtual 218, 3) := by decide +kernel
theorem dX10_readItem_241 : decode cX10_readItem 241 = .ok (.aload_n 0, 1) := by decide +kernel
theorem dX10_readItem_242 : decode cX10_readItem 242 = .ok (.bipush 59, 2) := by decide +kernel
theorem dX10_readItem_244 : decode cX10_readItem 244 = .ok (.bipush 59, 2) := by decide +kernel
theorem dX10_readItem_246 : decode cX10_readItem 246 = .ok (.invokevirtual 224, 3) := by decide +kernel
theorem dX10_readItem_249 : decode cX10_readItem 249 = .ok (.istore 4, 2) := by decide +kernel
theorem dX10_readItem_251 : decode cX10_readItem 251 = .ok (.iconst 0, 1) := by decide +kernel
theorem dX10_readItem_252 : decode cX10_readItem 252 = .ok (.istore 9, 2) := by decide +kernel
theorem dX10_readItem_254 : decode cX10_readItem 254 = .ok (.iload 9, 2) := by decide +kernel
theorem dX10_readItem_256 : decode cX10_readItem 256 = .ok (.aload_n 0, 1) := by decide +kernel
theorem dX10_readItem_257 : decode cX10_readItem 257 = .ok (.getfield 221, 3) := by decide +kernel
theorem dX10_readItem_260 : decode cX10_readItem 260 = .ok (.if_icmp .ge 88, 3) := by decide +kernel
theorem dX10_readItem_263 : decode cX10_readItem 263 = .ok (.aload_n 0, 1) := by decide +kernel
theorem dX10_readItem_264 : decode cX10_readItem 264 = .ok (.getfield 211, 3) := by decide +kernel
theorem dX10_readItem_267 : decode cX10_readItem 267 = .ok (.bipush (-6), 2) := by decide +kernel
theorem dX10_readItem_269 : decode cX10_readItem 269 = .ok (.if_icmp .ne 79, 3) := by decide +kernel
theorem dX10_readItem_272 : decode cX10_readItem 272 = .ok (.aload_n 0, 1) := by decide +kernel
theorem dX10_readItem_273 : decode cX10_readItem 273 = .ok (.getfield 41, 3) := by decide +kernel
theorem dX10_readItem_276 : decode cX10_readItem 276 = .ok (.iconst 5, 1) := by decide +kernel
theorem dX10_readItem_277 : decode cX10_readItem 277 = .ok (.iload 9, 2) := by decide +kernel
theorem dX10_readItem_279 : decode cX10_readItem 279 = .ok (.imul, 1) := by decide +kernel
theorem dX10_readItem_280 : decode cX10_readItem 280 = .ok (.iaload, 1) := by decide +kernel
theorem dX10_readItem_281 : decode cX10_readItem 281 = .ok (.iload_n 2, 1) := by decide +kernel
theorem dX10_readItem_282 : decode cX10_readItem 282 = .ok (.if_icmp .ne 60, 3) := by decide +kernel
theorem dX10_readItem_285 : decode cX10_readItem 285 = .ok (.aload_n 0, 1) := by decide +kernel
theorem dX10_readItem_286 : decode cX10_readItem 286 = .ok (.getfield 41, 3) := by decide +kernel
theorem dX10_readItem_289 : decode cX10_readItem 289 = .ok (.iconst 5, 1) := by decide +kernel
theorem dX10_readItem_290 : decode cX10_readItem 290 = .ok (.iload 9, 2) := by decide +kernel
theorem dX10_readItem_292 : decode cX10_readItem 292 = .ok (.imul, 1) := by decide +kernel
theorem dX10_readItem_293 : decode cX10_readItem 293 = .ok (.iconst 1, 1) := by decide +kernel
theorem dX10_readItem_294 : decode cX10_readItem 294 = .ok (.iadd, 1) := by decide +kernel
theorem dX10_readItem_295 : decode cX10_readItem 295 = .ok (.iaload, 1) := by decide +kernel
theorem dX10_readItem_296 : decode cX10_readItem 296 = .ok (.iload_n 3, 1) := by decide +kernel
theorem dX10_readItem_297 : decode cX10_readItem 297 = .ok (.if_icmp .ne 45, 3) := by decide +kernel
theorem dX10_readItem_300 : decode cX10_readItem 300 = .ok (.aload_n 0, 1) := by decide +kernel
theorem dX10_readItem_301 : decode cX10_readItem 301 = .ok (.getfield 41, 3) := by decide +kernel
theorem dX10_readItem_304 : decode cX10_readItem 304 = .ok (.iconst 5, 1) := by decide +kernel
theorem dX10_readItem_305 : decode cX10_readItem 305 = .ok (.iload 9, 2) := by decide +kernel
theorem dX10_readItem_307 : decode cX10_readItem 307 = .ok (.imul, 1) := by decide +kernel
theorem dX10_readItem_308 : decode cX10_readItem 308 = .ok (.iconst 2, 1) := by decide +kernel
theorem dX10_readItem_309 : decode cX10_readItem 309 = .ok (.iadd, 1) := by decide +kernel
theorem dX10_readItem_310 : decode cX10_readItem 310 = .ok (.iaload, 1) := by decide +kernel
theorem dX10_readItem_311 : decode cX10_readItem 311 = .ok (.iload 5, 2) := by decide +kernel
theorem dX10_readItem_313 : decode cX10_readItem 313 = .ok (.if_icmp .ne 29, 3) := by decide +kernel
theorem dX10_readItem_316 : decode cX10_readItem 316 = .ok (.aload_n 0, 1) := by decide +kernel
theorem dX10_readItem_317 : decode cX10_readItem 317 = .ok (.getfield 41, 3) := by decide +kernel
theorem dX10_readItem_320 : decode cX10_readItem 320 = .ok (.iconst 5, 1) := by decide +kernel
theorem dX10_readItem_321 : decode cX10_readItem 321 = .ok (.iload 9, 2) := by decide +kernel
theorem dX10_readItem_323 : decode cX10_readItem 323 = .ok (.imul, 1) := by decide +kernel
theorem dX10_readItem_324 : decode cX10_readItem 324 = .ok (.iconst 3, 1) := by decide +kernel
theorem dX10_readItem_325 : decode cX10_readItem 325 = .ok (.iadd, 1) := by decide +kernel
theorem dX10_readItem_326 : decode cX10_readItem 326 = .ok (.iaload, 1) := by decide +kernel
theorem dX10_readItem_327 : decode cX10_readItem 327 = .ok (.iload 6, 2) := by decide +kernel
theorem dX10_readItem_329 : decode cX10_readItem 329 = .ok (.if_icmp .ne 13, 3) := by decide +kernel
theorem dX10_readItem_332 : decode cX10_readItem 332 = .ok (.aload_n 0, 1) := by decide +kernel
theorem dX10_readItem_333 : decode cX10_readItem 333 = .ok (.aload_n 0, 1) := by decide +kernel
theorem dX10_readItem_334 : decode cX10_readItem 334 = .ok (.getfield 208, 3) := by decide +kernel
theorem dX10_readItem_337 : decode cX10_readItem 337 = .ok (.iconst 1, 1) := by decide +kernel
theorem dX10_readItem_338 : decode cX10_readItem 338 = .ok (.isub, 1) := by decide +kernel
theorem dX10_readItem_339 : decode cX10_readItem 339 = .ok (.invokevirtual 218, 3) := by decide +kernel
theorem dX10_readItem_342 : decode cX10_readItem 342 = .ok (.iinc 9 1, 3) := by decide +kernel
theorem dX10_readItem_345 : decode cX10_readItem 345 = .ok (.goto (-91), 3) := by decide +kernel
theorem dX10_readItem_348 : decode cX10_readItem 348 = .ok (.aload_n 0, 1) := by decide +kernel
theorem dX10_readItem_349 : decode cX10_readItem 349 = .ok (.getfield 41, 3) := by decide +kernel
theorem dX10_readItem_352 : decode cX10_readItem 352 = .ok (.iconst 5, 1) := by decide +kernel
theorem dX10_readItem_353 : decode cX10_readItem 353 = .ok (.aload_n 0, 1) := by decide +kernel
theorem dX10_readItem_354 : decode cX10_readItem 354 = .ok (.getfield 221, 3) := by decide +kernel
theorem dX10_readItem_357 : decode cX10_readItem 357 = .ok (.imul, 1) := by decide +kernel
theorem dX10_readItem_358 : decode cX10_readItem 358 = .ok (.iload_n 2, 1) := by decide +kernel
theorem dX10_readItem_359 : decode cX10_readItem 359 = .ok (.iastore, 1) := by decide +kernel
theorem dX10_readItem_360 : decode cX10_readItem 360 = .ok (.aload_n 0, 1) := by decide +kernel
theorem dX10_readItem_361 : decode cX10_readItem 361 = .ok (.getfield 41, 3) := by decide +kernel
theorem dX10_readItem_364 : decode cX10_readItem 364 = .ok (.iconst 5, 1) := by decide +kernel
theorem dX10_readItem_365 : decode cX10_readItem 365 = .ok (.aload_n 0, 1) := by decide +kernel
theorem dX10_readItem_366 : decode cX10_readItem 366 = .ok (.getfield 221, 3) := by decide +kernel
theorem dX10_readItem_369 : decode cX10_readItem 369 = .ok (.imul, 1) := by decide +kernel
theorem dX10_readItem_370 : decode cX10_readItem 370 = .ok (.iconst 1, 1) := by decide +kernel
theorem dX10_readItem_371 : decode cX10_readItem 371 = .ok (.iadd, 1) := by decide +kernel
theorem dX10_readItem_372 : decode cX10_readItem 372 = .ok (.iload_n 3, 1) := by decide +kernel
theorem dX10_readItem_373 : decode cX10_readItem 373 = .ok (.iastore, 1) := by decide +kernel
theorem dX10_readItem_374 : decode cX10_readItem 374 = .ok (.aload_n 0, 1) := by decide +kernel
theorem dX10_readItem_375 : decode cX10_readItem 375 = .ok (.getfield 41, 3) := by decide +kernel
theorem dX10_readItem_378 : decode cX10_readItem 378 = .ok (.iconst 5, 1) := by decide +kernel
theorem dX10_readItem_379 : decode cX10_readItem 379 = .ok (.aload_n 0, 1) := by decide +kernel
theorem dX10_readItem_380 : decode cX10_readItem 380 = .ok (.getfield 221, 3) := by decide +kernel
theorem dX10_readItem_383 : decode cX10_readItem 383 = .ok (.imul, 1) := by decide +kernel
theorem dX10_readItem_384 : decode cX10_readItem 384 = .ok (.iconst 2, 1) := by decide +kernel
theorem dX10_readItem_385 : decode cX10_readItem 385 = .ok (.iadd, 1) := by decide +kernel
theorem dX10_readItem_386 : decode cX10_readItem 386 = .ok (.iload 5, 2) := by decide +kernel
theorem dX10_readItem_388 : decode cX10_readItem 388 = .ok (.iastore, 1) := by decide +kernel
theorem dX10_readItem_389 : decode cX10_readItem 389 = .ok (.aload_n 0, 1) := by decide +kernel
theorem dX10_readItem_390 : decode cX10_readItem 390 = .ok (.getfield 41, 3) := by decide +kernel
theorem dX10_readItem_393 : decode cX10_readItem 393 = .ok (.iconst 5, 1) := by decide +kernel
theorem dX10_readItem_394 : decode cX10_readItem 394 = .ok (.aload_n 0, 1) := by decide +kernel
theorem dX10_readItem_395 : decode cX10_readItem 395 = .ok (.getfield 221, 3) := by decide +kernel
theorem dX10_readItem_398 : decode cX10_readItem 398 = .ok (.imul, 1) := by decide +kernel
theorem dX10_readItem_399 : decode cX10_readItem 399 = .ok (.iconst 3, 1) := by decide +kernel
theorem dX10_readItem_400 : decode cX10_readItem 400 = .ok (.iadd, 1) := by decide +kernel
theorem dX10_readItem_401 : decode cX10_readItem 401 = .ok (.iload 6, 2) := by decide +kernel
theorem dX10_readItem_403 : decode cX10_readItem 403 = .ok (.iastore, 1) := by decide +kernel
theorem dX10_readItem_404 : decode cX10_readItem 404 = .ok (.aload_n 0, 1) := by decide +kernel
theorem dX10_readItem_405 : decode cX10_readItem 405 = .ok (.getfield 41, 3) := by decide +kernel
theorem dX10_readItem_408 : decode cX10_readItem 408 = .ok (.iconst 5, 1) := by decide +kernel
theorem dX10_readItem_409 : decode cX10_readItem 409 = .ok (.aload_n 0, 1) := by decide +kernel
theorem dX10_readItem_410 : decode cX10_readItem 410 = .ok (.getfield 221, 3) := by decide +kernel
theorem dX10_readItem_413 : decode cX10_readItem 413 = .ok (.imul, 1) := by decide +kernel
theorem dX10_readItem_414 : decode cX10_readItem 414 = .ok (.iconst 4, 1) := by decide +kernel
theorem dX10_readItem_415 : decode cX10_readItem 415 = .ok (.iadd, 1) := by decide +kernel
theorem dX10_readItem_416 : decode cX10_readItem 416 = .ok (.iload 8, 2) := by decide +kernel
theorem dX10_readItem_418 : decode cX10_readItem 418 = .ok (.iastore, 1) := by decide +kernel
theorem dX10_readItem_419 : decode cX10_readItem 419 = .ok (.aload_n 0, 1) := by decide +kernel
theorem dX10_readItem_420 : decode cX10_readItem 420 = .ok (.dup, 1) := by decide +kernel
theorem dX10_readItem_421 : decode cX10_readItem 421 = .ok (.getfield 221, 3) := by decide +kernel
theorem dX10_readItem_424 : decode cX10_readItem 424 = .ok (.iconst 1, 1) := by decide +kernel
theorem dX10_readItem_425 : decode cX10_readItem 425 = .ok (.iadd, 1) := by decide +kernel
theorem dX10_readItem_426 : decode cX10_readItem 426 = .ok (.putfield 221, 3) := by decide +kernel
theorem dX10_readItem_429 : decode cX10_readItem 429 = .ok (.return_, 1) := by decide +kernel
theorem dX10_fault_0 : decode cX10_fault 0 = .ok (.aload_n 0, 1) := by decide +kernel
theorem dX10_fault_1 : decode cX10_fault 1 = .ok (.iconst 0, 1) := by decide +kernel
theorem dX10_fault_2 : decode cX10_fault 2 = .ok (.putfield 208, 3) := by decide +kernel
theorem dX10_fault_5 : decode cX10_fault 5 = .ok (.aload_n 0, 1) := by decide +kernel
theorem dX10_fault_6 : decode cX10_fault 6 = .ok (.bipush (-6), 2) := by decide +kernel
theorem dX10_fault_8 : decode cX10_fault 8 = .ok (.putfield 211, 3) := by decide +kernel
theorem dX10_fault_11 : decode cX10_fault 11 = .ok (.aload_n 0, 1) := by decide +kernel
theorem dX10_fault_12 : decode cX10_fault 12 = .ok (.iconst 0, 1) := by decide +kernel
theorem dX10_fault_13 : decode cX10_fault 13 = .ok (.putfield 221, 3) := by decide +kernel
theorem dX10_fault_16 : decode cX10_fault 16 = .ok (.aload_n 0, 1) := by decide +kernel
theorem dX10_fault_17 : decode cX10_fault 17 = .ok (.getfield 211, 3) := by decide +kernel
theorem dX10_fault_20 : decode cX10_fault 20 = .ok (.bipush (-6), 2) := by decide +kernel
theorem dX10_fault_22 : decode cX10_fault 22 = .ok (.if_icmp .ne 21, 3) := by decide +kernel
theorem dX10_fault_25 : decode cX10_fault 25 = .ok (.aload_n 0, 1) := by decide +kernel
theorem dX10_fault_26 : decode cX10_fault 26 = .ok (.getfield 208, 3) := by decide +kernel
theorem dX10_fault_29 : decode cX10_fault 29 = .ok (.aload_n 0, 1) := by decide +kernel
theorem dX10_fault_30 : decode cX10_fault 30 = .ok (.getfield 205, 3) := by decide +kernel
theorem dX10_fault_33 : decode cX10_fault 33 = .ok (.if_icmp .ge 10, 3) := by decide +kernel
theorem dX10_fault_36 : decode cX10_fault 36 = .ok (.aload_n 0, 1) := by decide +kernel
theorem dX10_fault_37 : decode cX10_fault 37 = .ok (.invokevirtual 227, 3) := by decide +kernel
theorem dX10_fault_40 : decode cX10_fault 40 = .ok (.goto (-24), 3) := by decide +kernel
theorem dX10_fault_43 : decode cX10_fault 43 = .ok (.aload_n 0, 1) := by decide +kernel
theorem dX10_fault_44 : decode cX10_fault 44 = .ok (.getfield 211, 3) := by decide +kernel
theorem dX10_fault_47 : decode cX10_fault 47 = .ok (.ireturn, 1) := by decide +kernel
theorem dX10_load_0 : decode cX10_load 0 = .ok (.aload_n 0, 1) := by decide +kernel
theorem dX10_load_1 : decode cX10_load 1 = .ok (.invokevirtual 230, 3) := by decide +kernel
theorem dX10_load_4 : decode cX10_load 4 = .ok (.bipush (-6), 2) := by decide +kernel
theorem dX10_load_6 : decode cX10_load 6 = .ok (.if_icmp .eq 6, 3) := by decide +kernel
theorem dX10_load_9 : decode cX10_load 9 = .ok (.bipush (-5), 2) := by decide +kernel
theorem dX10_load_11 : decode cX10_load 11 = .ok (.ireturn, 1) := by decide +kernel
theorem dX10_load_12 : decode cX10_load 12 = .ok (.aload_n 0, 1) := by decide +kernel
theorem dX10_load_13 : decode cX10_load 13 = .ok (.invokevirtual 64, 3) := by decide +kernel
theorem dX10_load_16 : decode cX10_load 16 = .ok (.aload_n 0, 1) := by decide +kernel
theorem dX10_load_17 : decode cX10_load 17 = .ok (.getfield 7, 3) := by decide +kernel
theorem dX10_load_20 : decode cX10_load 20 = .ok (.iconst 2, 1) := by decide +kernel
theorem dX10_load_21 : decode cX10_load 21 = .ok (.aload_n 0, 1) := by decide +kernel
theorem dX10_load_22 : decode cX10_load 22 = .ok (.getfield 221, 3) := by decide +kernel
theorem dX10_load_25 : decode cX10_load 25 = .ok (.iastore, 1) := by decide +kernel
theorem dX10_load_26 : decode cX10_load 26 = .ok (.iconst 0, 1) := by decide +kernel
theorem dX10_load_27 : decode cX10_load 27 = .ok (.istore_n 1, 1) := by decide +kernel
theorem dX10_load_28 : decode cX10_load 28 = .ok (.iload_n 1, 1) := by decide +kernel
theorem dX10_load_29 : decode cX10_load 29 = .ok (.iconst 5, 1) := by decide +kernel
theorem dX10_load_30 : decode cX10_load 30 = .ok (.aload_n 0, 1) := by decide +kernel
theorem dX10_load_31 : decode cX10_load 31 = .ok (.getfield 221, 3) := by decide +kernel
theorem dX10_load_34 : decode cX10_load 34 = .ok (.imul, 1) := by decide +kernel
theorem dX10_load_35 : decode cX10_load 35 = .ok (.if_icmp .ge 23, 3) := by decide +kernel
theorem dX10_load_38 : decode cX10_load 38 = .ok (.aload_n 0, 1) := by decide +kernel
theorem dX10_load_39 : decode cX10_load 39 = .ok (.getfield 7, 3) := by decide +kernel
theorem dX10_load_42 : decode cX10_load 42 = .ok (.iconst 5, 1) := by decide +kernel
theorem dX10_load_43 : decode cX10_load 43 = .ok (.iload_n 1, 1) := by decide +kernel
theorem dX10_load_44 : decode cX10_load 44 = .ok (.iadd, 1) := by decide +kernel
theorem dX10_load_45 : decode cX10_load 45 = .ok (.aload_n 0, 1) := by decide +kernel
theorem dX10_load_46 : decode cX10_load 46 = .ok (.getfield 41, 3) := by decide +kernel
theorem dX10_load_49 : decode cX10_load 49 = .ok (.iload_n 1, 1) := by decide +kernel
theorem dX10_load_50 : decode cX10_load 50 = .ok (.iaload, 1) := by decide +kernel
theorem dX10_load_51 : decode cX10_load 51 = .ok (.iastore, 1) := by decide +kernel
theorem dX10_load_52 : decode cX10_load 52 = .ok (.iinc 1 1, 3) := by decide +kernel
theorem dX10_load_55 : decode cX10_load 55 = .ok (.goto (-27), 3) := by decide +kernel
theorem dX10_load_58 : decode cX10_load 58 = .ok (.aload_n 0, 1) := by decide +kernel
theorem dX10_load_59 : decode cX10_load 59 = .ok (.getfield 221, 3) := by decide +kernel
theorem dX10_load_62 : decode cX10_load 62 = .ok (.ireturn, 1) := by decide +kernel
end
section
/-! ===== The world of this claim: 128 places that hold the class's and the reference's objects and rows; a memory is a function from place and index to an integer; references are places. ===== -/
abbrev AV : Type := Int ⊕ Int ⊕ Nat ⊕ UInt32 ⊕ UInt64 ⊕ Unit
def aI (z : Int) : AV := .inl z
def aL (z : Int) : AV := .inr (.inl z)
def aR (p : Nat) : AV := .inr (.inr (.inl p))
def aF (b : UInt32) : AV := .inr (.inr (.inr (.inl b)))
def aD (b : UInt64) : AV := .inr (.inr (.inr (.inr (.inl b))))
def aU : AV := .inr (.inr (.inr (.inr (.inr ()))))
abbrev Mem : Type := Nat → Int → Int
/-- an abstract value, at these addresses -/
def cv (ad : Nat → Nat) : AV → Value
  | .inl z => .int (Int32.ofInt z)
  | .inr (.inl z) => .long (Int64.ofInt z)
  | .inr (.inr (.inl p)) => .ref (ad p)
  | .inr (.inr (.inr (.inl b))) => .float b
  | .inr (.inr (.inr (.inr (.inl b)))) => .double b
  | .inr (.inr (.inr (.inr (.inr _)))) => .null
/-- how many words it takes -/
def ctg : AV → Nat
  | .inr (.inl _) => 2
  | .inr (.inr (.inr (.inr (.inl _)))) => 2
  | _ => 1
theorem cv_ctg (ad : Nat → Nat) (v : AV) : (cv ad v).category = ctg v := by
  rcases v with z | z | p | b | b | u <;> rfl
/-- what a method answers: nothing, or a value -/
def rv (ad : Nat → Nat) : AV → Option Value
  | .inr (.inr (.inr (.inr (.inr _)))) => none
  | v => some (cv ad v)
/-- one place's row changed at one index; a memory changed at one place and index -/
def ui (f : Int → Int) (i z : Int) : Int → Int := fun j => if j = i then z else f j
def um (mem : Mem) (p : Nat) (i z : Int) : Mem := fun q => if q = p then ui (mem p) i z else mem q
theorem ui_same (f : Int → Int) (i z : Int) : ui f i z i = z := if_pos rfl
theorem ui_ne (f : Int → Int) {i j : Int} (z : Int) (h : j ≠ i) : ui f i z j = f j := if_neg h
theorem um_same (mem : Mem) (p : Nat) (i z : Int) : um mem p i z p = ui (mem p) i z := if_pos rfl
theorem um_ne (mem : Mem) {p q : Nat} (i z : Int) (h : q ≠ p) : um mem p i z q = mem q := if_neg h
def NP : Nat := 128
/-- what stands at a place: (0, n) a row of n ints, 1 of longs, 2 of booleans, 3 of rows of longs, 4 of Setups; (5, c) an object of the class c -/
def kdL : List (Nat × Nat) := [(5, 9), (5, 4), (0, 100), (5, 4), (0, 100), (5, 0), (4, 8),
  (5, 4), (0, 100), (5, 4), (0, 100), (5, 4), (0, 100), (5, 4), (0, 100), (5, 4), (0, 100), (5, 4), (0, 100), (5, 4), (0, 100), (5, 4), (0, 100),
  (5, 6), (0, 200), (5, 8), (0, 10), (5, 8), (0, 10),
  (5, 2), (5, 8), (0, 10), (0, 20), (0, 20), (0, 20), (0, 20), (0, 20), (1, 20),
  (5, 5), (1, 80), (5, 5), (1, 80),
  (5, 3), (0, 6), (3, 6), (1, 20), (1, 20), (1, 20), (1, 20), (1, 20), (1, 20), (0, 310), (1, 1244), (2, 311),
  (5, 3), (0, 6), (3, 6), (1, 20), (1, 20), (1, 20), (1, 20), (1, 20), (1, 20), (0, 6), (1, 28), (2, 7),
  (5, 3), (0, 6), (3, 6), (1, 20), (1, 20), (1, 20), (1, 20), (1, 20), (1, 20), (0, 6), (1, 28), (2, 7),
  (5, 7), (0, 301), (0, 301), (0, 301), (0, 301),
  (5, 1), (0, 4032), (3, 24), (1, 20), (1, 20), (1, 20), (1, 20), (1, 20), (1, 20), (1, 20), (1, 20), (1, 20), (1, 20), (1, 20), (1, 20),
  (1, 20), (1, 20), (1, 20), (1, 20), (1, 20), (1, 20), (1, 20), (1, 20), (1, 20), (1, 20), (1, 20), (1, 20), (1, 24), (2, 20), (0, 20), (0, 504), (0, 504), (0, 504),
  (5, 10), (0, 105), (0, 840), (0, 200), (1, 605), (0, 320), (1, 3531), (0, 7350), (0, 280), (0, 35), (0, 35), (0, 105)]
def kd (p : Nat) : Nat × Nat := kdL.getD p (6, 0)
/-- the place that a reference field of the object at p holds, or that a row of rows holds: they never change -/
def rf (p k : Nat) : Nat := match kd p with
  | (3, _) => p + 1 + k
  | (5, 0) => p + 1
  | (5, 1) => (match k with | 2 => 29 | 3 => 38 | 4 => p + 1 | 5 => p + 2 | 6 => p + 27 | 7 => p + 28 | 8 => p + 29 | 10 => p + 30 | 11 => p + 31 | _ => p + 32)
  | (5, 2) => (match k with | 3 => p + 1 | 4 => p + 3 | 5 => p + 4 | 6 => p + 5 | 7 => p + 6 | 8 => p + 7 | _ => p + 8)
  | (5, 3) => (match k with | 5 => p + 1 | 6 => p + 2 | 7 => 29 | 8 => (if p = 66 then 40 else 38) | 10 => p + 9 | 11 => p + 10 | _ => p + 11)
  | (5, 4) => p + 1
  | (5, 5) => (match k with | 1 => 29 | _ => p + 1)
  | (5, 6) => p + 1
  | (5, 7) => (match k with | 4 => p + 1 | 5 => p + 2 | 6 => p + 3 | _ => p + 4)
  | (5, 8) => p + 1
  | (5, 9) => (match k with | 0 => 1 | 1 => 3 | 2 => 5 | 3 => 23 | 4 => 25 | 5 => 27 | 6 => 29 | 7 => 38 | 8 => 40 | 9 => 42 | 10 => 54 | 11 => 66 | 12 => 78 | _ => 83)
  | (5, 10) => (match k with | 0 => p + 1 | 1 => p + 2 | 4 => p + 3 | 6 => p + 4 | 9 => p + 5 | 10 => p + 6 | 12 => p + 7 | 13 => p + 8 | 14 => p + 9 | 15 => p + 10 | _ => p + 11)
  | _ => 0
/-- the types of a class's fields, how many they are, and their kind: 0 an int or boolean, 1 a long, 2 a reference -/
def tyC (c : Nat) : Nat → FieldType := match c with
  | 0 => tyX0 | 1 => tyX1 | 2 => tyX2 | 3 => tyX3 | 4 => tyX4 | 5 => tyX5 | 6 => tyX6 | 7 => tyX7 | 8 => tyX8 | 9 => tyX9 | _ => tyX10
def nf (c : Nat) : Nat := match c with
  | 0 => 2 | 1 => 13 | 2 => 10 | 3 => 13 | 4 => 6 | 5 => 3 | 6 => 3 | 7 => 8 | 8 => 2 | 9 => 15 | _ => 20
def fk (t : FieldType) : Nat := match t with
  | .int => 0 | .boolean => 0 | .long => 1 | _ => 2
/-- the numbers of the classes and of their slots; of the row classes: int, long, boolean, rows of longs, Setups -/
abbrev WG : Type := va_G × (ClassId × ClassId × ClassId × ClassId × ClassId)
def tysW (G : WG) : List (ClassId × FieldType) := [(G.2.1, .int), (G.2.2.1, .long), (G.2.2.2.1, .boolean), (G.2.2.2.2.1, .array .long), (G.2.2.2.2.2, .object "StackLab$Setup")]
def fv (ad : Nat → Nat) (mem : Mem) (p c k : Nat) : Value := match fk (tyC c k) with
  | 0 => .int (Int32.ofInt (mem p k))
  | 1 => .long (Int64.ofInt (mem p k))
  | _ => .ref (ad (rf p k))
def cellOf (G : WG) (ad : Nat → Nat) (mem : Mem) (p : Nat) : va_E := match kd p with
  | (0, n) => .inl (G.2.1, n, .inl (fun k => Int32.ofInt (mem p k)))
  | (1, n) => .inl (G.2.2.1, n, .inr (.inl (fun k => Int64.ofInt (mem p k))))
  | (2, n) => .inl (G.2.2.2.1, n, .inl (fun k => Int32.ofInt (mem p k)))
  | (3, n) => .inl (G.2.2.2.2.1, n, .inr (.inr (.inr (.inr (fun k => some (ad (rf p k)))))))
  | (4, n) => .inl (G.2.2.2.2.2, n, .inr (.inr (.inr (.inr (fun k => some (ad (mem p k).toNat))))))
  | (_, c) => .inr (c, (List.range (nf c)).map (fv ad mem p c))
def WS (G : WG) (ad : Nat → Nat) (mem : Mem) : va_W := (List.range NP).map (fun p => (ad p, cellOf G ad mem p))
theorem WS_at (G : WG) (ad : Nat → Nat) (mem : Mem) {p : Nat} (h : p < NP) : (WS G ad mem)[p]? = some (ad p, cellOf G ad mem p) := by
  simp [WS, List.getElem?_map, List.getElem?_range h]
theorem WS_of {G : WG} {ad : Nat → Nat} {mem : Mem} {k : Nat} {q : Nat × va_E} (h : (WS G ad mem)[k]? = some q) : k < NP ∧ q = (ad k, cellOf G ad mem k) := by
  have hl : k < (WS G ad mem).length := (List.getElem?_eq_some_iff.mp h).1
  have hk : k < NP := by simpa [WS] using hl
  exact ⟨hk, Option.some.inj (h.symm.trans (WS_at G ad mem hk))⟩
/-- a memory changed at the place p: the world changed at p -/
theorem WS_set {G : WG} {ad : Nat → Nat} {mem mem' : Mem} {p : Nat} {e : va_E} (hp : p < NP) (he : e = cellOf G ad mem' p) (ho : ∀ q, q ≠ p → mem' q = mem q) : (WS G ad mem).set p (ad p, e) = WS G ad mem' := by
  apply List.ext_getElem?
  intro k
  by_cases hk : k < NP
  · by_cases hkp : k = p
    · subst hkp
      rw [List.getElem?_set_self (by simpa [WS] using hk), WS_at _ _ _ hk, he]
    · rw [List.getElem?_set_ne (Ne.symm hkp), WS_at _ _ _ hk, WS_at _ _ _ hk]
      have h1 : mem' k = mem k := ho k hkp
      have h3 : fv ad mem' k = fv ad mem k := by
        funext c j
        simp only [fv, h1]
      have h2 : cellOf G ad mem' k = cellOf G ad mem k := by
        unfold cellOf
        simp only [h1, h3]
      rw [h2]
  · rw [List.getElem?_eq_none (by simpa [WS] using Nat.le_of_not_lt hk), List.getElem?_eq_none (by simpa [WS] using Nat.le_of_not_lt hk)]
/-- the words that every method has: those of the tables that stay -/
def gw : List Cond := lw_tbl.filter goodWord
theorem gw_in {w : Cond} (h : w ∈ lw_tbl) (hg : goodWord w = true) : w ∈ gw := List.mem_filter.mpr ⟨h, hg⟩
theorem gw_good {ws : List Cond} (h : ∀ w ∈ ws, w ∈ gw) : GoodIn gw ws := fun w hw => ⟨h w hw, good_of_word (List.mem_filter.mp (h w hw)).2⟩
theorem inX0 : ∀ w ∈ u_ws RX0 TX0 2, w ∈ lw_tbl := by decide +kernel
theorem inX1 : ∀ w ∈ u_ws RX1 TX1 13, w ∈ lw_tbl := by decide +kernel
theorem inX2 : ∀ w ∈ u_ws RX2 TX2 10, w ∈ lw_tbl := by decide +kernel
theorem inX3 : ∀ w ∈ u_ws RX3 TX3 13, w ∈ lw_tbl := by decide +kernel
theorem inX4 : ∀ w ∈ u_ws RX4 TX4 6, w ∈ lw_tbl := by decide +kernel
theorem inX5 : ∀ w ∈ u_ws RX5 TX5 3, w ∈ lw_tbl := by decide +kernel
theorem inX6 : ∀ w ∈ u_ws RX6 TX6 3, w ∈ lw_tbl := by decide +kernel
theorem inX7 : ∀ w ∈ u_ws RX7 TX7 8, w ∈ lw_tbl := by decide +kernel
theorem inX8 : ∀ w ∈ u_ws RX8 TX8 2, w ∈ lw_tbl := by decide +kernel
theorem inX9 : ∀ w ∈ u_ws RX9 TX9 15, w ∈ lw_tbl := by decide +kernel
theorem inX10 : ∀ w ∈ u_ws RX10 TX10 20, w ∈ lw_tbl := by decide +kernel
theorem lay_good (C : String) (T : u_T) (N : Nat) : ∀ w ∈ u_ws C T N, goodWord w = true := by
  intro w hw
  obtain ⟨k, -, rfl⟩ := List.mem_map.mp hw
  unfold u_lay
  split <;> rfl
theorem inW {c : Nat} {q : vw_C} (h : vwCl[c]? = some q) : ∀ w ∈ u_ws q.1 q.2.1 q.2.2, w ∈ gw := by
  have key : ∀ w ∈ u_ws q.1 q.2.1 q.2.2, w ∈ lw_tbl := by
    match c, h with
    | 0, h => cases h; exact inX0
    | 1, h => cases h; exact inX1
    | 2, h => cases h; exact inX2
    | 3, h => cases h; exact inX3
    | 4, h => cases h; exact inX4
    | 5, h => cases h; exact inX5
    | 6, h => cases h; exact inX6
    | 7, h => cases h; exact inX7
    | 8, h => cases h; exact inX8
    | 9, h => cases h; exact inX9
    | 10, h => cases h; exact inX10
    | k + 11, h => simp [vwCl] at h
  exact fun w hw => gw_in (key w hw) (lay_good _ _ _ w hw)
theorem tyW {c : Nat} {q : vw_C} (h : vwCl[c]? = some q) : ∀ k, k < q.2.2 → parseFieldDescriptor (q.2.1 k).2.2.1 = some (tyC c k) := by
  match c, h with
  | 0, h => cases h; exact tyX0_ok
  | 1, h => cases h; exact tyX1_ok
  | 2, h => cases h; exact tyX2_ok
  | 3, h => cases h; exact tyX3_ok
  | 4, h => cases h; exact tyX4_ok
  | 5, h => cases h; exact tyX5_ok
  | 6, h => cases h; exact tyX6_ok
  | 7, h => cases h; exact tyX7_ok
  | 8, h => cases h; exact tyX8_ok
  | 9, h => cases h; exact tyX9_ok
  | 10, h => cases h; exact tyX10_ok
  | k + 11, h => simp [vwCl] at h
theorem nmW {c : Nat} {q : vw_C} (h : vwCl[c]? = some q) : ∀ a, a < q.2.2 → ∀ b, b < q.2.2 → a ≠ b → (q.2.1 a).2.1 ≠ (q.2.1 b).2.1 := by
  match c, h with
  | 0, h => cases h; exact nmX0
  | 1, h => cases h; exact nmX1
  | 2, h => cases h; exact nmX2
  | 3, h => cases h; exact nmX3
  | 4, h => cases h; exact nmX4
  | 5, h => cases h; exact nmX5
  | 6, h => cases h; exact nmX6
  | 7, h => cases h; exact nmX7
  | 8, h => cases h; exact nmX8
  | 9, h => cases h; exact nmX9
  | 10, h => cases h; exact nmX10
  | k + 11, h => simp [vwCl] at h
theorem nfW {c : Nat} {q : vw_C} (h : vwCl[c]? = some q) : nf c = q.2.2 := by
  match c, h with
  | 0, h => cases h; rfl
  | 1, h => cases h; rfl
  | 2, h => cases h; rfl
  | 3, h => cases h; rfl
  | 4, h => cases h; rfl
  | 5, h => cases h; rfl
  | 6, h => cases h; rfl
  | 7, h => cases h; rfl
  | 8, h => cases h; rfl
  | 9, h => cases h; rfl
  | 10, h => cases h; rfl
  | k + 11, h => simp [vwCl] at h
end
section
/-! ===== The judgement V: from this point of a method, over a memory, the walk comes to its end; a row an instruction ===== -/
/-- which cells the walk may write; cells and slots made before it; its end; what more is known at its entry -/
abbrev EQ : Type := (State → (Nat → Nat) → Nat → Prop) × (Nat × Nat) × (List Frame → Array Value → State → WG → (Nat → Nat) → State → Prop) × (Array Value → State → WG → (Nat → Nat) → Prop)
def isNest : Cond → Bool
  | .methodLinkNest .. => true
  | _ => false
def nestL : List Cond := lw_tbl.filter isNest
def nestOK (U : State) : Prop := ∀ w ∈ nestL, va_Nw w U
theorem nestOK.warm {s U : State} (hW : s.WarmedH U.vm) (h : nestOK s) : nestOK U := by
  intro w hw
  have h1 := (List.mem_filter.mp hw).2
  cases w <;> first | (simp [isNest] at h1; done) | exact va_Nw.warmM hW (h _ hw)
theorem nestOK.same {s U : State} (hv : s.vm = U.vm) (h : nestOK s) : nestOK U := by
  intro w hw
  have h1 := (List.mem_filter.mp hw).2
  cases w <;> first | (simp [isNest] at h1; done) | exact va_Nw.same rfl hv (h _ hw)
def injA (ad : Nat → Nat) : Prop := ∀ i j, i < NP → j < NP → ad i = ad j → i = j
def rngA (ad : Nat → Nat) : Nat → Prop := fun q => ∃ i, i < NP ∧ ad i = q
def Cx (cc : ByteArray) (own : String) (nL : Nat) (ret : Option FieldType) (E : EQ) (p : Program) (s : State) (m : MethodId) (args : Array Value) (meth : Method) (c : Code) (G : WG) (ad : Nat → Nat) : Prop :=
  CallFix p m c cc nL s args gw own ∧ meth.locks = false ∧ meth.sig.returnType = ret ∧ va_K G.1 vwCl (tysW G) s ∧ nestOK s ∧ injA ad ∧ (∀ i, i < NP → E.1 s ad (ad i)) ∧ E.2.2.2 args s G ad
def lvh (ad : Nat → Nat) (la : Array Slot) (nL : Nat) (ls : List AV) : Prop := la.size = nL ∧ lv_wf la ∧ ∀ (i : Nat) (v : AV), ls[i]? = some v → v ≠ aU → la[i]? = some (.val (cv ad v))
def V (cc : ByteArray) (own : String) (nL : Nat) (ret : Option FieldType) (R : Room) (E : EQ) (pc : Nat) (ls st : List AV) (mem : Mem) : Prop :=
  ∀ (p : Program) (l : Launch) (e : Env) (s : State) (m : MethodId) (args : Array Value) (below : List Frame) (meth : Method) (c : Code) (G : WG) (ad : Nat → Nat) (H : Heap) (locs : List Loc) (la : Array Slot),
    Cx cc own nL ret E p s m args meth c G ad → va_P G.1 vwCl (WS G ad mem) H → va_S (E.1 s ad) s.heap H locs → lvh ad la nL ls →
    W p l e R s m args below meth c H locs E.2.1.1 E.2.1.2 (E.2.2.1 below args s G ad) (F0 m pc la (st.map (cv ad)))
/-- the locals as the kit has them -/
def toL (ad : Nat → Nat) : Nat → List AV → List (Nat × Value)
  | _, [] => []
  | i, v :: vs => if v = aU then toL ad (i + 1) vs else (i, cv ad v) :: toL ad (i + 1) vs
theorem toL_of {ad : Nat → Nat} : ∀ (ls : List AV) (i : Nat) (q : Nat × Value), q ∈ toL ad i ls → ∃ (j : Nat) (v : AV), ls[j]? = some v ∧ v ≠ aU ∧ q = (i + j, cv ad v)
  | [], _, _, h => by simp [toL] at h
  | v :: vs, i, q, h => by
    unfold toL at h
    by_cases hv : v = aU
    · rw [if_pos hv] at h
      obtain ⟨j, w, h1, h2, h3⟩ := toL_of vs (i + 1) q h
      exact ⟨j + 1, w, by simpa using h1, h2, by rw [h3]; congr 1; omega⟩
    · rw [if_neg hv] at h
      rcases List.mem_cons.mp h with h | h
      · exact ⟨0, v, rfl, hv, by simpa using h⟩
      · obtain ⟨j, w, h1, h2, h3⟩ := toL_of vs (i + 1) q h
        exact ⟨j + 1, w, by simpa using h1, h2, by rw [h3]; congr 1; omega⟩
theorem toL_in {ad : Nat → Nat} : ∀ (ls : List AV) (i j : Nat) (v : AV), ls[j]? = some v → v ≠ aU → (i + j, cv ad v) ∈ toL ad i ls
  | [], _, _, _, h, _ => by simp at h
  | w :: ws, i, j, v, h, hv => by
    unfold toL
    cases j with
    | zero =>
      have e : w = v := by simpa using h
      subst e
      rw [if_neg hv]
      exact List.mem_cons_self
    | succ j =>
      have h1 := toL_in (ad := ad) ws (i + 1) j v (by simpa using h) hv
      rw [show i + (j + 1) = i + 1 + j by omega]
      by_cases hw : w = aU
      · rw [if_pos hw]; exact h1
      · rw [if_neg hw]; exact List.mem_cons_of_mem _ h1
theorem lvh.has {ad : Nat → Nat} {la : Array Slot} {nL : Nat} {ls : List AV} (h : lvh ad la nL ls) : lv_has la nL (toL ad 0 ls) := by
  refine ⟨h.1, h.2.1, fun q hq => ?_⟩
  obtain ⟨j, v, h1, h2, rfl⟩ := toL_of ls 0 q hq
  rw [Nat.zero_add]
  exact h.2.2 j v h1 h2
theorem lvh.set1 {ad : Nat → Nat} {la : Array Slot} {nL i : Nat} {ls : List AV} {x : AV} (hp : ∀ w, 0 < i → ls[i - 1]? = some w → ctg w = 1)
    (h : lv_has la nL ((i, cv ad x) :: (toL ad 0 ls).filter (fun q => !(q.1 == i) && !(q.1 + 1 == i && q.2.category == 2)))) : lvh ad la nL (ls.set i x) := by
  refine ⟨h.1, h.2.1, fun j v hj hv => ?_⟩
  by_cases hji : j = i
  · subst hji
    have hl : j < ls.length := by
      have := (List.getElem?_eq_some_iff.mp hj).1
      simpa using this
    rw [List.getElem?_set_self hl] at hj
    cases hj
    exact h.2.2 _ List.mem_cons_self
  · rw [List.getElem?_set_ne (Ne.symm hji)] at hj
    refine h.2.2 (j, cv ad v) (List.mem_cons_of_mem _ (List.mem_filter.mpr ⟨by simpa using toL_in ls 0 j v hj hv, ?_⟩))
    have h1 : ¬ (j + 1 = i ∧ (cv ad v).category = 2) := by
      rintro ⟨e1, e2⟩
      have := hp v (by omega) (by rw [show i - 1 = j by omega]; exact hj)
      rw [cv_ctg] at e2
      omega
    have h2 : (!(j == i) && !(j + 1 == i && (cv ad v).category == 2)) = true := by
      simp only [Bool.and_eq_true, Bool.not_eq_true', beq_eq_false_iff_ne, ne_eq, hji, not_false_eq_true, true_and, Bool.and_eq_false_iff]
      by_cases e : j + 1 = i
      · right
        simpa using fun q => h1 ⟨e, q⟩
      · left
        simpa using e
    exact h2
theorem lvh.set2 {ad : Nat → Nat} {la : Array Slot} {nL i : Nat} {ls : List AV} {x : AV} (hp : ∀ w, 0 < i → ls[i - 1]? = some w → ctg w = 1)
    (h : lv_has la nL ((i, cv ad x) :: (toL ad 0 ls).filter (fun q => !(q.1 == i) && (!(q.1 == i + 1) && !(q.1 + 1 == i && q.2.category == 2))))) : lvh ad la nL ((ls.set i x).set (i + 1) aU) := by
  refine ⟨h.1, h.2.1, fun j v hj hv => ?_⟩
  by_cases hj1 : j = i + 1
  · subst hj1
    by_cases hl : i + 1 < (ls.set i x).length
    · rw [List.getElem?_set_self hl] at hj
      cases hj
      exact absurd rfl hv
    · rw [List.getElem?_eq_none (by simp at hl ⊢; omega)] at hj
      cases hj
  rw [List.getElem?_set_ne (Ne.symm hj1)] at hj
  by_cases hji : j = i
  · subst hji
    have hl : j < ls.length := by
      have := (List.getElem?_eq_some_iff.mp hj).1
      simpa using this
    rw [List.getElem?_set_self hl] at hj
    cases hj
    exact h.2.2 _ List.mem_cons_self
  · rw [List.getElem?_set_ne (Ne.symm hji)] at hj
    refine h.2.2 (j, cv ad v) (List.mem_cons_of_mem _ (List.mem_filter.mpr ⟨by simpa using toL_in ls 0 j v hj hv, ?_⟩))
    have h1 : ¬ (j + 1 = i ∧ (cv ad v).category = 2) := by
      rintro ⟨e1, e2⟩
      have := hp v (by omega) (by rw [show i - 1 = j by omega]; exact hj)
      rw [cv_ctg] at e2
      omega
    have h2 : (!(j == i) && (!(j == i + 1) && !(j + 1 == i && (cv ad v).category == 2))) = true := by
      simp only [Bool.and_eq_true, Bool.not_eq_true', beq_eq_false_iff_ne, ne_eq, hji, hj1, not_false_eq_true, true_and, Bool.and_eq_false_iff]
      by_cases e : j + 1 = i
      · right
        simpa using fun q => h1 ⟨e, q⟩
      · left
        simpa using e
    exact h2
/-- the range of an int, of a long -/
abbrev R32 (a : Int) : Prop := -2147483648 ≤ a ∧ a ≤ 2147483647
abbrev R64 (a : Int) : Prop := -9223372036854775808 ≤ a ∧ a ≤ 9223372036854775807
theorem i32 {a : Int} (h : R32 a) : (Int32.ofInt a).toInt = a := Int32.toInt_ofInt_of_le (by omega) (by omega)
theorem i64 {a : Int} (h : R64 a) : (Int64.ofInt a).toInt = a := Int64.toInt_ofInt_of_le (by omega) (by omega)
theorem i32_lt {a b : Int} (ha : R32 a) (hb : R32 b) : Int32.ofInt a < Int32.ofInt b ↔ a < b := by rw [Int32.lt_iff_toInt_lt, i32 ha, i32 hb]
theorem i32_le {a b : Int} (ha : R32 a) (hb : R32 b) : Int32.ofInt a ≤ Int32.ofInt b ↔ a ≤ b := by rw [Int32.le_iff_toInt_le, i32 ha, i32 hb]
theorem i32_eq {a b : Int} (ha : R32 a) (hb : R32 b) : Int32.ofInt a = Int32.ofInt b ↔ a = b := by rw [← Int32.toInt_inj, i32 ha, i32 hb]
theorem i64_lt {a b : Int} (ha : R64 a) (hb : R64 b) : Int64.ofInt a < Int64.ofInt b ↔ a < b := by rw [Int64.lt_iff_toInt_lt, i64 ha, i64 hb]
theorem i64_eq {a b : Int} (ha : R64 a) (hb : R64 b) : Int64.ofInt a = Int64.ofInt b ↔ a = b := by rw [← Int64.toInt_inj, i64 ha, i64 hb]
theorem i32_z : (0 : Int32) = Int32.ofInt 0 := rfl
theorem i32_in {i : Int} {n : Nat} (h0 : 0 ≤ i) (h1 : i < n) (hn : n ≤ 100000) : vp_in (Int32.ofInt i) n ∧ (Int32.ofInt i).toNatClampNeg = i.toNat := by
  have e : (Int32.ofInt i).toNatClampNeg = i.toNat := by rw [Int32.toNatClampNeg, i32 (by omega)]
  refine ⟨?_, e⟩
  unfold vp_in
  rw [e, i32_z, i32_lt (by omega) (by omega)]
  omega
section Rows
variable {cc : ByteArray} {own : String} {nL : Nat} {ret : Option FieldType} {R : Room} {E : EQ} {pc q : Nat} {ls st : List AV} {mem : Mem}

theorem v_iconst {n : Int} (hd : decode cc pc = .ok (.iconst n, 1)) (hq : pc + 1 = q) (k : V cc own nL ret R E q ls (aI n :: st) mem) : V cc own nL ret R E pc ls st mem := by
  subst hq
  intro p l e s m args below meth c G ad H locs la hC hP hS hl
  exact lv_iconst hC.1.1 hC.1.2.1 hd rfl (k p l e s m args below meth c G ad H locs la hC hP hS hl)
theorem v_bipush {n : Int} (hn : -128 ≤ n ∧ n ≤ 127) (hd : decode cc pc = .ok (.bipush n, 2)) (hq : pc + 2 = q) (k : V cc own nL ret R E q ls (aI n :: st) mem) : V cc own nL ret R E pc ls st mem := by
  subst hq
  intro p l e s m args below meth c G ad H locs la hC hP hS hl
  refine lv_bipush hC.1.1 hC.1.2.1 hd (v := Int32.ofInt n) ?_ (k p l e s m args below meth c G ad H locs la hC hP hS hl)
  apply Int32.toInt_inj.mp
  rw [i32 (by omega), Int8.toInt_toInt32, Int8.toInt_ofInt_of_le (by omega) (by omega)]
theorem v_sipush {n : Int} (hn : -32768 ≤ n ∧ n ≤ 32767) (hd : decode cc pc = .ok (.sipush n, 3)) (hq : pc + 3 = q) (k : V cc own nL ret R E q ls (aI n :: st) mem) : V cc own nL ret R E pc ls st mem := by
  subst hq
  intro p l e s m args below meth c G ad H locs la hC hP hS hl
  refine lv_sipush hC.1.1 hC.1.2.1 hd (v := Int32.ofInt n) ?_ (k p l e s m args below meth c G ad H locs la hC hP hS hl)
  apply Int32.toInt_inj.mp
  rw [i32 (by omega), Int16.toInt_toInt32, Int16.toInt_ofInt_of_le (by omega) (by omega)]
theorem v_lconst0  (hd : decode cc pc = .ok (.lconst 0, 1)) (hq : pc + 1 = q) (k : V cc own nL ret R E q ls (aL 0 :: st) mem) : V cc own nL ret R E pc ls st mem := by
  subst hq
  intro p l e s m args below meth c G ad H locs la hC hP hS hl
  exact lv_lconst hC.1.1 hC.1.2.1 hd rfl (k p l e s m args below meth c G ad H locs la hC hP hS hl)
theorem v_lconst1  (hd : decode cc pc = .ok (.lconst 1, 1)) (hq : pc + 1 = q) (k : V cc own nL ret R E q ls (aL 1 :: st) mem) : V cc own nL ret R E pc ls st mem := by
  subst hq
  intro p l e s m args below meth c G ad H locs la hC hP hS hl
  exact lv_lconst hC.1.1 hC.1.2.1 hd rfl (k p l e s m args below meth c G ad H locs la hC hP hS hl)
theorem v_fconst0  (hd : decode cc pc = .ok (.fconst 0, 1)) (hq : pc + 1 = q) (k : V cc own nL ret R E q ls (aF FP.fconst0 :: st) mem) : V cc own nL ret R E pc ls st mem := by
  subst hq
  intro p l e s m args below meth c G ad H locs la hC hP hS hl
  exact lv_fconst0 hC.1.1 hC.1.2.1 hd (k p l e s m args below meth c G ad H locs la hC hP hS hl)
theorem v_ldc {x : Nat} {n : Int} {v : Int32} (hw : Cond.constant own x v ∈ gw) (hv : v = Int32.ofInt n) (hd : decode cc pc = .ok (.ldc x, 2)) (hq : pc + 2 = q) (k : V cc own nL ret R E q ls (aI n :: st) mem) : V cc own nL ret R E pc ls st mem := by
  subst hq
  intro p l e s m args below meth c G ad H locs la hC hP hS hl
  subst hv
  exact lv_ldc hC.1.1 hC.1.2.1 hC.1.2.2.2.1 (hC.1.2.2.2.2 _ hw) hd (k p l e s m args below meth c G ad H locs la hC hP hS hl)
theorem v_ldcf {x : Nat} {v : UInt32} (hw : Cond.constantFloat own x v ∈ gw) (hd : decode cc pc = .ok (.ldc x, 2)) (hq : pc + 2 = q) (k : V cc own nL ret R E q ls (aF v :: st) mem) : V cc own nL ret R E pc ls st mem := by
  subst hq
  intro p l e s m args below meth c G ad H locs la hC hP hS hl
  exact lv_ldcf hC.1.1 hC.1.2.1 hC.1.2.2.2.1 (hC.1.2.2.2.2 _ hw) hd (k p l e s m args below meth c G ad H locs la hC hP hS hl)
theorem v_ldc2 {x : Nat} {n : Int} {v : Int64} (hw : Cond.constantLong own x v ∈ gw) (hv : v = Int64.ofInt n) (hd : decode cc pc = .ok (.ldc2_w x, 3)) (hq : pc + 3 = q) (k : V cc own nL ret R E q ls (aL n :: st) mem) : V cc own nL ret R E pc ls st mem := by
  subst hq
  intro p l e s m args below meth c G ad H locs la hC hP hS hl
  subst hv
  exact lv_ldc2 hC.1.1 hC.1.2.1 hC.1.2.2.2.1 (hC.1.2.2.2.2 _ hw) hd (k p l e s m args below meth c G ad H locs la hC hP hS hl)
theorem v_iload_n {j : Fin 4} {z : Int} (hl0 : ls[(j : Nat)]? = some (aI z)) (hd : decode cc pc = .ok (.iload_n j, 1)) (hq : pc + 1 = q) (k : V cc own nL ret R E q ls (aI z :: st) mem) : V cc own nL ret R E pc ls st mem := by
  subst hq
  intro p l e s m args below meth c G ad H locs la hC hP hS hl
  exact lv_iload_n hC.1.1 hC.1.2.1 hd rfl (hl.2.2 _ _ hl0 (by intro h; cases h)) (k p l e s m args below meth c G ad H locs la hC hP hS hl)
theorem v_iload {j : Nat} {z : Int} (hl0 : ls[j]? = some (aI z)) (hd : decode cc pc = .ok (.iload j, 2)) (hq : pc + 2 = q) (k : V cc own nL ret R E q ls (aI z :: st) mem) : V cc own nL ret R E pc ls st mem := by
  subst hq
  intro p l e s m args below meth c G ad H locs la hC hP hS hl
  exact lv_iload hC.1.1 hC.1.2.1 hd (hl.2.2 _ _ hl0 (by intro h; cases h)) (k p l e s m args below meth c G ad H locs la hC hP hS hl)
theorem v_lload_n {j : Fin 4} {z : Int} (hl0 : ls[(j : Nat)]? = some (aL z)) (hd : decode cc pc = .ok (.lload_n j, 1)) (hq : pc + 1 = q) (k : V cc own nL ret R E q ls (aL z :: st) mem) : V cc own nL ret R E pc ls st mem := by
  subst hq
  intro p l e s m args below meth c G ad H locs la hC hP hS hl
  exact lv_lload_n hC.1.1 hC.1.2.1 hd rfl (hl.2.2 _ _ hl0 (by intro h; cases h)) (k p l e s m args below meth c G ad H locs la hC hP hS hl)
theorem v_lload {j : Nat} {z : Int} (hl0 : ls[j]? = some (aL z)) (hd : decode cc pc = .ok (.lload j, 2)) (hq : pc + 2 = q) (k : V cc own nL ret R E q ls (aL z :: st) mem) : V cc own nL ret R E pc ls st mem := by
  subst hq
  intro p l e s m args below meth c G ad H locs la hC hP hS hl
  exact lv_lload hC.1.1 hC.1.2.1 hd (hl.2.2 _ _ hl0 (by intro h; cases h)) (k p l e s m args below meth c G ad H locs la hC hP hS hl)
theorem v_aload_n {j : Fin 4} {z : Nat} (hl0 : ls[(j : Nat)]? = some (aR z)) (hd : decode cc pc = .ok (.aload_n j, 1)) (hq : pc + 1 = q) (k : V cc own nL ret R E q ls (aR z :: st) mem) : V cc own nL ret R E pc ls st mem := by
  subst hq
  intro p l e s m args below meth c G ad H locs la hC hP hS hl
  exact lv_aload_n hC.1.1 hC.1.2.1 hd rfl (hl.2.2 _ _ hl0 (by intro h; cases h)) (k p l e s m args below meth c G ad H locs la hC hP hS hl)
theorem v_aload {j : Nat} {z : Nat} (hl0 : ls[j]? = some (aR z)) (hd : decode cc pc = .ok (.aload j, 2)) (hq : pc + 2 = q) (k : V cc own nL ret R E q ls (aR z :: st) mem) : V cc own nL ret R E pc ls st mem := by
  subst hq
  intro p l e s m args below meth c G ad H locs la hC hP hS hl
  exact lv_aload hC.1.1 hC.1.2.1 hd (hl.2.2 _ _ hl0 (by intro h; cases h)) (k p l e s m args below meth c G ad H locs la hC hP hS hl)
theorem v_dload {j : Nat} {z : UInt64} (hl0 : ls[j]? = some (aD z)) (hd : decode cc pc = .ok (.dload j, 2)) (hq : pc + 2 = q) (k : V cc own nL ret R E q ls (aD z :: st) mem) : V cc own nL ret R E pc ls st mem := by
  subst hq
  intro p l e s m args below meth c G ad H locs la hC hP hS hl
  exact lv_dload hC.1.1 hC.1.2.1 hd (hl.2.2 _ _ hl0 (by intro h; cases h)) (k p l e s m args below meth c G ad H locs la hC hP hS hl)
theorem v_istore_n {j : Fin 4} {z : Int} (hn : j < nL) (hp : ∀ w, 0 < (j : Nat) → ls[(j : Nat) - 1]? = some w → ctg w = 1) (hd : decode cc pc = .ok (.istore_n j, 1)) (hq : pc + 1 = q) (k : V cc own nL ret R E q (ls.set j (aI z)) st mem) : V cc own nL ret R E pc ls (aI z :: st) mem := by
  subst hq
  intro p l e s m args below meth c G ad H locs la hC hP hS hl
  exact lv_istore_n hC.1.1 hC.1.2.1 hd rfl hl.has hn rfl (fun la' hl' => k p l e s m args below meth c G ad H locs la' hC hP hS (lvh.set1 (x := aI z) hp hl'))
theorem v_istore {j : Nat} {z : Int} (hn : j < nL) (hp : ∀ w, 0 < (j : Nat) → ls[(j : Nat) - 1]? = some w → ctg w = 1) (hd : decode cc pc = .ok (.istore j, 2)) (hq : pc + 2 = q) (k : V cc own nL ret R E q (ls.set j (aI z)) st mem) : V cc own nL ret R E pc ls (aI z :: st) mem := by
  subst hq
  intro p l e s m args below meth c G ad H locs la hC hP hS hl
  exact lv_istore hC.1.1 hC.1.2.1 hd hl.has hn rfl (fun la' hl' => k p l e s m args below meth c G ad H locs la' hC hP hS (lvh.set1 (x := aI z) hp hl'))
theorem v_lstore_n {j : Fin 4} {z : Int} (hn : j + 1 < nL) (hp : ∀ w, 0 < (j : Nat) → ls[(j : Nat) - 1]? = some w → ctg w = 1) (hd : decode cc pc = .ok (.lstore_n j, 1)) (hq : pc + 1 = q) (k : V cc own nL ret R E q ((ls.set j (aL z)).set (j + 1) aU) st mem) : V cc own nL ret R E pc ls (aL z :: st) mem := by
  subst hq
  intro p l e s m args below meth c G ad H locs la hC hP hS hl
  exact lv_lstore_n hC.1.1 hC.1.2.1 hd rfl hl.has hn rfl (fun la' hl' => k p l e s m args below meth c G ad H locs la' hC hP hS (lvh.set2 (x := aL z) hp hl'))
theorem v_lstore {j : Nat} {z : Int} (hn : j + 1 < nL) (hp : ∀ w, 0 < (j : Nat) → ls[(j : Nat) - 1]? = some w → ctg w = 1) (hd : decode cc pc = .ok (.lstore j, 2)) (hq : pc + 2 = q) (k : V cc own nL ret R E q ((ls.set j (aL z)).set (j + 1) aU) st mem) : V cc own nL ret R E pc ls (aL z :: st) mem := by
  subst hq
  intro p l e s m args below meth c G ad H locs la hC hP hS hl
  exact lv_lstore hC.1.1 hC.1.2.1 hd hl.has hn rfl (fun la' hl' => k p l e s m args below meth c G ad H locs la' hC hP hS (lvh.set2 (x := aL z) hp hl'))
theorem v_astore_n {j : Fin 4} {z : Nat} (hn : j < nL) (hp : ∀ w, 0 < (j : Nat) → ls[(j : Nat) - 1]? = some w → ctg w = 1) (hd : decode cc pc = .ok (.astore_n j, 1)) (hq : pc + 1 = q) (k : V cc own nL ret R E q (ls.set j (aR z)) st mem) : V cc own nL ret R E pc ls (aR z :: st) mem := by
  subst hq
  intro p l e s m args below meth c G ad H locs la hC hP hS hl
  exact lv_astore_n hC.1.1 hC.1.2.1 hd rfl hl.has hn rfl (fun la' hl' => k p l e s m args below meth c G ad H locs la' hC hP hS (lvh.set1 (x := aR z) hp hl'))
theorem v_astore {j : Nat} {z : Nat} (hn : j < nL) (hp : ∀ w, 0 < (j : Nat) → ls[(j : Nat) - 1]? = some w → ctg w = 1) (hd : decode cc pc = .ok (.astore j, 2)) (hq : pc + 2 = q) (k : V cc own nL ret R E q (ls.set j (aR z)) st mem) : V cc own nL ret R E pc ls (aR z :: st) mem := by
  subst hq
  intro p l e s m args below meth c G ad H locs la hC hP hS hl
  exact lv_astore hC.1.1 hC.1.2.1 hd hl.has hn rfl (fun la' hl' => k p l e s m args below meth c G ad H locs la' hC hP hS (lvh.set1 (x := aR z) hp hl'))
theorem v_dstore {j : Nat} {z : UInt64} (hn : j + 1 < nL) (hp : ∀ w, 0 < (j : Nat) → ls[(j : Nat) - 1]? = some w → ctg w = 1) (hd : decode cc pc = .ok (.dstore j, 2)) (hq : pc + 2 = q) (k : V cc own nL ret R E q ((ls.set j (aD z)).set (j + 1) aU) st mem) : V cc own nL ret R E pc ls (aD z :: st) mem := by
  subst hq
  intro p l e s m args below meth c G ad H locs la hC hP hS hl
  exact lv_dstore hC.1.1 hC.1.2.1 hd hl.has hn rfl (fun la' hl' => k p l e s m args below meth c G ad H locs la' hC hP hS (lvh.set2 (x := aD z) hp hl'))
theorem v_iinc {j : Nat} {z n : Int} (hn : j < nL) (hp : ∀ w, 0 < j → ls[j - 1]? = some w → ctg w = 1) (hl0 : ls[j]? = some (aI z)) (hd : decode cc pc = .ok (.iinc j n, 3)) (hq : pc + 3 = q) (k : V cc own nL ret R E q (ls.set j (aI (z + n))) st mem) : V cc own nL ret R E pc ls st mem := by
  subst hq
  intro p l e s m args below meth c G ad H locs la hC hP hS hl
  obtain ⟨i, hi⟩ := List.getElem?_of_mem (toL_in (ad := ad) ls 0 j (aI z) hl0 (by intro h; cases h))
  rw [Nat.zero_add] at hi
  refine lv_iinc hC.1.1 hC.1.2.1 hd hl.has (k := i) (x := Int32.ofInt z) hi rfl hn rfl (fun la' hl' => k p l e s m args below meth c G ad H locs la' hC hP hS (lvh.set1 (x := aI (z + n)) hp ?_))
  rw [← Int32.ofInt_add] at hl'
  exact hl'
theorem v_ist0 {x : AV} {z : Int} (hd : decode cc pc = .ok (.istore_n 0, 1)) (hn : 0 < nL) (hq : pc + 1 = q) (k : V cc own nL ret R E q (aI z :: ls) st mem) : V cc own nL ret R E pc (x :: ls) (aI z :: st) mem :=
  v_istore_n (j := 0) hn (by intro w h0; exact absurd h0 (by decide)) hd hq k
theorem v_ast0 {x : AV} {z : Nat} (hd : decode cc pc = .ok (.astore_n 0, 1)) (hn : 0 < nL) (hq : pc + 1 = q) (k : V cc own nL ret R E q (aR z :: ls) st mem) : V cc own nL ret R E pc (x :: ls) (aR z :: st) mem :=
  v_astore_n (j := 0) hn (by intro w h0; exact absurd h0 (by decide)) hd hq k
theorem v_lst0 {x x2 : AV} {z : Int} (hd : decode cc pc = .ok (.lstore_n 0, 1)) (hn : 0 + 1 < nL) (hq : pc + 1 = q) (k : V cc own nL ret R E q (aL z :: aU :: ls) st mem) : V cc own nL ret R E pc (x :: x2 :: ls) (aL z :: st) mem :=
  v_lstore_n (j := 0) hn (by intro w h0; exact absurd h0 (by decide)) hd hq k
theorem v_iinc0  {z n : Int} (hd : decode cc pc = .ok (.iinc 0 n, 3)) (hn : 0 < nL) (hq : pc + 3 = q) (k : V cc own nL ret R E q (aI (z + n) :: ls) st mem) : V cc own nL ret R E pc (aI z :: ls) st mem :=
  v_iinc (j := 0) hn (by intro w h0; exact absurd h0 (by decide)) rfl hd hq k
theorem v_ist1 {a0 x : AV} {z : Int} (hc : ctg a0 = 1 := by rfl) (hd : decode cc pc = .ok (.istore_n 1, 1)) (hn : 1 < nL) (hq : pc + 1 = q) (k : V cc own nL ret R E q (a0 :: aI z :: ls) st mem) : V cc own nL ret R E pc (a0 :: x :: ls) (aI z :: st) mem :=
  v_istore_n (j := 1) hn (by intro w _ hw; cases hw; exact hc) hd hq k
theorem v_ast1 {a0 x : AV} {z : Nat} (hc : ctg a0 = 1 := by rfl) (hd : decode cc pc = .ok (.astore_n 1, 1)) (hn : 1 < nL) (hq : pc + 1 = q) (k : V cc own nL ret R E q (a0 :: aR z :: ls) st mem) : V cc own nL ret R E pc (a0 :: x :: ls) (aR z :: st) mem :=
  v_astore_n (j := 1) hn (by intro w _ hw; cases hw; exact hc) hd hq k
theorem v_lst1 {a0 x x2 : AV} {z : Int} (hc : ctg a0 = 1 := by rfl) (hd : decode cc pc = .ok (.lstore_n 1, 1)) (hn : 1 + 1 < nL) (hq : pc + 1 = q) (k : V cc own nL ret R E q (a0 :: aL z :: aU :: ls) st mem) : V cc own nL ret R E pc (a0 :: x :: x2 :: ls) (aL z :: st) mem :=
  v_lstore_n (j := 1) hn (by intro w _ hw; cases hw; exact hc) hd hq k
theorem v_iinc1 {a0 : AV} {z n : Int} (hc : ctg a0 = 1 := by rfl) (hd : decode cc pc = .ok (.iinc 1 n, 3)) (hn : 1 < nL) (hq : pc + 3 = q) (k : V cc own nL ret R E q (a0 :: aI (z + n) :: ls) st mem) : V cc own nL ret R E pc (a0 :: aI z :: ls) st mem :=
  v_iinc (j := 1) hn (by intro w _ hw; cases hw; exact hc) rfl hd hq k
theorem v_ist2 {a0 a1 x : AV} {z : Int} (hc : ctg a1 = 1 := by rfl) (hd : decode cc pc = .ok (.istore_n 2, 1)) (hn : 2 < nL) (hq : pc + 1 = q) (k : V cc own nL ret R E q (a0 :: a1 :: aI z :: ls) st mem) : V cc own nL ret R E pc (a0 :: a1 :: x :: ls) (aI z :: st) mem :=
  v_istore_n (j := 2) hn (by intro w _ hw; cases hw; exact hc) hd hq k
theorem v_ast2 {a0 a1 x : AV} {z : Nat} (hc : ctg a1 = 1 := by rfl) (hd : decode cc pc = .ok (.astore_n 2, 1)) (hn : 2 < nL) (hq : pc + 1 = q) (k : V cc own nL ret R E q (a0 :: a1 :: aR z :: ls) st mem) : V cc own nL ret R E pc (a0 :: a1 :: x :: ls) (aR z :: st) mem :=
  v_astore_n (j := 2) hn (by intro w _ hw; cases hw; exact hc) hd hq k
theorem v_lst2 {a0 a1 x x2 : AV} {z : Int} (hc : ctg a1 = 1 := by rfl) (hd : decode cc pc = .ok (.lstore_n 2, 1)) (hn : 2 + 1 < nL) (hq : pc + 1 = q) (k : V cc own nL ret R E q (a0 :: a1 :: aL z :: aU :: ls) st mem) : V cc own nL ret R E pc (a0 :: a1 :: x :: x2 :: ls) (aL z :: st) mem :=
  v_lstore_n (j := 2) hn (by intro w _ hw; cases hw; exact hc) hd hq k
theorem v_iinc2 {a0 a1 : AV} {z n : Int} (hc : ctg a1 = 1 := by rfl) (hd : decode cc pc = .ok (.iinc 2 n, 3)) (hn : 2 < nL) (hq : pc + 3 = q) (k : V cc own nL ret R E q (a0 :: a1 :: aI (z + n) :: ls) st mem) : V cc own nL ret R E pc (a0 :: a1 :: aI z :: ls) st mem :=
  v_iinc (j := 2) hn (by intro w _ hw; cases hw; exact hc) rfl hd hq k
theorem v_ist3 {a0 a1 a2 x : AV} {z : Int} (hc : ctg a2 = 1 := by rfl) (hd : decode cc pc = .ok (.istore_n 3, 1)) (hn : 3 < nL) (hq : pc + 1 = q) (k : V cc own nL ret R E q (a0 :: a1 :: a2 :: aI z :: ls) st mem) : V cc own nL ret R E pc (a0 :: a1 :: a2 :: x :: ls) (aI z :: st) mem :=
  v_istore_n (j := 3) hn (by intro w _ hw; cases hw; exact hc) hd hq k
theorem v_ast3 {a0 a1 a2 x : AV} {z : Nat} (hc : ctg a2 = 1 := by rfl) (hd : decode cc pc = .ok (.astore_n 3, 1)) (hn : 3 < nL) (hq : pc + 1 = q) (k : V cc own nL ret R E q (a0 :: a1 :: a2 :: aR z :: ls) st mem) : V cc own nL ret R E pc (a0 :: a1 :: a2 :: x :: ls) (aR z :: st) mem :=
  v_astore_n (j := 3) hn (by intro w _ hw; cases hw; exact hc) hd hq k
theorem v_lst3 {a0 a1 a2 x x2 : AV} {z : Int} (hc : ctg a2 = 1 := by rfl) (hd : decode cc pc = .ok (.lstore_n 3, 1)) (hn : 3 + 1 < nL) (hq : pc + 1 = q) (k : V cc own nL ret R E q (a0 :: a1 :: a2 :: aL z :: aU :: ls) st mem) : V cc own nL ret R E pc (a0 :: a1 :: a2 :: x :: x2 :: ls) (aL z :: st) mem :=
  v_lstore_n (j := 3) hn (by intro w _ hw; cases hw; exact hc) hd hq k
theorem v_iinc3 {a0 a1 a2 : AV} {z n : Int} (hc : ctg a2 = 1 := by rfl) (hd : decode cc pc = .ok (.iinc 3 n, 3)) (hn : 3 < nL) (hq : pc + 3 = q) (k : V cc own nL ret R E q (a0 :: a1 :: a2 :: aI (z + n) :: ls) st mem) : V cc own nL ret R E pc (a0 :: a1 :: a2 :: aI z :: ls) st mem :=
  v_iinc (j := 3) hn (by intro w _ hw; cases hw; exact hc) rfl hd hq k
theorem v_ist4 {a0 a1 a2 a3 x : AV} {z : Int} (hc : ctg a3 = 1 := by rfl) (hd : decode cc pc = .ok (.istore 4, 2)) (hn : 4 < nL) (hq : pc + 2 = q) (k : V cc own nL ret R E q (a0 :: a1 :: a2 :: a3 :: aI z :: ls) st mem) : V cc own nL ret R E pc (a0 :: a1 :: a2 :: a3 :: x :: ls) (aI z :: st) mem :=
  v_istore (j := 4) hn (by intro w _ hw; cases hw; exact hc) hd hq k
theorem v_ast4 {a0 a1 a2 a3 x : AV} {z : Nat} (hc : ctg a3 = 1 := by rfl) (hd : decode cc pc = .ok (.astore 4, 2)) (hn : 4 < nL) (hq : pc + 2 = q) (k : V cc own nL ret R E q (a0 :: a1 :: a2 :: a3 :: aR z :: ls) st mem) : V cc own nL ret R E pc (a0 :: a1 :: a2 :: a3 :: x :: ls) (aR z :: st) mem :=
  v_astore (j := 4) hn (by intro w _ hw; cases hw; exact hc) hd hq k
theorem v_lst4 {a0 a1 a2 a3 x x2 : AV} {z : Int} (hc : ctg a3 = 1 := by rfl) (hd : decode cc pc = .ok (.lstore 4, 2)) (hn : 4 + 1 < nL) (hq : pc + 2 = q) (k : V cc own nL ret R E q (a0 :: a1 :: a2 :: a3 :: aL z :: aU :: ls) st mem) : V cc own nL ret R E pc (a0 :: a1 :: a2 :: a3 :: x :: x2 :: ls) (aL z :: st) mem :=
  v_lstore (j := 4) hn (by intro w _ hw; cases hw; exact hc) hd hq k
theorem v_dst4 {a0 a1 a2 a3 x x2 : AV} {z : UInt64} (hc : ctg a3 = 1 := by rfl) (hd : decode cc pc = .ok (.dstore 4, 2)) (hn : 4 + 1 < nL) (hq : pc + 2 = q) (k : V cc own nL ret R E q (a0 :: a1 :: a2 :: a3 :: aD z :: aU :: ls) st mem) : V cc own nL ret R E pc (a0 :: a1 :: a2 :: a3 :: x :: x2 :: ls) (aD z :: st) mem :=
  v_dstore (j := 4) hn (by intro w _ hw; cases hw; exact hc) hd hq k
theorem v_iinc4 {a0 a1 a2 a3 : AV} {z n : Int} (hc : ctg a3 = 1 := by rfl) (hd : decode cc pc = .ok (.iinc 4 n, 3)) (hn : 4 < nL) (hq : pc + 3 = q) (k : V cc own nL ret R E q (a0 :: a1 :: a2 :: a3 :: aI (z + n) :: ls) st mem) : V cc own nL ret R E pc (a0 :: a1 :: a2 :: a3 :: aI z :: ls) st mem :=
  v_iinc (j := 4) hn (by intro w _ hw; cases hw; exact hc) rfl hd hq k
theorem v_ist5 {a0 a1 a2 a3 a4 x : AV} {z : Int} (hc : ctg a4 = 1 := by rfl) (hd : decode cc pc = .ok (.istore 5, 2)) (hn : 5 < nL) (hq : pc + 2 = q) (k : V cc own nL ret R E q (a0 :: a1 :: a2 :: a3 :: a4 :: aI z :: ls) st mem) : V cc own nL ret R E pc (a0 :: a1 :: a2 :: a3 :: a4 :: x :: ls) (aI z :: st) mem :=
  v_istore (j := 5) hn (by intro w _ hw; cases hw; exact hc) hd hq k
theorem v_ast5 {a0 a1 a2 a3 a4 x : AV} {z : Nat} (hc : ctg a4 = 1 := by rfl) (hd : decode cc pc = .ok (.astore 5, 2)) (hn : 5 < nL) (hq : pc + 2 = q) (k : V cc own nL ret R E q (a0 :: a1 :: a2 :: a3 :: a4 :: aR z :: ls) st mem) : V cc own nL ret R E pc (a0 :: a1 :: a2 :: a3 :: a4 :: x :: ls) (aR z :: st) mem :=
  v_astore (j := 5) hn (by intro w _ hw; cases hw; exact hc) hd hq k
theorem v_lst5 {a0 a1 a2 a3 a4 x x2 : AV} {z : Int} (hc : ctg a4 = 1 := by rfl) (hd : decode cc pc = .ok (.lstore 5, 2)) (hn : 5 + 1 < nL) (hq : pc + 2 = q) (k : V cc own nL ret R E q (a0 :: a1 :: a2 :: a3 :: a4 :: aL z :: aU :: ls) st mem) : V cc own nL ret R E pc (a0 :: a1 :: a2 :: a3 :: a4 :: x :: x2 :: ls) (aL z :: st) mem :=
  v_lstore (j := 5) hn (by intro w _ hw; cases hw; exact hc) hd hq k
theorem v_dst5 {a0 a1 a2 a3 a4 x x2 : AV} {z : UInt64} (hc : ctg a4 = 1 := by rfl) (hd : decode cc pc = .ok (.dstore 5, 2)) (hn : 5 + 1 < nL) (hq : pc + 2 = q) (k : V cc own nL ret R E q (a0 :: a1 :: a2 :: a3 :: a4 :: aD z :: aU :: ls) st mem) : V cc own nL ret R E pc (a0 :: a1 :: a2 :: a3 :: a4 :: x :: x2 :: ls) (aD z :: st) mem :=
  v_dstore (j := 5) hn (by intro w _ hw; cases hw; exact hc) hd hq k
theorem v_iinc5 {a0 a1 a2 a3 a4 : AV} {z n : Int} (hc : ctg a4 = 1 := by rfl) (hd : decode cc pc = .ok (.iinc 5 n, 3)) (hn : 5 < nL) (hq : pc + 3 = q) (k : V cc own nL ret R E q (a0 :: a1 :: a2 :: a3 :: a4 :: aI (z + n) :: ls) st mem) : V cc own nL ret R E pc (a0 :: a1 :: a2 :: a3 :: a4 :: aI z :: ls) st mem :=
  v_iinc (j := 5) hn (by intro w _ hw; cases hw; exact hc) rfl hd hq k
theorem v_ist6 {a0 a1 a2 a3 a4 a5 x : AV} {z : Int} (hc : ctg a5 = 1 := by rfl) (hd : decode cc pc = .ok (.istore 6, 2)) (hn : 6 < nL) (hq : pc + 2 = q) (k : V cc own nL ret R E q (a0 :: a1 :: a2 :: a3 :: a4 :: a5 :: aI z :: ls) st mem) : V cc own nL ret R E pc (a0 :: a1 :: a2 :: a3 :: a4 :: a5 :: x :: ls) (aI z :: st) mem :=
  v_istore (j := 6) hn (by intro w _ hw; cases hw; exact hc) hd hq k
theorem v_ast6 {a0 a1 a2 a3 a4 a5 x : AV} {z : Nat} (hc : ctg a5 = 1 := by rfl) (hd : decode cc pc = .ok (.astore 6, 2)) (hn : 6 < nL) (hq : pc + 2 = q) (k : V cc own nL ret R E q (a0 :: a1 :: a2 :: a3 :: a4 :: a5 :: aR z :: ls) st mem) : V cc own nL ret R E pc (a0 :: a1 :: a2 :: a3 :: a4 :: a5 :: x :: ls) (aR z :: st) mem :=
  v_astore (j := 6) hn (by intro w _ hw; cases hw; exact hc) hd hq k
theorem v_lst6 {a0 a1 a2 a3 a4 a5 x x2 : AV} {z : Int} (hc : ctg a5 = 1 := by rfl) (hd : decode cc pc = .ok (.lstore 6, 2)) (hn : 6 + 1 < nL) (hq : pc + 2 = q) (k : V cc own nL ret R E q (a0 :: a1 :: a2 :: a3 :: a4 :: a5 :: aL z :: aU :: ls) st mem) : V cc own nL ret R E pc (a0 :: a1 :: a2 :: a3 :: a4 :: a5 :: x :: x2 :: ls) (aL z :: st) mem :=
  v_lstore (j := 6) hn (by intro w _ hw; cases hw; exact hc) hd hq k
theorem v_dst6 {a0 a1 a2 a3 a4 a5 x x2 : AV} {z : UInt64} (hc : ctg a5 = 1 := by rfl) (hd : decode cc pc = .ok (.dstore 6, 2)) (hn : 6 + 1 < nL) (hq : pc + 2 = q) (k : V cc own nL ret R E q (a0 :: a1 :: a2 :: a3 :: a4 :: a5 :: aD z :: aU :: ls) st mem) : V cc own nL ret R E pc (a0 :: a1 :: a2 :: a3 :: a4 :: a5 :: x :: x2 :: ls) (aD z :: st) mem :=
  v_dstore (j := 6) hn (by intro w _ hw; cases hw; exact hc) hd hq k
theorem v_iinc6 {a0 a1 a2 a3 a4 a5 : AV} {z n : Int} (hc : ctg a5 = 1 := by rfl) (hd : decode cc pc = .ok (.iinc 6 n, 3)) (hn : 6 < nL) (hq : pc + 3 = q) (k : V cc own nL ret R E q (a0 :: a1 :: a2 :: a3 :: a4 :: a5 :: aI (z + n) :: ls) st mem) : V cc own nL ret R E pc (a0 :: a1 :: a2 :: a3 :: a4 :: a5 :: aI z :: ls) st mem :=
  v_iinc (j := 6) hn (by intro w _ hw; cases hw; exact hc) rfl hd hq k
theorem v_ist7 {a0 a1 a2 a3 a4 a5 a6 x : AV} {z : Int} (hc : ctg a6 = 1 := by rfl) (hd : decode cc pc = .ok (.istore 7, 2)) (hn : 7 < nL) (hq : pc + 2 = q) (k : V cc own nL ret R E q (a0 :: a1 :: a2 :: a3 :: a4 :: a5 :: a6 :: aI z :: ls) st mem) : V cc own nL ret R E pc (a0 :: a1 :: a2 :: a3 :: a4 :: a5 :: a6 :: x :: ls) (aI z :: st) mem :=
  v_istore (j := 7) hn (by intro w _ hw; cases hw; exact hc) hd hq k
theorem v_ast7 {a0 a1 a2 a3 a4 a5 a6 x : AV} {z : Nat} (hc : ctg a6 = 1 := by rfl) (hd : decode cc pc = .ok (.astore 7, 2)) (hn : 7 < nL) (hq : pc + 2 = q) (k : V cc own nL ret R E q (a0 :: a1 :: a2 :: a3 :: a4 :: a5 :: a6 :: aR z :: ls) st mem) : V cc own nL ret R E pc (a0 :: a1 :: a2 :: a3 :: a4 :: a5 :: a6 :: x :: ls) (aR z :: st) mem :=
  v_astore (j := 7) hn (by intro w _ hw; cases hw; exact hc) hd hq k
theorem v_lst7 {a0 a1 a2 a3 a4 a5 a6 x x2 : AV} {z : Int} (hc : ctg a6 = 1 := by rfl) (hd : decode cc pc = .ok (.lstore 7, 2)) (hn : 7 + 1 < nL) (hq : pc + 2 = q) (k : V cc own nL ret R E q (a0 :: a1 :: a2 :: a3 :: a4 :: a5 :: a6 :: aL z :: aU :: ls) st mem) : V cc own nL ret R E pc (a0 :: a1 :: a2 :: a3 :: a4 :: a5 :: a6 :: x :: x2 :: ls) (aL z :: st) mem :=
  v_lstore (j := 7) hn (by intro w _ hw; cases hw; exact hc) hd hq k
theorem v_dst7 {a0 a1 a2 a3 a4 a5 a6 x x2 : AV} {z : UInt64} (hc : ctg a6 = 1 := by rfl) (hd : decode cc pc = .ok (.dstore 7, 2)) (hn : 7 + 1 < nL) (hq : pc + 2 = q) (k : V cc own nL ret R E q (a0 :: a1 :: a2 :: a3 :: a4 :: a5 :: a6 :: aD z :: aU :: ls) st mem) : V cc own nL ret R E pc (a0 :: a1 :: a2 :: a3 :: a4 :: a5 :: a6 :: x :: x2 :: ls) (aD z :: st) mem :=
  v_dstore (j := 7) hn (by intro w _ hw; cases hw; exact hc) hd hq k
theorem v_iinc7 {a0 a1 a2 a3 a4 a5 a6 : AV} {z n : Int} (hc : ctg a6 = 1 := by rfl) (hd : decode cc pc = .ok (.iinc 7 n, 3)) (hn : 7 < nL) (hq : pc + 3 = q) (k : V cc own nL ret R E q (a0 :: a1 :: a2 :: a3 :: a4 :: a5 :: a6 :: aI (z + n) :: ls) st mem) : V cc own nL ret R E pc (a0 :: a1 :: a2 :: a3 :: a4 :: a5 :: a6 :: aI z :: ls) st mem :=
  v_iinc (j := 7) hn (by intro w _ hw; cases hw; exact hc) rfl hd hq k
theorem v_ist8 {a0 a1 a2 a3 a4 a5 a6 a7 x : AV} {z : Int} (hc : ctg a7 = 1 := by rfl) (hd : decode cc pc = .ok (.istore 8, 2)) (hn : 8 < nL) (hq : pc + 2 = q) (k : V cc own nL ret R E q (a0 :: a1 :: a2 :: a3 :: a4 :: a5 :: a6 :: a7 :: aI z :: ls) st mem) : V cc own nL ret R E pc (a0 :: a1 :: a2 :: a3 :: a4 :: a5 :: a6 :: a7 :: x :: ls) (aI z :: st) mem :=
  v_istore (j := 8) hn (by intro w _ hw; cases hw; exact hc) hd hq k
theorem v_ast8 {a0 a1 a2 a3 a4 a5 a6 a7 x : AV} {z : Nat} (hc : ctg a7 = 1 := by rfl) (hd : decode cc pc = .ok (.astore 8, 2)) (hn : 8 < nL) (hq : pc + 2 = q) (k : V cc own nL ret R E q (a0 :: a1 :: a2 :: a3 :: a4 :: a5 :: a6 :: a7 :: aR z :: ls) st mem) : V cc own nL ret R E pc (a0 :: a1 :: a2 :: a3 :: a4 :: a5 :: a6 :: a7 :: x :: ls) (aR z :: st) mem :=
  v_astore (j := 8) hn (by intro w _ hw; cases hw; exact hc) hd hq k
theorem v_lst8 {a0 a1 a2 a3 a4 a5 a6 a7 x x2 : AV} {z : Int} (hc : ctg a7 = 1 := by rfl) (hd : decode cc pc = .ok (.lstore 8, 2)) (hn : 8 + 1 < nL) (hq : pc + 2 = q) (k : V cc own nL ret R E q (a0 :: a1 :: a2 :: a3 :: a4 :: a5 :: a6 :: a7 :: aL z :: aU :: ls) st mem) : V cc own nL ret R E pc (a0 :: a1 :: a2 :: a3 :: a4 :: a5 :: a6 :: a7 :: x :: x2 :: ls) (aL z :: st) mem :=
  v_lstore (j := 8) hn (by intro w _ hw; cases hw; exact hc) hd hq k
theorem v_dst8 {a0 a1 a2 a3 a4 a5 a6 a7 x x2 : AV} {z : UInt64} (hc : ctg a7 = 1 := by rfl) (hd : decode cc pc = .ok (.dstore 8, 2)) (hn : 8 + 1 < nL) (hq : pc + 2 = q) (k : V cc own nL ret R E q (a0 :: a1 :: a2 :: a3 :: a4 :: a5 :: a6 :: a7 :: aD z :: aU :: ls) st mem) : V cc own nL ret R E pc (a0 :: a1 :: a2 :: a3 :: a4 :: a5 :: a6 :: a7 :: x :: x2 :: ls) (aD z :: st) mem :=
  v_dstore (j := 8) hn (by intro w _ hw; cases hw; exact hc) hd hq k
theorem v_iinc8 {a0 a1 a2 a3 a4 a5 a6 a7 : AV} {z n : Int} (hc : ctg a7 = 1 := by rfl) (hd : decode cc pc = .ok (.iinc 8 n, 3)) (hn : 8 < nL) (hq : pc + 3 = q) (k : V cc own nL ret R E q (a0 :: a1 :: a2 :: a3 :: a4 :: a5 :: a6 :: a7 :: aI (z + n) :: ls) st mem) : V cc own nL ret R E pc (a0 :: a1 :: a2 :: a3 :: a4 :: a5 :: a6 :: a7 :: aI z :: ls) st mem :=
  v_iinc (j := 8) hn (by intro w _ hw; cases hw; exact hc) rfl hd hq k
theorem v_ist9 {a0 a1 a2 a3 a4 a5 a6 a7 a8 x : AV} {z : Int} (hc : ctg a8 = 1 := by rfl) (hd : decode cc pc = .ok (.istore 9, 2)) (hn : 9 < nL) (hq : pc + 2 = q) (k : V cc own nL ret R E q (a0 :: a1 :: a2 :: a3 :: a4 :: a5 :: a6 :: a7 :: a8 :: aI z :: ls) st mem) : V cc own nL ret R E pc (a0 :: a1 :: a2 :: a3 :: a4 :: a5 :: a6 :: a7 :: a8 :: x :: ls) (aI z :: st) mem :=
  v_istore (j := 9) hn (by intro w _ hw; cases hw; exact hc) hd hq k
theorem v_ast9 {a0 a1 a2 a3 a4 a5 a6 a7 a8 x : AV} {z : Nat} (hc : ctg a8 = 1 := by rfl) (hd : decode cc pc = .ok (.astore 9, 2)) (hn : 9 < nL) (hq : pc + 2 = q) (k : V cc own nL ret R E q (a0 :: a1 :: a2 :: a3 :: a4 :: a5 :: a6 :: a7 :: a8 :: aR z :: ls) st mem) : V cc own nL ret R E pc (a0 :: a1 :: a2 :: a3 :: a4 :: a5 :: a6 :: a7 :: a8 :: x :: ls) (aR z :: st) mem :=
  v_astore (j := 9) hn (by intro w _ hw; cases hw; exact hc) hd hq k
theorem v_lst9 {a0 a1 a2 a3 a4 a5 a6 a7 a8 x x2 : AV} {z : Int} (hc : ctg a8 = 1 := by rfl) (hd : decode cc pc = .ok (.lstore 9, 2)) (hn : 9 + 1 < nL) (hq : pc + 2 = q) (k : V cc own nL ret R E q (a0 :: a1 :: a2 :: a3 :: a4 :: a5 :: a6 :: a7 :: a8 :: aL z :: aU :: ls) st mem) : V cc own nL ret R E pc (a0 :: a1 :: a2 :: a3 :: a4 :: a5 :: a6 :: a7 :: a8 :: x :: x2 :: ls) (aL z :: st) mem :=
  v_lstore (j := 9) hn (by intro w _ hw; cases hw; exact hc) hd hq k
theorem v_dst9 {a0 a1 a2 a3 a4 a5 a6 a7 a8 x x2 : AV} {z : UInt64} (hc : ctg a8 = 1 := by rfl) (hd : decode cc pc = .ok (.dstore 9, 2)) (hn : 9 + 1 < nL) (hq : pc + 2 = q) (k : V cc own nL ret R E q (a0 :: a1 :: a2 :: a3 :: a4 :: a5 :: a6 :: a7 :: a8 :: aD z :: aU :: ls) st mem) : V cc own nL ret R E pc (a0 :: a1 :: a2 :: a3 :: a4 :: a5 :: a6 :: a7 :: a8 :: x :: x2 :: ls) (aD z :: st) mem :=
  v_dstore (j := 9) hn (by intro w _ hw; cases hw; exact hc) hd hq k
theorem v_iinc9 {a0 a1 a2 a3 a4 a5 a6 a7 a8 : AV} {z n : Int} (hc : ctg a8 = 1 := by rfl) (hd : decode cc pc = .ok (.iinc 9 n, 3)) (hn : 9 < nL) (hq : pc + 3 = q) (k : V cc own nL ret R E q (a0 :: a1 :: a2 :: a3 :: a4 :: a5 :: a6 :: a7 :: a8 :: aI (z + n) :: ls) st mem) : V cc own nL ret R E pc (a0 :: a1 :: a2 :: a3 :: a4 :: a5 :: a6 :: a7 :: a8 :: aI z :: ls) st mem :=
  v_iinc (j := 9) hn (by intro w _ hw; cases hw; exact hc) rfl hd hq k
theorem v_ist10 {a0 a1 a2 a3 a4 a5 a6 a7 a8 a9 x : AV} {z : Int} (hc : ctg a9 = 1 := by rfl) (hd : decode cc pc = .ok (.istore 10, 2)) (hn : 10 < nL) (hq : pc + 2 = q) (k : V cc own nL ret R E q (a0 :: a1 :: a2 :: a3 :: a4 :: a5 :: a6 :: a7 :: a8 :: a9 :: aI z :: ls) st mem) : V cc own nL ret R E pc (a0 :: a1 :: a2 :: a3 :: a4 :: a5 :: a6 :: a7 :: a8 :: a9 :: x :: ls) (aI z :: st) mem :=
  v_istore (j := 10) hn (by intro w _ hw; cases hw; exact hc) hd hq k
theorem v_ast10 {a0 a1 a2 a3 a4 a5 a6 a7 a8 a9 x : AV} {z : Nat} (hc : ctg a9 = 1 := by rfl) (hd : decode cc pc = .ok (.astore 10, 2)) (hn : 10 < nL) (hq : pc + 2 = q) (k : V cc own nL ret R E q (a0 :: a1 :: a2 :: a3 :: a4 :: a5 :: a6 :: a7 :: a8 :: a9 :: aR z :: ls) st mem) : V cc own nL ret R E pc (a0 :: a1 :: a2 :: a3 :: a4 :: a5 :: a6 :: a7 :: a8 :: a9 :: x :: ls) (aR z :: st) mem :=
  v_astore (j := 10) hn (by intro w _ hw; cases hw; exact hc) hd hq k
theorem v_lst10 {a0 a1 a2 a3 a4 a5 a6 a7 a8 a9 x x2 : AV} {z : Int} (hc : ctg a9 = 1 := by rfl) (hd : decode cc pc = .ok (.lstore 10, 2)) (hn : 10 + 1 < nL) (hq : pc + 2 = q) (k : V cc own nL ret R E q (a0 :: a1 :: a2 :: a3 :: a4 :: a5 :: a6 :: a7 :: a8 :: a9 :: aL z :: aU :: ls) st mem) : V cc own nL ret R E pc (a0 :: a1 :: a2 :: a3 :: a4 :: a5 :: a6 :: a7 :: a8 :: a9 :: x :: x2 :: ls) (aL z :: st) mem :=
  v_lstore (j := 10) hn (by intro w _ hw; cases hw; exact hc) hd hq k
theorem v_dst10 {a0 a1 a2 a3 a4 a5 a6 a7 a8 a9 x x2 : AV} {z : UInt64} (hc : ctg a9 = 1 := by rfl) (hd : decode cc pc = .ok (.dstore 10, 2)) (hn : 10 + 1 < nL) (hq : pc + 2 = q) (k : V cc own nL ret R E q (a0 :: a1 :: a2 :: a3 :: a4 :: a5 :: a6 :: a7 :: a8 :: a9 :: aD z :: aU :: ls) st mem) : V cc own nL ret R E pc (a0 :: a1 :: a2 :: a3 :: a4 :: a5 :: a6 :: a7 :: a8 :: a9 :: x :: x2 :: ls) (aD z :: st) mem :=
  v_dstore (j := 10) hn (by intro w _ hw; cases hw; exact hc) hd hq k
theorem v_iinc10 {a0 a1 a2 a3 a4 a5 a6 a7 a8 a9 : AV} {z n : Int} (hc : ctg a9 = 1 := by rfl) (hd : decode cc pc = .ok (.iinc 10 n, 3)) (hn : 10 < nL) (hq : pc + 3 = q) (k : V cc own nL ret R E q (a0 :: a1 :: a2 :: a3 :: a4 :: a5 :: a6 :: a7 :: a8 :: a9 :: aI (z + n) :: ls) st mem) : V cc own nL ret R E pc (a0 :: a1 :: a2 :: a3 :: a4 :: a5 :: a6 :: a7 :: a8 :: a9 :: aI z :: ls) st mem :=
  v_iinc (j := 10) hn (by intro w _ hw; cases hw; exact hc) rfl hd hq k
theorem v_ist11 {a0 a1 a2 a3 a4 a5 a6 a7 a8 a9 a10 x : AV} {z : Int} (hc : ctg a10 = 1 := by rfl) (hd : decode cc pc = .ok (.istore 11, 2)) (hn : 11 < nL) (hq : pc + 2 = q) (k : V cc own nL ret R E q (a0 :: a1 :: a2 :: a3 :: a4 :: a5 :: a6 :: a7 :: a8 :: a9 :: a10 :: aI z :: ls) st mem) : V cc own nL ret R E pc (a0 :: a1 :: a2 :: a3 :: a4 :: a5 :: a6 :: a7 :: a8 :: a9 :: a10 :: x :: ls) (aI z :: st) mem :=
  v_istore (j := 11) hn (by intro w _ hw; cases hw; exact hc) hd hq k
theorem v_ast11 {a0 a1 a2 a3 a4 a5 a6 a7 a8 a9 a10 x : AV} {z : Nat} (hc : ctg a10 = 1 := by rfl) (hd : decode cc pc = .ok (.astore 11, 2)) (hn : 11 < nL) (hq : pc + 2 = q) (k : V cc own nL ret R E q (a0 :: a1 :: a2 :: a3 :: a4 :: a5 :: a6 :: a7 :: a8 :: a9 :: a10 :: aR z :: ls) st mem) : V cc own nL ret R E pc (a0 :: a1 :: a2 :: a3 :: a4 :: a5 :: a6 :: a7 :: a8 :: a9 :: a10 :: x :: ls) (aR z :: st) mem :=
  v_astore (j := 11) hn (by intro w _ hw; cases hw; exact hc) hd hq k
theorem v_lst11 {a0 a1 a2 a3 a4 a5 a6 a7 a8 a9 a10 x x2 : AV} {z : Int} (hc : ctg a10 = 1 := by rfl) (hd : decode cc pc = .ok (.lstore 11, 2)) (hn : 11 + 1 < nL) (hq : pc + 2 = q) (k : V cc own nL ret R E q (a0 :: a1 :: a2 :: a3 :: a4 :: a5 :: a6 :: a7 :: a8 :: a9 :: a10 :: aL z :: aU :: ls) st mem) : V cc own nL ret R E pc (a0 :: a1 :: a2 :: a3 :: a4 :: a5 :: a6 :: a7 :: a8 :: a9 :: a10 :: x :: x2 :: ls) (aL z :: st) mem :=
  v_lstore (j := 11) hn (by intro w _ hw; cases hw; exact hc) hd hq k
theorem v_dst11 {a0 a1 a2 a3 a4 a5 a6 a7 a8 a9 a10 x x2 : AV} {z : UInt64} (hc : ctg a10 = 1 := by rfl) (hd : decode cc pc = .ok (.dstore 11, 2)) (hn : 11 + 1 < nL) (hq : pc + 2 = q) (k : V cc own nL ret R E q (a0 :: a1 :: a2 :: a3 :: a4 :: a5 :: a6 :: a7 :: a8 :: a9 :: a10 :: aD z :: aU :: ls) st mem) : V cc own nL ret R E pc (a0 :: a1 :: a2 :: a3 :: a4 :: a5 :: a6 :: a7 :: a8 :: a9 :: a10 :: x :: x2 :: ls) (aD z :: st) mem :=
  v_dstore (j := 11) hn (by intro w _ hw; cases hw; exact hc) hd hq k
theorem v_iinc11 {a0 a1 a2 a3 a4 a5 a6 a7 a8 a9 a10 : AV} {z n : Int} (hc : ctg a10 = 1 := by rfl) (hd : decode cc pc = .ok (.iinc 11 n, 3)) (hn : 11 < nL) (hq : pc + 3 = q) (k : V cc own nL ret R E q (a0 :: a1 :: a2 :: a3 :: a4 :: a5 :: a6 :: a7 :: a8 :: a9 :: a10 :: aI (z + n) :: ls) st mem) : V cc own nL ret R E pc (a0 :: a1 :: a2 :: a3 :: a4 :: a5 :: a6 :: a7 :: a8 :: a9 :: a10 :: aI z :: ls) st mem :=
  v_iinc (j := 11) hn (by intro w _ hw; cases hw; exact hc) rfl hd hq k
theorem v_ist12 {a0 a1 a2 a3 a4 a5 a6 a7 a8 a9 a10 a11 x : AV} {z : Int} (hc : ctg a11 = 1 := by rfl) (hd : decode cc pc = .ok (.istore 12, 2)) (hn : 12 < nL) (hq : pc + 2 = q) (k : V cc own nL ret R E q (a0 :: a1 :: a2 :: a3 :: a4 :: a5 :: a6 :: a7 :: a8 :: a9 :: a10 :: a11 :: aI z :: ls) st mem) : V cc own nL ret R E pc (a0 :: a1 :: a2 :: a3 :: a4 :: a5 :: a6 :: a7 :: a8 :: a9 :: a10 :: a11 :: x :: ls) (aI z :: st) mem :=
  v_istore (j := 12) hn (by intro w _ hw; cases hw; exact hc) hd hq k
theorem v_ast12 {a0 a1 a2 a3 a4 a5 a6 a7 a8 a9 a10 a11 x : AV} {z : Nat} (hc : ctg a11 = 1 := by rfl) (hd : decode cc pc = .ok (.astore 12, 2)) (hn : 12 < nL) (hq : pc + 2 = q) (k : V cc own nL ret R E q (a0 :: a1 :: a2 :: a3 :: a4 :: a5 :: a6 :: a7 :: a8 :: a9 :: a10 :: a11 :: aR z :: ls) st mem) : V cc own nL ret R E pc (a0 :: a1 :: a2 :: a3 :: a4 :: a5 :: a6 :: a7 :: a8 :: a9 :: a10 :: a11 :: x :: ls) (aR z :: st) mem :=
  v_astore (j := 12) hn (by intro w _ hw; cases hw; exact hc) hd hq k
theorem v_lst12 {a0 a1 a2 a3 a4 a5 a6 a7 a8 a9 a10 a11 x x2 : AV} {z : Int} (hc : ctg a11 = 1 := by rfl) (hd : decode cc pc = .ok (.lstore 12, 2)) (hn : 12 + 1 < nL) (hq : pc + 2 = q) (k : V cc own nL ret R E q (a0 :: a1 :: a2 :: a3 :: a4 :: a5 :: a6 :: a7 :: a8 :: a9 :: a10 :: a11 :: aL z :: aU :: ls) st mem) : V cc own nL ret R E pc (a0 :: a1 :: a2 :: a3 :: a4 :: a5 :: a6 :: a7 :: a8 :: a9 :: a10 :: a11 :: x :: x2 :: ls) (aL z :: st) mem :=
  v_lstore (j := 12) hn (by intro w _ hw; cases hw; exact hc) hd hq k
theorem v_dst12 {a0 a1 a2 a3 a4 a5 a6 a7 a8 a9 a10 a11 x x2 : AV} {z : UInt64} (hc : ctg a11 = 1 := by rfl) (hd : decode cc pc = .ok (.dstore 12, 2)) (hn : 12 + 1 < nL) (hq : pc + 2 = q) (k : V cc own nL ret R E q (a0 :: a1 :: a2 :: a3 :: a4 :: a5 :: a6 :: a7 :: a8 :: a9 :: a10 :: a11 :: aD z :: aU :: ls) st mem) : V cc own nL ret R E pc (a0 :: a1 :: a2 :: a3 :: a4 :: a5 :: a6 :: a7 :: a8 :: a9 :: a10 :: a11 :: x :: x2 :: ls) (aD z :: st) mem :=
  v_dstore (j := 12) hn (by intro w _ hw; cases hw; exact hc) hd hq k
theorem v_iinc12 {a0 a1 a2 a3 a4 a5 a6 a7 a8 a9 a10 a11 : AV} {z n : Int} (hc : ctg a11 = 1 := by rfl) (hd : decode cc pc = .ok (.iinc 12 n, 3)) (hn : 12 < nL) (hq : pc + 3 = q) (k : V cc own nL ret R E q (a0 :: a1 :: a2 :: a3 :: a4 :: a5 :: a6 :: a7 :: a8 :: a9 :: a10 :: a11 :: aI (z + n) :: ls) st mem) : V cc own nL ret R E pc (a0 :: a1 :: a2 :: a3 :: a4 :: a5 :: a6 :: a7 :: a8 :: a9 :: a10 :: a11 :: aI z :: ls) st mem :=
  v_iinc (j := 12) hn (by intro w _ hw; cases hw; exact hc) rfl hd hq k
theorem v_ist13 {a0 a1 a2 a3 a4 a5 a6 a7 a8 a9 a10 a11 a12 x : AV} {z : Int} (hc : ctg a12 = 1 := by rfl) (hd : decode cc pc = .ok (.istore 13, 2)) (hn : 13 < nL) (hq : pc + 2 = q) (k : V cc own nL ret R E q (a0 :: a1 :: a2 :: a3 :: a4 :: a5 :: a6 :: a7 :: a8 :: a9 :: a10 :: a11 :: a12 :: aI z :: ls) st mem) : V cc own nL ret R E pc (a0 :: a1 :: a2 :: a3 :: a4 :: a5 :: a6 :: a7 :: a8 :: a9 :: a10 :: a11 :: a12 :: x :: ls) (aI z :: st) mem :=
  v_istore (j := 13) hn (by intro w _ hw; cases hw; exact hc) hd hq k
theorem v_ast13 {a0 a1 a2 a3 a4 a5 a6 a7 a8 a9 a10 a11 a12 x : AV} {z : Nat} (hc : ctg a12 = 1 := by rfl) (hd : decode cc pc = .ok (.astore 13, 2)) (hn : 13 < nL) (hq : pc + 2 = q) (k : V cc own nL ret R E q (a0 :: a1 :: a2 :: a3 :: a4 :: a5 :: a6 :: a7 :: a8 :: a9 :: a10 :: a11 :: a12 :: aR z :: ls) st mem) : V cc own nL ret R E pc (a0 :: a1 :: a2 :: a3 :: a4 :: a5 :: a6 :: a7 :: a8 :: a9 :: a10 :: a11 :: a12 :: x :: ls) (aR z :: st) mem :=
  v_astore (j := 13) hn (by intro w _ hw; cases hw; exact hc) hd hq k
theorem v_lst13 {a0 a1 a2 a3 a4 a5 a6 a7 a8 a9 a10 a11 a12 x x2 : AV} {z : Int} (hc : ctg a12 = 1 := by rfl) (hd : decode cc pc = .ok (.lstore 13, 2)) (hn : 13 + 1 < nL) (hq : pc + 2 = q) (k : V cc own nL ret R E q (a0 :: a1 :: a2 :: a3 :: a4 :: a5 :: a6 :: a7 :: a8 :: a9 :: a10 :: a11 :: a12 :: aL z :: aU :: ls) st mem) : V cc own nL ret R E pc (a0 :: a1 :: a2 :: a3 :: a4 :: a5 :: a6 :: a7 :: a8 :: a9 :: a10 :: a11 :: a12 :: x :: x2 :: ls) (aL z :: st) mem :=
  v_lstore (j := 13) hn (by intro w _ hw; cases hw; exact hc) hd hq k
theorem v_dst13 {a0 a1 a2 a3 a4 a5 a6 a7 a8 a9 a10 a11 a12 x x2 : AV} {z : UInt64} (hc : ctg a12 = 1 := by rfl) (hd : decode cc pc = .ok (.dstore 13, 2)) (hn : 13 + 1 < nL) (hq : pc + 2 = q) (k : V cc own nL ret R E q (a0 :: a1 :: a2 :: a3 :: a4 :: a5 :: a6 :: a7 :: a8 :: a9 :: a10 :: a11 :: a12 :: aD z :: aU :: ls) st mem) : V cc own nL ret R E pc (a0 :: a1 :: a2 :: a3 :: a4 :: a5 :: a6 :: a7 :: a8 :: a9 :: a10 :: a11 :: a12 :: x :: x2 :: ls) (aD z :: st) mem :=
  v_dstore (j := 13) hn (by intro w _ hw; cases hw; exact hc) hd hq k
theorem v_iinc13 {a0 a1 a2 a3 a4 a5 a6 a7 a8 a9 a10 a11 a12 : AV} {z n : Int} (hc : ctg a12 = 1 := by rfl) (hd : decode cc pc = .ok (.iinc 13 n, 3)) (hn : 13 < nL) (hq : pc + 3 = q) (k : V cc own nL ret R E q (a0 :: a1 :: a2 :: a3 :: a4 :: a5 :: a6 :: a7 :: a8 :: a9 :: a10 :: a11 :: a12 :: aI (z + n) :: ls) st mem) : V cc own nL ret R E pc (a0 :: a1 :: a2 :: a3 :: a4 :: a5 :: a6 :: a7 :: a8 :: a9 :: a10 :: a11 :: a12 :: aI z :: ls) st mem :=
  v_iinc (j := 13) hn (by intro w _ hw; cases hw; exact hc) rfl hd hq k
theorem v_iadd {a b : Int} (hd : decode cc pc = .ok (.iadd, 1)) (hq : pc + 1 = q) (k : V cc own nL ret R E q ls (aI (a + b) :: st) mem) : V cc own nL ret R E pc ls (aI b :: aI a :: st) mem := by
  subst hq
  intro p l e s m args below meth c G ad H locs la hC hP hS hl
  refine lv_iadd hC.1.1 hC.1.2.1 hd ?_
  rw [← Int32.ofInt_add]
  exact k p l e s m args below meth c G ad H locs la hC hP hS hl
theorem v_isub {a b : Int} (hd : decode cc pc = .ok (.isub, 1)) (hq : pc + 1 = q) (k : V cc own nL ret R E q ls (aI (a - b) :: st) mem) : V cc own nL ret R E pc ls (aI b :: aI a :: st) mem := by
  subst hq
  intro p l e s m args below meth c G ad H locs la hC hP hS hl
  refine lv_isub hC.1.1 hC.1.2.1 hd ?_
  rw [← Int32.ofInt_sub]
  exact k p l e s m args below meth c G ad H locs la hC hP hS hl
theorem v_imul {a b : Int} (hd : decode cc pc = .ok (.imul, 1)) (hq : pc + 1 = q) (k : V cc own nL ret R E q ls (aI (a * b) :: st) mem) : V cc own nL ret R E pc ls (aI b :: aI a :: st) mem := by
  subst hq
  intro p l e s m args below meth c G ad H locs la hC hP hS hl
  refine lv_imul hC.1.1 hC.1.2.1 hd ?_
  rw [← Int32.ofInt_mul]
  exact k p l e s m args below meth c G ad H locs la hC hP hS hl
theorem v_ladd {a b : Int} (hd : decode cc pc = .ok (.ladd, 1)) (hq : pc + 1 = q) (k : V cc own nL ret R E q ls (aL (a + b) :: st) mem) : V cc own nL ret R E pc ls (aL b :: aL a :: st) mem := by
  subst hq
  intro p l e s m args below meth c G ad H locs la hC hP hS hl
  refine lv_ladd hC.1.1 hC.1.2.1 hd ?_
  rw [← Int64.ofInt_add]
  exact k p l e s m args below meth c G ad H locs la hC hP hS hl
theorem v_lsub {a b : Int} (hd : decode cc pc = .ok (.lsub, 1)) (hq : pc + 1 = q) (k : V cc own nL ret R E q ls (aL (a - b) :: st) mem) : V cc own nL ret R E pc ls (aL b :: aL a :: st) mem := by
  subst hq
  intro p l e s m args below meth c G ad H locs la hC hP hS hl
  refine lv_lsub hC.1.1 hC.1.2.1 hd ?_
  rw [← Int64.ofInt_sub]
  exact k p l e s m args below meth c G ad H locs la hC hP hS hl
theorem v_lmul {a b : Int} (hd : decode cc pc = .ok (.lmul, 1)) (hq : pc + 1 = q) (k : V cc own nL ret R E q ls (aL (a * b) :: st) mem) : V cc own nL ret R E pc ls (aL b :: aL a :: st) mem := by
  subst hq
  intro p l e s m args below meth c G ad H locs la hC hP hS hl
  refine lv_lmul hC.1.1 hC.1.2.1 hd ?_
  rw [← Int64.ofInt_mul]
  exact k p l e s m args below meth c G ad H locs la hC hP hS hl
theorem v_iand {a b z : Int} (hz : (Int32.ofInt a) &&& (Int32.ofInt b) = Int32.ofInt z) (hd : decode cc pc = .ok (.iand, 1)) (hq : pc + 1 = q) (k : V cc own nL ret R E q ls (aI z :: st) mem) : V cc own nL ret R E pc ls (aI b :: aI a :: st) mem := by
  subst hq
  intro p l e s m args below meth c G ad H locs la hC hP hS hl
  refine lv_iand hC.1.1 hC.1.2.1 hd ?_
  rw [hz]
  exact k p l e s m args below meth c G ad H locs la hC hP hS hl
theorem v_ior {a b z : Int} (hz : (Int32.ofInt a) ||| (Int32.ofInt b) = Int32.ofInt z) (hd : decode cc pc = .ok (.ior, 1)) (hq : pc + 1 = q) (k : V cc own nL ret R E q ls (aI z :: st) mem) : V cc own nL ret R E pc ls (aI b :: aI a :: st) mem := by
  subst hq
  intro p l e s m args below meth c G ad H locs la hC hP hS hl
  refine lv_ior hC.1.1 hC.1.2.1 hd ?_
  rw [hz]
  exact k p l e s m args below meth c G ad H locs la hC hP hS hl
theorem v_ishl {a b z : Int} (hz : (Int32.ofInt a) <<< ((Int32.ofInt b) &&& 31) = Int32.ofInt z) (hd : decode cc pc = .ok (.ishl, 1)) (hq : pc + 1 = q) (k : V cc own nL ret R E q ls (aI z :: st) mem) : V cc own nL ret R E pc ls (aI b :: aI a :: st) mem := by
  subst hq
  intro p l e s m args below meth c G ad H locs la hC hP hS hl
  refine lv_ishl hC.1.1 hC.1.2.1 hd ?_
  rw [hz]
  exact k p l e s m args below meth c G ad H locs la hC hP hS hl
theorem v_ishr {a b z : Int} (hz : (Int32.ofInt a) >>> ((Int32.ofInt b) &&& 31) = Int32.ofInt z) (hd : decode cc pc = .ok (.ishr, 1)) (hq : pc + 1 = q) (k : V cc own nL ret R E q ls (aI z :: st) mem) : V cc own nL ret R E pc ls (aI b :: aI a :: st) mem := by
  subst hq
  intro p l e s m args below meth c G ad H locs la hC hP hS hl
  refine lv_ishr hC.1.1 hC.1.2.1 hd ?_
  rw [hz]
  exact k p l e s m args below meth c G ad H locs la hC hP hS hl
theorem i32_div {a b : Int} (ha : 0 ≤ a ∧ a ≤ 2147483647) (hb : 0 < b ∧ b ≤ 2147483647) : Int32.ofInt a / Int32.ofInt b = Int32.ofInt (a / b) := by
  apply Int32.toInt_inj.mp
  have h1 : a / b ≤ a := Int.ediv_le_self _ ha.1
  have h2 : 0 ≤ a / b := Int.ediv_nonneg ha.1 (by omega)
  rw [i32 (by omega), Int32.toInt_div_of_ne_left, i32 (by omega), i32 (by omega), Int.tdiv_eq_ediv_of_nonneg ha.1]
  intro h
  have h3 := congrArg Int32.toInt h
  rw [i32 (by omega)] at h3
  have h4 : Int32.minValue.toInt = -2147483648 := by decide
  omega
theorem i64_div {a b : Int} (ha : 0 ≤ a ∧ a ≤ 9223372036854775807) (hb : 0 < b ∧ b ≤ 9223372036854775807) : Int64.ofInt a / Int64.ofInt b = Int64.ofInt (a / b) := by
  apply Int64.toInt_inj.mp
  have h1 : a / b ≤ a := Int.ediv_le_self _ ha.1
  have h2 : 0 ≤ a / b := Int.ediv_nonneg ha.1 (by omega)
  rw [i64 (by omega), Int64.toInt_div_of_ne_left, i64 (by omega), i64 (by omega), Int.tdiv_eq_ediv_of_nonneg ha.1]
  intro h
  have h3 := congrArg Int64.toInt h
  rw [i64 (by omega)] at h3
  have h4 : Int64.minValue.toInt = -9223372036854775808 := by decide
  omega
theorem v_idiv {a b : Int} (ha : 0 ≤ a ∧ a ≤ 2147483647) (hb : 0 < b ∧ b ≤ 2147483647) (hd : decode cc pc = .ok (.idiv, 1)) (hq : pc + 1 = q) (k : V cc own nL ret R E q ls (aI (a / b) :: st) mem) : V cc own nL ret R E pc ls (aI b :: aI a :: st) mem := by
  subst hq
  intro p l e s m args below meth c G ad H locs la hC hP hS hl
  have h0 : ¬ Int32.ofInt b = 0 := by
    intro h
    have h3 := congrArg Int32.toInt h
    rw [i32 (by omega)] at h3
    have h4 : (0 : Int32).toInt = 0 := by decide
    omega
  refine lv_idiv hC.1.1 hC.1.2.1 hd h0 ?_
  rw [i32_div ha hb]
  exact k p l e s m args below meth c G ad H locs la hC hP hS hl
theorem v_irem {a b : Int} (ha : 0 ≤ a ∧ a ≤ 2147483647) (hb : 0 < b ∧ b ≤ 2147483647) (hd : decode cc pc = .ok (.irem, 1)) (hq : pc + 1 = q) (k : V cc own nL ret R E q ls (aI (a % b) :: st) mem) : V cc own nL ret R E pc ls (aI b :: aI a :: st) mem := by
  subst hq
  intro p l e s m args below meth c G ad H locs la hC hP hS hl
  have h0 : ¬ Int32.ofInt b = 0 := by
    intro h
    have h3 := congrArg Int32.toInt h
    rw [i32 (by omega)] at h3
    have h4 : (0 : Int32).toInt = 0 := by decide
    omega
  refine lv_irem hC.1.1 hC.1.2.1 hd h0 ?_
  rw [i32_div ha hb, ← Int32.ofInt_mul, ← Int32.ofInt_sub, show a - a / b * b = a % b by rw [Int.emod_def, Int.mul_comm]]
  exact k p l e s m args below meth c G ad H locs la hC hP hS hl
theorem v_ldiv {a b : Int} (ha : 0 ≤ a ∧ a ≤ 9223372036854775807) (hb : 0 < b ∧ b ≤ 9223372036854775807) (hd : decode cc pc = .ok (.ldiv, 1)) (hq : pc + 1 = q) (k : V cc own nL ret R E q ls (aL (a / b) :: st) mem) : V cc own nL ret R E pc ls (aL b :: aL a :: st) mem := by
  subst hq
  intro p l e s m args below meth c G ad H locs la hC hP hS hl
  have h0 : ¬ Int64.ofInt b = 0 := by
    intro h
    have h3 := congrArg Int64.toInt h
    rw [i64 (by omega)] at h3
    have h4 : (0 : Int64).toInt = 0 := by decide
    omega
  refine lv_ldiv hC.1.1 hC.1.2.1 hd h0 ?_
  rw [i64_div ha hb]
  exact k p l e s m args below meth c G ad H locs la hC hP hS hl
theorem v_lrem {a b : Int} (ha : 0 ≤ a ∧ a ≤ 9223372036854775807) (hb : 0 < b ∧ b ≤ 9223372036854775807) (hd : decode cc pc = .ok (.lrem, 1)) (hq : pc + 1 = q) (k : V cc own nL ret R E q ls (aL (a % b) :: st) mem) : V cc own nL ret R E pc ls (aL b :: aL a :: st) mem := by
  subst hq
  intro p l e s m args below meth c G ad H locs la hC hP hS hl
  have h0 : ¬ Int64.ofInt b = 0 := by
    intro h
    have h3 := congrArg Int64.toInt h
    rw [i64 (by omega)] at h3
    have h4 : (0 : Int64).toInt = 0 := by decide
    omega
  refine lv_lrem hC.1.1 hC.1.2.1 hd h0 ?_
  rw [i64_div ha hb, ← Int64.ofInt_mul, ← Int64.ofInt_sub, show a - a / b * b = a % b by rw [Int.emod_def, Int.mul_comm]]
  exact k p l e s m args below meth c G ad H locs la hC hP hS hl
theorem v_i2l {a : Int} (ha : R32 a) (hd : decode cc pc = .ok (.i2l, 1)) (hq : pc + 1 = q) (k : V cc own nL ret R E q ls (aL a :: st) mem) : V cc own nL ret R E pc ls (aI a :: st) mem := by
  subst hq
  intro p l e s m args below meth c G ad H locs la hC hP hS hl
  refine lv_i2l hC.1.1 hC.1.2.1 hd (v := Int64.ofInt a) ?_ (k p l e s m args below meth c G ad H locs la hC hP hS hl)
  apply Int64.toInt_inj.mp
  rw [Int32.toInt_toInt64, i32 ha, i64 (by omega)]
theorem v_l2i {a : Int} (ha : R32 a) (hd : decode cc pc = .ok (.l2i, 1)) (hq : pc + 1 = q) (k : V cc own nL ret R E q ls (aI a :: st) mem) : V cc own nL ret R E pc ls (aL a :: st) mem := by
  subst hq
  intro p l e s m args below meth c G ad H locs la hC hP hS hl
  refine lv_l2i hC.1.1 hC.1.2.1 hd (v := Int32.ofInt a) ?_ (k p l e s m args below meth c G ad H locs la hC hP hS hl)
  apply Int32.toInt_inj.mp
  rw [Int64.toInt_toInt32, i32 ha, i64 (by omega), Int.bmod_def]
  omega
theorem v_lsh {a z : Int} {b : Int} (hz : Int64.ofInt a <<< ((Int32.ofInt b).toInt64 &&& 63) = Int64.ofInt z) (hd : decode cc pc = .ok (.lshl, 1)) (hq : pc + 1 = q) (k : V cc own nL ret R E q ls (aL z :: st) mem) : V cc own nL ret R E pc ls (aI b :: aL a :: st) mem := by
  subst hq
  intro p l e s m args below meth c G ad H locs la hC hP hS hl
  exact lv_lshl hC.1.1 hC.1.2.1 hd hz (k p l e s m args below meth c G ad H locs la hC hP hS hl)
theorem v_lshr {a z : Int} {b : Int} (hz : Int64.ofInt a >>> ((Int32.ofInt b).toInt64 &&& 63) = Int64.ofInt z) (hd : decode cc pc = .ok (.lshr, 1)) (hq : pc + 1 = q) (k : V cc own nL ret R E q ls (aL z :: st) mem) : V cc own nL ret R E pc ls (aI b :: aL a :: st) mem := by
  subst hq
  intro p l e s m args below meth c G ad H locs la hC hP hS hl
  exact lv_lshr hC.1.1 hC.1.2.1 hd hz (k p l e s m args below meth c G ad H locs la hC hP hS hl)
theorem v_land {a b z : Int} (hz : Int64.ofInt a &&& Int64.ofInt b = Int64.ofInt z) (hd : decode cc pc = .ok (.land, 1)) (hq : pc + 1 = q) (k : V cc own nL ret R E q ls (aL z :: st) mem) : V cc own nL ret R E pc ls (aL b :: aL a :: st) mem := by
  subst hq
  intro p l e s m args below meth c G ad H locs la hC hP hS hl
  refine lv_land hC.1.1 hC.1.2.1 hd ?_
  rw [hz]
  exact k p l e s m args below meth c G ad H locs la hC hP hS hl
theorem v_i2f {a : Int} (hd : decode cc pc = .ok (.i2f, 1)) (hq : pc + 1 = q) (k : V cc own nL ret R E q ls (aF (FP.i2f (Int32.ofInt a)) :: st) mem) : V cc own nL ret R E pc ls (aI a :: st) mem := by
  subst hq
  intro p l e s m args below meth c G ad H locs la hC hP hS hl
  exact lv_i2f hC.1.1 hC.1.2.1 hd (k p l e s m args below meth c G ad H locs la hC hP hS hl)
theorem v_fdiv {x y : UInt32} (hn : vf_n32 (FP.fdiv x y)) (hd : decode cc pc = .ok (.fdiv, 1)) (hq : pc + 1 = q) (k : V cc own nL ret R E q ls (aF (FP.fdiv x y) :: st) mem) : V cc own nL ret R E pc ls (aF y :: aF x :: st) mem := by
  subst hq
  intro p l e s m args below meth c G ad H locs la hC hP hS hl
  exact lv_fdiv hC.1.1 hC.1.2.1 hd hn (k p l e s m args below meth c G ad H locs la hC hP hS hl)
theorem v_f2d {x : UInt32} (hn : vf_n64 (FP.f2d x)) (hd : decode cc pc = .ok (.f2d, 1)) (hq : pc + 1 = q) (k : V cc own nL ret R E q ls (aD (FP.f2d x) :: st) mem) : V cc own nL ret R E pc ls (aF x :: st) mem := by
  subst hq
  intro p l e s m args below meth c G ad H locs la hC hP hS hl
  exact lv_f2d hC.1.1 hC.1.2.1 hd hn (k p l e s m args below meth c G ad H locs la hC hP hS hl)
theorem v_dcmp {x y : UInt64} {op : CmpOp} {z : Int} (hz : Op.cmpValue (FP.dcmp x y) op = Int32.ofInt z) (hd : decode cc pc = .ok (.dcmp op, 1)) (hq : pc + 1 = q) (k : V cc own nL ret R E q ls (aI z :: st) mem) : V cc own nL ret R E pc ls (aD y :: aD x :: st) mem := by
  subst hq
  intro p l e s m args below meth c G ad H locs la hC hP hS hl
  refine lv_dcmp hC.1.1 hC.1.2.1 hd ?_
  rw [hz]
  exact k p l e s m args below meth c G ad H locs la hC hP hS hl
theorem v_dup {v : AV} (hv : ctg v = 1) (hd : decode cc pc = .ok (.dup, 1)) (hq : pc + 1 = q) (k : V cc own nL ret R E q ls (v :: v :: st) mem) : V cc own nL ret R E pc ls (v :: st) mem := by
  subst hq
  intro p l e s m args below meth c G ad H locs la hC hP hS hl
  exact lv_dup hC.1.1 hC.1.2.1 hd (by rw [cv_ctg]; exact hv) (k p l e s m args below meth c G ad H locs la hC hP hS hl)
theorem v_pop {v : AV} (hv : ctg v = 1) (hd : decode cc pc = .ok (.pop, 1)) (hq : pc + 1 = q) (k : V cc own nL ret R E q ls st mem) : V cc own nL ret R E pc ls (v :: st) mem := by
  subst hq
  intro p l e s m args below meth c G ad H locs la hC hP hS hl
  exact lv_pop hC.1.1 hC.1.2.1 hd (by rw [cv_ctg]; exact hv) (k p l e s m args below meth c G ad H locs la hC hP hS hl)
theorem v_pop2 {v : AV} (hv : ctg v = 2) (hd : decode cc pc = .ok (.pop2, 1)) (hq : pc + 1 = q) (k : V cc own nL ret R E q ls st mem) : V cc own nL ret R E pc ls (v :: st) mem := by
  subst hq
  intro p l e s m args below meth c G ad H locs la hC hP hS hl
  exact lv_pop2_2 hC.1.1 hC.1.2.1 hd (by rw [cv_ctg]; exact hv) (k p l e s m args below meth c G ad H locs la hC hP hS hl)
theorem v_dup2 {v w : AV} (hv : ctg v = 1) (hw : ctg w = 1) (hd : decode cc pc = .ok (.dup2, 1)) (hq : pc + 1 = q) (k : V cc own nL ret R E q ls (v :: w :: v :: w :: st) mem) : V cc own nL ret R E pc ls (v :: w :: st) mem := by
  subst hq
  intro p l e s m args below meth c G ad H locs la hC hP hS hl
  exact lv_dup2_11 hC.1.1 hC.1.2.1 hd (by rw [cv_ctg]; exact hv) (by rw [cv_ctg]; exact hw) (k p l e s m args below meth c G ad H locs la hC hP hS hl)
theorem v_dup2l {v : AV} (hv : ctg v = 2) (hd : decode cc pc = .ok (.dup2, 1)) (hq : pc + 1 = q) (k : V cc own nL ret R E q ls (v :: v :: st) mem) : V cc own nL ret R E pc ls (v :: st) mem := by
  subst hq
  intro p l e s m args below meth c G ad H locs la hC hP hS hl
  exact lv_dup2_2 hC.1.1 hC.1.2.1 hd (by rw [cv_ctg]; exact hv) (k p l e s m args below meth c G ad H locs la hC hP hS hl)
theorem v_goto {off : Int} (hd : decode cc pc = .ok (.goto off, 3)) (hq : (pc : Int) + off = (q : Int)) (k : V cc own nL ret R E q ls st mem) : V cc own nL ret R E pc ls st mem := by
  intro p l e s m args below meth c G ad H locs la hC hP hS hl
  exact lv_goto hC.1.1 hC.1.2.1 hd hq (k p l e s m args below meth c G ad H locs la hC hP hS hl)
theorem v_icmp_eq {a b : Int} {off : Int} {tgt : Nat} (hd : decode cc pc = .ok (.if_icmp .eq off, 3)) (ht : (pc : Int) + off = (tgt : Int)) (hq : pc + 3 = q) (ha : R32 a) (hb : R32 b) (kt : a = b → V cc own nL ret R E tgt ls st mem) (kf : ¬ (a = b) → V cc own nL ret R E q ls st mem) : V cc own nL ret R E pc ls (aI b :: aI a :: st) mem := by
  subst hq
  intro p l e s m args below meth c G ad H locs la hC hP hS hl
  have hq2 := i32_eq ha hb
  have hc : _ ↔ (a = b) := i32_eq ha hb
  exact lv_icmp_eq hC.1.1 hC.1.2.1 hd ht (fun h => kt (hc.mp h) p l e s m args below meth c G ad H locs la hC hP hS hl) (fun h => kf (fun h2 => h (hc.mpr h2)) p l e s m args below meth c G ad H locs la hC hP hS hl)
theorem v_if_eq {a : Int} {off : Int} {tgt : Nat} (hd : decode cc pc = .ok (.ifCond .eq off, 3)) (ht : (pc : Int) + off = (tgt : Int)) (hq : pc + 3 = q) (ha : R32 a) (kt : a = 0 → V cc own nL ret R E tgt ls st mem) (kf : ¬ (a = 0) → V cc own nL ret R E q ls st mem) : V cc own nL ret R E pc ls (aI a :: st) mem := by
  subst hq
  intro p l e s m args below meth c G ad H locs la hC hP hS hl
  have h0 : R32 0 := by omega
  have hq2 := i32_eq ha h0
  have hc : _ ↔ (a = 0) := i32_eq ha h0
  exact lv_if_eq hC.1.1 hC.1.2.1 hd ht (fun h => kt (hc.mp h) p l e s m args below meth c G ad H locs la hC hP hS hl) (fun h => kf (fun h2 => h (hc.mpr h2)) p l e s m args below meth c G ad H locs la hC hP hS hl)
theorem v_icmp_ne {a b : Int} {off : Int} {tgt : Nat} (hd : decode cc pc = .ok (.if_icmp .ne off, 3)) (ht : (pc : Int) + off = (tgt : Int)) (hq : pc + 3 = q) (ha : R32 a) (hb : R32 b) (kt : ¬ a = b → V cc own nL ret R E tgt ls st mem) (kf : a = b → V cc own nL ret R E q ls st mem) : V cc own nL ret R E pc ls (aI b :: aI a :: st) mem := by
  subst hq
  intro p l e s m args below meth c G ad H locs la hC hP hS hl
  have hq2 := i32_eq ha hb
  have hc : _ ↔ (¬ a = b) := not_congr (i32_eq ha hb)
  exact lv_icmp_ne hC.1.1 hC.1.2.1 hd ht (fun h => kt (hc.mp h) p l e s m args below meth c G ad H locs la hC hP hS hl) (fun h => kf (hq2.mp h) p l e s m args below meth c G ad H locs la hC hP hS hl)
theorem v_if_ne {a : Int} {off : Int} {tgt : Nat} (hd : decode cc pc = .ok (.ifCond .ne off, 3)) (ht : (pc : Int) + off = (tgt : Int)) (hq : pc + 3 = q) (ha : R32 a) (kt : ¬ a = 0 → V cc own nL ret R E tgt ls st mem) (kf : a = 0 → V cc own nL ret R E q ls st mem) : V cc own nL ret R E pc ls (aI a :: st) mem := by
  subst hq
  intro p l e s m args below meth c G ad H locs la hC hP hS hl
  have h0 : R32 0 := by omega
  have hq2 := i32_eq ha h0
  have hc : _ ↔ (¬ a = 0) := not_congr (i32_eq ha h0)
  exact lv_if_ne hC.1.1 hC.1.2.1 hd ht (fun h => kt (hc.mp h) p l e s m args below meth c G ad H locs la hC hP hS hl) (fun h => kf (hq2.mp h) p l e s m args below meth c G ad H locs la hC hP hS hl)
theorem v_icmp_lt {a b : Int} {off : Int} {tgt : Nat} (hd : decode cc pc = .ok (.if_icmp .lt off, 3)) (ht : (pc : Int) + off = (tgt : Int)) (hq : pc + 3 = q) (ha : R32 a) (hb : R32 b) (kt : a < b → V cc own nL ret R E tgt ls st mem) (kf : ¬ (a < b) → V cc own nL ret R E q ls st mem) : V cc own nL ret R E pc ls (aI b :: aI a :: st) mem := by
  subst hq
  intro p l e s m args below meth c G ad H locs la hC hP hS hl
  have hq2 := i32_eq ha hb
  have hc : _ ↔ (a < b) := i32_lt ha hb
  exact lv_icmp_lt hC.1.1 hC.1.2.1 hd ht (fun h => kt (hc.mp h) p l e s m args below meth c G ad H locs la hC hP hS hl) (fun h => kf (fun h2 => h (hc.mpr h2)) p l e s m args below meth c G ad H locs la hC hP hS hl)
theorem v_if_lt {a : Int} {off : Int} {tgt : Nat} (hd : decode cc pc = .ok (.ifCond .lt off, 3)) (ht : (pc : Int) + off = (tgt : Int)) (hq : pc + 3 = q) (ha : R32 a) (kt : a < 0 → V cc own nL ret R E tgt ls st mem) (kf : ¬ (a < 0) → V cc own nL ret R E q ls st mem) : V cc own nL ret R E pc ls (aI a :: st) mem := by
  subst hq
  intro p l e s m args below meth c G ad H locs la hC hP hS hl
  have h0 : R32 0 := by omega
  have hq2 := i32_eq ha h0
  have hc : _ ↔ (a < 0) := i32_lt ha h0
  exact lv_if_lt hC.1.1 hC.1.2.1 hd ht (fun h => kt (hc.mp h) p l e s m args below meth c G ad H locs la hC hP hS hl) (fun h => kf (fun h2 => h (hc.mpr h2)) p l e s m args below meth c G ad H locs la hC hP hS hl)
theorem v_icmp_ge {a b : Int} {off : Int} {tgt : Nat} (hd : decode cc pc = .ok (.if_icmp .ge off, 3)) (ht : (pc : Int) + off = (tgt : Int)) (hq : pc + 3 = q) (ha : R32 a) (hb : R32 b) (kt : b ≤ a → V cc own nL ret R E tgt ls st mem) (kf : ¬ (b ≤ a) → V cc own nL ret R E q ls st mem) : V cc own nL ret R E pc ls (aI b :: aI a :: st) mem := by
  subst hq
  intro p l e s m args below meth c G ad H locs la hC hP hS hl
  have hq2 := i32_eq ha hb
  have hc : _ ↔ (b ≤ a) := i32_le hb ha
  exact lv_icmp_ge hC.1.1 hC.1.2.1 hd ht (fun h => kt (hc.mp h) p l e s m args below meth c G ad H locs la hC hP hS hl) (fun h => kf (fun h2 => h (hc.mpr h2)) p l e s m args below meth c G ad H locs la hC hP hS hl)
theorem v_if_ge {a : Int} {off : Int} {tgt : Nat} (hd : decode cc pc = .ok (.ifCond .ge off, 3)) (ht : (pc : Int) + off = (tgt : Int)) (hq : pc + 3 = q) (ha : R32 a) (kt : 0 ≤ a → V cc own nL ret R E tgt ls st mem) (kf : ¬ (0 ≤ a) → V cc own nL ret R E q ls st mem) : V cc own nL ret R E pc ls (aI a :: st) mem := by
  subst hq
  intro p l e s m args below meth c G ad H locs la hC hP hS hl
  have h0 : R32 0 := by omega
  have hq2 := i32_eq ha h0
  have hc : _ ↔ (0 ≤ a) := i32_le h0 ha
  exact lv_if_ge hC.1.1 hC.1.2.1 hd ht (fun h => kt (hc.mp h) p l e s m args below meth c G ad H locs la hC hP hS hl) (fun h => kf (fun h2 => h (hc.mpr h2)) p l e s m args below meth c G ad H locs la hC hP hS hl)
theorem v_icmp_gt {a b : Int} {off : Int} {tgt : Nat} (hd : decode cc pc = .ok (.if_icmp .gt off, 3)) (ht : (pc : Int) + off = (tgt : Int)) (hq : pc + 3 = q) (ha : R32 a) (hb : R32 b) (kt : b < a → V cc own nL ret R E tgt ls st mem) (kf : ¬ (b < a) → V cc own nL ret R E q ls st mem) : V cc own nL ret R E pc ls (aI b :: aI a :: st) mem := by
  subst hq
  intro p l e s m args below meth c G ad H locs la hC hP hS hl
  have hq2 := i32_eq ha hb
  have hc : _ ↔ (b < a) := i32_lt hb ha
  exact lv_icmp_gt hC.1.1 hC.1.2.1 hd ht (fun h => kt (hc.mp h) p l e s m args below meth c G ad H locs la hC hP hS hl) (fun h => kf (fun h2 => h (hc.mpr h2)) p l e s m args below meth c G ad H locs la hC hP hS hl)
theorem v_if_gt {a : Int} {off : Int} {tgt : Nat} (hd : decode cc pc = .ok (.ifCond .gt off, 3)) (ht : (pc : Int) + off = (tgt : Int)) (hq : pc + 3 = q) (ha : R32 a) (kt : 0 < a → V cc own nL ret R E tgt ls st mem) (kf : ¬ (0 < a) → V cc own nL ret R E q ls st mem) : V cc own nL ret R E pc ls (aI a :: st) mem := by
  subst hq
  intro p l e s m args below meth c G ad H locs la hC hP hS hl
  have h0 : R32 0 := by omega
  have hq2 := i32_eq ha h0
  have hc : _ ↔ (0 < a) := i32_lt h0 ha
  exact lv_if_gt hC.1.1 hC.1.2.1 hd ht (fun h => kt (hc.mp h) p l e s m args below meth c G ad H locs la hC hP hS hl) (fun h => kf (fun h2 => h (hc.mpr h2)) p l e s m args below meth c G ad H locs la hC hP hS hl)
theorem v_icmp_le {a b : Int} {off : Int} {tgt : Nat} (hd : decode cc pc = .ok (.if_icmp .le off, 3)) (ht : (pc : Int) + off = (tgt : Int)) (hq : pc + 3 = q) (ha : R32 a) (hb : R32 b) (kt : a ≤ b → V cc own nL ret R E tgt ls st mem) (kf : ¬ (a ≤ b) → V cc own nL ret R E q ls st mem) : V cc own nL ret R E pc ls (aI b :: aI a :: st) mem := by
  subst hq
  intro p l e s m args below meth c G ad H locs la hC hP hS hl
  have hq2 := i32_eq ha hb
  have hc : _ ↔ (a ≤ b) := i32_le ha hb
  exact lv_icmp_le hC.1.1 hC.1.2.1 hd ht (fun h => kt (hc.mp h) p l e s m args below meth c G ad H locs la hC hP hS hl) (fun h => kf (fun h2 => h (hc.mpr h2)) p l e s m args below meth c G ad H locs la hC hP hS hl)
theorem v_if_le {a : Int} {off : Int} {tgt : Nat} (hd : decode cc pc = .ok (.ifCond .le off, 3)) (ht : (pc : Int) + off = (tgt : Int)) (hq : pc + 3 = q) (ha : R32 a) (kt : a ≤ 0 → V cc own nL ret R E tgt ls st mem) (kf : ¬ (a ≤ 0) → V cc own nL ret R E q ls st mem) : V cc own nL ret R E pc ls (aI a :: st) mem := by
  subst hq
  intro p l e s m args below meth c G ad H locs la hC hP hS hl
  have h0 : R32 0 := by omega
  have hq2 := i32_eq ha h0
  have hc : _ ↔ (a ≤ 0) := i32_le ha h0
  exact lv_if_le hC.1.1 hC.1.2.1 hd ht (fun h => kt (hc.mp h) p l e s m args below meth c G ad H locs la hC hP hS hl) (fun h => kf (fun h2 => h (hc.mpr h2)) p l e s m args below meth c G ad H locs la hC hP hS hl)
theorem i64_cmp {a b : Int} (ha : R64 a) (hb : R64 b) : lg_cmp (Int64.ofInt a) (Int64.ofInt b) = Int32.ofInt (if b < a then 1 else if a = b then 0 else -1) := by
  unfold lg_cmp
  by_cases h1 : b < a
  · rw [if_pos ((i64_lt hb ha).mpr h1), if_pos h1]; rfl
  · rw [if_neg (fun h => h1 ((i64_lt hb ha).mp h)), if_neg h1]
    by_cases h2 : a = b
    · rw [if_pos ((i64_eq ha hb).mpr h2), if_pos h2]; rfl
    · rw [if_neg (fun h => h2 ((i64_eq ha hb).mp h)), if_neg h2]; rfl
theorem v_lcmp_eq {a b : Int} {off : Int} {tgt : Nat} (hd0 : decode cc pc = .ok (.lcmp, 1)) (hd : decode cc (pc + 1) = .ok (.ifCond .eq off, 3)) (ht : (pc : Int) + 1 + off = (tgt : Int)) (hq : pc + 4 = q) (ha : R64 a) (hb : R64 b) (kt : a = b → V cc own nL ret R E tgt ls st mem) (kf : ¬ (a = b) → V cc own nL ret R E q ls st mem) : V cc own nL ret R E pc ls (aL b :: aL a :: st) mem := by
  intro p l e s m args below meth c G ad H locs la hC hP hS hl
  refine W.lcmp hC.1.1 hC.1.2.1 hd0 ?_
  rw [i64_cmp ha hb]
  have hz : R32 (if b < a then 1 else if a = b then 0 else -1) := by
    split
    · omega
    · split <;> omega
  refine v_if_eq (ls := ls) (st := st) (mem := mem) (q := q) (tgt := tgt) (a := if b < a then 1 else if a = b then 0 else -1) hd (by rw [← ht]; omega) (by omega) hz (fun h => kt ?_) (fun h => kf ?_) p l e s m args below meth c G ad H locs la hC hP hS hl
  · revert h
    split
    · omega
    · split <;> omega
  · revert h
    split
    · omega
    · split <;> omega
theorem v_lcmp_ne {a b : Int} {off : Int} {tgt : Nat} (hd0 : decode cc pc = .ok (.lcmp, 1)) (hd : decode cc (pc + 1) = .ok (.ifCond .ne off, 3)) (ht : (pc : Int) + 1 + off = (tgt : Int)) (hq : pc + 4 = q) (ha : R64 a) (hb : R64 b) (kt : ¬ a = b → V cc own nL ret R E tgt ls st mem) (kf : a = b → V cc own nL ret R E q ls st mem) : V cc own nL ret R E pc ls (aL b :: aL a :: st) mem := by
  intro p l e s m args below meth c G ad H locs la hC hP hS hl
  refine W.lcmp hC.1.1 hC.1.2.1 hd0 ?_
  rw [i64_cmp ha hb]
  have hz : R32 (if b < a then 1 else if a = b then 0 else -1) := by
    split
    · omega
    · split <;> omega
  refine v_if_ne (ls := ls) (st := st) (mem := mem) (q := q) (tgt := tgt) (a := if b < a then 1 else if a = b then 0 else -1) hd (by rw [← ht]; omega) (by omega) hz (fun h => kt ?_) (fun h => kf ?_) p l e s m args below meth c G ad H locs la hC hP hS hl
  · revert h
    split
    · omega
    · split <;> omega
  · revert h
    split
    · omega
    · split <;> omega
theorem v_lcmp_lt {a b : Int} {off : Int} {tgt : Nat} (hd0 : decode cc pc = .ok (.lcmp, 1)) (hd : decode cc (pc + 1) = .ok (.ifCond .lt off, 3)) (ht : (pc : Int) + 1 + off = (tgt : Int)) (hq : pc + 4 = q) (ha : R64 a) (hb : R64 b) (kt : a < b → V cc own nL ret R E tgt ls st mem) (kf : ¬ (a < b) → V cc own nL ret R E q ls st mem) : V cc own nL ret R E pc ls (aL b :: aL a :: st) mem := by
  intro p l e s m args below meth c G ad H locs la hC hP hS hl
  refine W.lcmp hC.1.1 hC.1.2.1 hd0 ?_
  rw [i64_cmp ha hb]
  have hz : R32 (if b < a then 1 else if a = b then 0 else -1) := by
    split
    · omega
    · split <;> omega
  refine v_if_lt (ls := ls) (st := st) (mem := mem) (q := q) (tgt := tgt) (a := if b < a then 1 else if a = b then 0 else -1) hd (by rw [← ht]; omega) (by omega) hz (fun h => kt ?_) (fun h => kf ?_) p l e s m args below meth c G ad H locs la hC hP hS hl
  · revert h
    split
    · omega
    · split <;> omega
  · revert h
    split
    · omega
    · split <;> omega
theorem v_lcmp_ge {a b : Int} {off : Int} {tgt : Nat} (hd0 : decode cc pc = .ok (.lcmp, 1)) (hd : decode cc (pc + 1) = .ok (.ifCond .ge off, 3)) (ht : (pc : Int) + 1 + off = (tgt : Int)) (hq : pc + 4 = q) (ha : R64 a) (hb : R64 b) (kt : b ≤ a → V cc own nL ret R E tgt ls st mem) (kf : ¬ (b ≤ a) → V cc own nL ret R E q ls st mem) : V cc own nL ret R E pc ls (aL b :: aL a :: st) mem := by
  intro p l e s m args below meth c G ad H locs la hC hP hS hl
  refine W.lcmp hC.1.1 hC.1.2.1 hd0 ?_
  rw [i64_cmp ha hb]
  have hz : R32 (if b < a then 1 else if a = b then 0 else -1) := by
    split
    · omega
    · split <;> omega
  refine v_if_ge (ls := ls) (st := st) (mem := mem) (q := q) (tgt := tgt) (a := if b < a then 1 else if a = b then 0 else -1) hd (by rw [← ht]; omega) (by omega) hz (fun h => kt ?_) (fun h => kf ?_) p l e s m args below meth c G ad H locs la hC hP hS hl
  · revert h
    split
    · omega
    · split <;> omega
  · revert h
    split
    · omega
    · split <;> omega
theorem v_lcmp_gt {a b : Int} {off : Int} {tgt : Nat} (hd0 : decode cc pc = .ok (.lcmp, 1)) (hd : decode cc (pc + 1) = .ok (.ifCond .gt off, 3)) (ht : (pc : Int) + 1 + off = (tgt : Int)) (hq : pc + 4 = q) (ha : R64 a) (hb : R64 b) (kt : b < a → V cc own nL ret R E tgt ls st mem) (kf : ¬ (b < a) → V cc own nL ret R E q ls st mem) : V cc own nL ret R E pc ls (aL b :: aL a :: st) mem := by
  intro p l e s m args below meth c G ad H locs la hC hP hS hl
  refine W.lcmp hC.1.1 hC.1.2.1 hd0 ?_
  rw [i64_cmp ha hb]
  have hz : R32 (if b < a then 1 else if a = b then 0 else -1) := by
    split
    · omega
    · split <;> omega
  refine v_if_gt (ls := ls) (st := st) (mem := mem) (q := q) (tgt := tgt) (a := if b < a then 1 else if a = b then 0 else -1) hd (by rw [← ht]; omega) (by omega) hz (fun h => kt ?_) (fun h => kf ?_) p l e s m args below meth c G ad H locs la hC hP hS hl
  · revert h
    split
    · omega
    · split <;> omega
  · revert h
    split
    · omega
    · split <;> omega
theorem v_lcmp_le {a b : Int} {off : Int} {tgt : Nat} (hd0 : decode cc pc = .ok (.lcmp, 1)) (hd : decode cc (pc + 1) = .ok (.ifCond .le off, 3)) (ht : (pc : Int) + 1 + off = (tgt : Int)) (hq : pc + 4 = q) (ha : R64 a) (hb : R64 b) (kt : a ≤ b → V cc own nL ret R E tgt ls st mem) (kf : ¬ (a ≤ b) → V cc own nL ret R E q ls st mem) : V cc own nL ret R E pc ls (aL b :: aL a :: st) mem := by
  intro p l e s m args below meth c G ad H locs la hC hP hS hl
  refine W.lcmp hC.1.1 hC.1.2.1 hd0 ?_
  rw [i64_cmp ha hb]
  have hz : R32 (if b < a then 1 else if a = b then 0 else -1) := by
    split
    · omega
    · split <;> omega
  refine v_if_le (ls := ls) (st := st) (mem := mem) (q := q) (tgt := tgt) (a := if b < a then 1 else if a = b then 0 else -1) hd (by rw [← ht]; omega) (by omega) hz (fun h => kt ?_) (fun h => kf ?_) p l e s m args below meth c G ad H locs la hC hP hS hl
  · revert h
    split
    · omega
    · split <;> omega
  · revert h
    split
    · omega
    · split <;> omega
theorem v_tableOut {a : Int} {dflt lo hi : Int} {offs : Array Int} {len tgt : Nat} (hd : decode cc pc = .ok (.tableswitch dflt lo hi offs, len)) (ha : R32 a) (h : a < lo ∨ hi < a) (ht : (pc : Int) + dflt = (tgt : Int)) (k : V cc own nL ret R E tgt ls st mem) : V cc own nL ret R E pc ls (aI a :: st) mem := by
  intro p l e s m args below meth c G ad H locs la hC hP hS hl
  exact lv_tableOut hC.1.1 hC.1.2.1 hd (by rw [i32 ha]; exact h) ht (k p l e s m args below meth c G ad H locs la hC hP hS hl)
theorem v_tableIn {a : Int} {dflt lo hi : Int} {offs : Array Int} {len tgt : Nat} {off : Int} (hd : decode cc pc = .ok (.tableswitch dflt lo hi offs, len)) (ha : R32 a) (h1 : lo ≤ a) (h2 : a ≤ hi) (ho : offs[(a - lo).toNat]? = some off) (ht : (pc : Int) + off = (tgt : Int)) (k : V cc own nL ret R E tgt ls st mem) : V cc own nL ret R E pc ls (aI a :: st) mem := by
  intro p l e s m args below meth c G ad H locs la hC hP hS hl
  exact lv_tableIn hC.1.1 hC.1.2.1 hd (by rw [i32 ha]; omega) (by rw [i32 ha]; omega) (by rw [i32 ha]; exact ho) ht (k p l e s m args below meth c G ad H locs la hC hP hS hl)
theorem v_lookup {a : Int} {dflt off : Int} {ps : Array (Int × Int)} {len tgt : Nat} (hd : decode cc pc = .ok (.lookupswitch dflt ps, len)) (ha : R32 a) (hp : (ps.toList.zip (ps.toList.drop 1)).all (fun (a, next) => a.1 < next.1) = true) (ho : Op.lookupswitch.offset ps.toList dflt a = off) (ht : (pc : Int) + off = (tgt : Int)) (k : V cc own nL ret R E tgt ls st mem) : V cc own nL ret R E pc ls (aI a :: st) mem := by
  intro p l e s m args below meth c G ad H locs la hC hP hS hl
  exact lv_lookup hC.1.1 hC.1.2.1 hd hp (by rw [i32 ha]; exact ho) ht (k p l e s m args below meth c G ad H locs la hC hP hS hl)
end Rows
end
section
theorem kd_lt {p a n : Nat} (h : kd p = (a, n)) (ha : a ≠ 6) : p < NP := by
  rcases Nat.lt_or_ge p NP with h1 | h1
  · exact h1
  · exfalso
    unfold kd at h
    rw [List.getD_eq_getElem?_getD, List.getElem?_eq_none (show kdL.length ≤ p from h1)] at h
    exact ha (congrArg Prod.fst h).symm
set_option maxRecDepth 20000 in
theorem kd_small (p : Nat) : (kd p).2 ≤ 100000 := by
  have h : ∀ x ∈ kdL, x.2 ≤ 100000 := by decide +kernel
  unfold kd
  rw [List.getD_eq_getElem?_getD]
  cases hx : kdL[p]? with
  | none => simp
  | some x => exact h x (List.mem_of_getElem? hx)
theorem kd_sm {p a n : Nat} (h : kd p = (a, n)) : n ≤ 100000 := by
  have h1 := kd_small p
  rw [h] at h1
  exact h1
theorem cell_0 (G : WG) (ad : Nat → Nat) (mem : Mem) {p n : Nat} (h : kd p = (0, n)) : cellOf G ad mem p = .inl (G.2.1, n, .inl (fun k => Int32.ofInt (mem p k))) := by unfold cellOf; rw [h]; rfl
theorem cell_1 (G : WG) (ad : Nat → Nat) (mem : Mem) {p n : Nat} (h : kd p = (1, n)) : cellOf G ad mem p = .inl (G.2.2.1, n, .inr (.inl (fun k => Int64.ofInt (mem p k)))) := by unfold cellOf; rw [h]; rfl
theorem cell_2 (G : WG) (ad : Nat → Nat) (mem : Mem) {p n : Nat} (h : kd p = (2, n)) : cellOf G ad mem p = .inl (G.2.2.2.1, n, .inl (fun k => Int32.ofInt (mem p k))) := by unfold cellOf; rw [h]; rfl
theorem cell_3 (G : WG) (ad : Nat → Nat) (mem : Mem) {p n : Nat} (h : kd p = (3, n)) : cellOf G ad mem p = .inl (G.2.2.2.2.1, n, .inr (.inr (.inr (.inr (fun k => some (ad (rf p k))))))) := by unfold cellOf; rw [h]; rfl
theorem cell_4 (G : WG) (ad : Nat → Nat) (mem : Mem) {p n : Nat} (h : kd p = (4, n)) : cellOf G ad mem p = .inl (G.2.2.2.2.2, n, .inr (.inr (.inr (.inr (fun k => some (ad (mem p k).toNat)))))) := by unfold cellOf; rw [h]; rfl
theorem cell_5 (G : WG) (ad : Nat → Nat) (mem : Mem) {p c : Nat} (h : kd p = (5, c)) : cellOf G ad mem p = .inr (c, (List.range (nf c)).map (fv ad mem p c)) := by unfold cellOf; rw [h]; rfl
theorem WS_0 (G : WG) (ad : Nat → Nat) (mem : Mem) {p n : Nat} (h : kd p = (0, n)) : (WS G ad mem)[p]? = some (ad p, .inl (G.2.1, n, .inl (fun k => Int32.ofInt (mem p k)))) := by rw [WS_at _ _ _ (kd_lt h (by decide)), cell_0 _ _ _ h]
theorem WS_1 (G : WG) (ad : Nat → Nat) (mem : Mem) {p n : Nat} (h : kd p = (1, n)) : (WS G ad mem)[p]? = some (ad p, .inl (G.2.2.1, n, .inr (.inl (fun k => Int64.ofInt (mem p k))))) := by rw [WS_at _ _ _ (kd_lt h (by decide)), cell_1 _ _ _ h]
theorem WS_2 (G : WG) (ad : Nat → Nat) (mem : Mem) {p n : Nat} (h : kd p = (2, n)) : (WS G ad mem)[p]? = some (ad p, .inl (G.2.2.2.1, n, .inl (fun k => Int32.ofInt (mem p k)))) := by rw [WS_at _ _ _ (kd_lt h (by decide)), cell_2 _ _ _ h]
theorem WS_3 (G : WG) (ad : Nat → Nat) (mem : Mem) {p n : Nat} (h : kd p = (3, n)) : (WS G ad mem)[p]? = some (ad p, .inl (G.2.2.2.2.1, n, .inr (.inr (.inr (.inr (fun k => some (ad (rf p k)))))))) := by rw [WS_at _ _ _ (kd_lt h (by decide)), cell_3 _ _ _ h]
theorem WS_4 (G : WG) (ad : Nat → Nat) (mem : Mem) {p n : Nat} (h : kd p = (4, n)) : (WS G ad mem)[p]? = some (ad p, .inl (G.2.2.2.2.2, n, .inr (.inr (.inr (.inr (fun k => some (ad (mem p k).toNat))))))) := by rw [WS_at _ _ _ (kd_lt h (by decide)), cell_4 _ _ _ h]
theorem WS_5 (G : WG) (ad : Nat → Nat) (mem : Mem) {p c : Nat} (h : kd p = (5, c)) : (WS G ad mem)[p]? = some (ad p, .inr (c, (List.range (nf c)).map (fv ad mem p c))) := by rw [WS_at _ _ _ (kd_lt h (by decide)), cell_5 _ _ _ h]
theorem WS_D {G : WG} {ad : Nat → Nat} {mem : Mem} {A : Nat → Prop} (hi : injA ad) (hA : ∀ i, i < NP → A (ad i)) : va_D A (WS G ad mem) := by
  refine ⟨fun i j x y hx hy hxy => ?_, fun k x hx => ?_⟩
  · obtain ⟨h1, rfl⟩ := WS_of hx
    obtain ⟨h2, rfl⟩ := WS_of hy
    exact hi i j h1 h2 hxy
  · obtain ⟨h1, rfl⟩ := WS_of hx
    exact hA k h1
theorem um_other {mem : Mem} {p : Nat} {i z : Int} : ∀ q, q ≠ p → um mem p i z q = mem q := fun _ h => um_ne mem i z h
/-- a field's entry: own's constant x is the field k of the class c -/
def FL (own : String) (x c k : Nat) (fin : Bool) : Prop := ∃ q : vw_C, vwCl[c]? = some q ∧ k < q.2.2 ∧ Cond.fieldLink own x (q.2.1 k).1 (q.2.1 k).2.1 (q.2.1 k).2.2.1 ∈ gw ∧ (q.2.1 k).2.2.2 = fin
theorem fs_at (ad : Nat → Nat) (mem : Mem) {p c k N : Nat} (hn : nf c = N) (hk : k < N) : ((List.range (nf c)).map (fv ad mem p c))[k]? = some (fv ad mem p c k) := by
  rw [List.getElem?_map, List.getElem?_range (by omega)]
  rfl
theorem fs_set (ad : Nat → Nat) (mem : Mem) {p c k N : Nat} {z : Int} {v : Value} (hn : nf c = N) (hk : k < N) (hv : fv ad (um mem p k z) p c k = v) : ((List.range (nf c)).map (fv ad mem p c)).set k v = (List.range (nf c)).map (fv ad (um mem p k z) p c) := by
  apply List.ext_getElem?
  intro i
  by_cases hi : i < N
  · by_cases hik : i = k
    · subst hik
      rw [List.getElem?_set_self (by simp; omega), fs_at _ _ hn hi, hv]
    · rw [List.getElem?_set_ne (Ne.symm hik), fs_at _ _ hn hi, fs_at _ _ hn hi]
      unfold fv
      rw [um_same, ui_ne _ _ (fun h => hik (by omega))]
  · rw [List.getElem?_eq_none (by simp; omega), List.getElem?_eq_none (by simp; omega)]
/-- a call's entry: of a method of an object, of a class, of a nest mate -/
abbrev Mt : Type := MethodName × ByteArray × Nat × Option FieldType × Nat × Nat
def rmk (f l : Nat) : Room := { frames := f, cells := 0, slots := 0, locals := l }
def plainM (M : Mt) (n : Nat) : Prop := M.1.cls ≠ "java/lang/invoke/MethodHandle" ∧ M.1.cls ≠ "java/lang/invoke/VarHandle" ∧ (parseMethodDescriptor M.1.desc).map (fun d => d.parameters.length) = some n
def mdV (M : Mt) (n : Nat) : Prop := Cond.instanceMethod M.1 ∈ gw ∧ Cond.selects M.1.cls M.1 M.1 ∈ gw ∧ Cond.initialized M.1.cls ∈ gw ∧ Cond.code M.1 M.2.1 M.2.2.1 M.2.2.2.1 ∈ gw ∧ plainM M n
def mdS (M : Mt) (n : Nat) : Prop := Cond.static M.1 ∈ gw ∧ Cond.initialized M.1.cls ∈ gw ∧ Cond.code M.1 M.2.1 M.2.2.1 M.2.2.2.1 ∈ gw ∧ plainM M n
def mws (M : Mt) : List Cond := Cond.code M.1 M.2.1 M.2.2.1 M.2.2.2.1 :: gw
/-- what a method answers, and the world behind it -/
def mQ (G : WG) (ad : Nat → Nat) (Post : AV → Mem → Prop) : Array Value → State → Outcome → State → Prop := fun _ st oc t =>
  (∃ (r : AV) (mem' : Mem), oc = .returned (rv ad r) ∧ Post r mem' ∧ va_P G.1 vwCl (WS G ad mem') t.heap) ∧ va_F (rngA ad) st t
def mE (Post : AV → Mem → Prop) : EQ := (fun _ ad => rngA ad, (0, 0), fun below args s G ad => MQ below (mQ G ad Post) args s 0 0 (rngA ad), fun _ _ _ _ => True)
def cW (G : WG) (ad : Nat → Nat) (mem : Mem) (U : State) : Prop := va_P G.1 vwCl (WS G ad mem) U.heap ∧ va_K G.1 vwCl (tysW G) U ∧ nestOK U ∧ injA ad
/-- a method's contract: from this memory, with these arguments, it comes to its end, with Post -/
def Ctr (M : Mt) (as : List AV) (mem : Mem) (Post : AV → Mem → Prop) : Prop := ∀ (l : Launch) (G : WG) (ad : Nat → Nat),
  Met l M.1 (mws M) (rmk M.2.2.2.2.1 M.2.2.2.2.2) (va_Pc (as.map (cv ad)) (cW G ad mem)) (mQ G ad Post) 0 0 (rngA ad)
def CtrI (M : Mt) (as : List AV) (mem : Mem) (Post : Int → Mem → Prop) : Prop := Ctr M as mem (fun r m => ∃ z, r = aI z ∧ Post z m)
def CtrL (M : Mt) (as : List AV) (mem : Mem) (Post : Int → Mem → Prop) : Prop := Ctr M as mem (fun r m => ∃ z, r = aL z ∧ Post z m)
def CtrF (M : Mt) (as : List AV) (mem : Mem) (Post : UInt32 → Mem → Prop) : Prop := Ctr M as mem (fun r m => ∃ z, r = aF z ∧ Post z m)
def CtrV (M : Mt) (as : List AV) (mem : Mem) (Post : Mem → Prop) : Prop := Ctr M as mem (fun r m => r = aU ∧ Post m)
theorem cW_blind (G : WG) (ad : Nat → Nat) (mem : Mem) (as : List AV) : FrameBlind (va_Pc (as.map (cv ad)) (cW G ad mem)) := by
  intro a U g mk q
  obtain ⟨q0, qP, qK, qN, qi⟩ := q
  exact ⟨q0, qP, va_K.moved (u := U) (U := U.calling g mk a) (Vm.Alike.refl U.vm) qK, nestOK.same (s := U) rfl qN, qi⟩
theorem mws_good {M : Mt} (h : Cond.code M.1 M.2.1 M.2.2.1 M.2.2.2.1 ∈ gw) : GoodIn gw (mws M) := gw_good (fun w hw => (List.mem_cons.mp hw).elim (fun e => e ▸ h) id)
/-- the arguments as locals -/
def exL : List AV → List AV
  | [] => []
  | v :: vs => if ctg v = 2 then v :: aU :: exL vs else v :: exL vs
theorem exL_args (ad : Nat → Nat) : ∀ (as : List AV) (i j : Nat) (v : AV), (exL as)[j]? = some v → v ≠ aU → (i + j, cv ad v) ∈ lv_args i (as.map (cv ad))
  | [], _, _, _, h, _ => by simp [exL] at h
  | w :: ws, i, j, v, h, hv => by
    unfold exL at h
    show _ ∈ (i, cv ad w) :: lv_args (if (cv ad w).category = 2 then i + 2 else i + 1) (ws.map (cv ad))
    rw [cv_ctg]
    by_cases hc : ctg w = 2
    · rw [if_pos hc] at h ⊢
      match j, h with
      | 0, h =>
        have e : w = v := by simpa using h
        subst e
        exact List.mem_cons_self
      | 1, h => exact absurd (by simpa using h.symm) hv
      | j + 2, h =>
        have h1 := exL_args ad ws (i + 2) j v (by simpa using h) hv
        rw [show i + (j + 2) = i + 2 + j by omega]
        exact List.mem_cons_of_mem _ h1
    · rw [if_neg hc] at h ⊢
      match j, h with
      | 0, h =>
        have e : w = v := by simpa using h
        subst e
        exact List.mem_cons_self
      | j + 1, h =>
        have h1 := exL_args ad ws (i + 1) j v (by simpa using h) hv
        rw [show i + (j + 1) = i + 1 + j by omega]
        exact List.mem_cons_of_mem _ h1
theorem exL_len (ad : Nat → Nat) : ∀ as : List AV, (lg_sl (as.map (cv ad))).length = (exL as).length
  | [] => rfl
  | w :: ws => by
    have ih := exL_len ad ws
    unfold lg_sl at ih ⊢
    unfold exL
    rw [List.map_cons, List.flatMap_cons, List.length_append, ih, cv_ctg]
    by_cases hc : ctg w = 2
    · rw [if_pos hc, if_pos hc]; simp; omega
    · rw [if_neg hc, if_neg hc]; simp; omega
theorem Ctr.ofV {y : MethodName} {cc : ByteArray} {nL f lo : Nat} {ret : Option FieldType} {as : List AV} {mem : Mem} {Post : AV → Mem → Prop} {own : String} {ls : List AV} (ho : y.cls = own) (hy : plainName y.cls = true)
    (hls : exL as ++ List.replicate (nL - (exL as).length) aU = ls) (hn : (exL as).length ≤ nL) (k : V cc own nL ret (rmk f lo) (mE Post) 0 ls [] mem) : Ctr (y, cc, nL, ret, f, lo) as mem Post := by
  subst ho
  intro l G ad
  refine Met.ofW (cc := cc) (maxL := nL) (ret := ret) hy rfl ?_
  intro p e s m args below meth c s₁ B hml hv
  obtain ⟨rfl, hP, hK, hN, hi⟩ := hv
  have hts := atoms_spec (ws := mws (y, cc, nL, ret, f, lo)) B.pre
  have hown : s.vm.findClass y.cls = some m.cls := findClass_of_methodNamed B.named
  have hl := lv_entry (as.map (cv ad)) (n := nL) (by rw [exL_len]; exact hn)
  rw [lg_entry_eq]
  refine k p l e s m _ below meth c G ad s.heap [] _ ⟨⟨B.exec, B.bytes, hml, hown, fun w hw => hts w (List.mem_cons_of_mem _ hw)⟩, B.notSynchronized, B.returns, hK, hN, hi, fun i hi => ⟨i, hi, rfl⟩, trivial⟩ hP va_S.rf ⟨hl.1, hl.2.1, fun i v hiv hv => ?_⟩
  subst hls
  by_cases hlt : i < (exL as).length
  · rw [List.getElem?_append_left hlt] at hiv
    have h1 := exL_args ad as 0 i v hiv hv
    rw [Nat.zero_add] at h1
    exact hl.2.2 _ h1
  · rw [List.getElem?_append_right (by omega)] at hiv
    have h1 := List.mem_of_getElem? hiv
    exact absurd (List.eq_of_mem_replicate h1) hv
section HeapRows
variable {cc : ByteArray} {own : String} {nL : Nat} {ret : Option FieldType} {R : Room} {E : EQ} {pc q : Nat} {ls st : List AV} {mem : Mem}

theorem v_getI {pl x cl kl : Nat} {fin : Bool} {j : Int} (hd : decode cc pc = .ok (.getfield x, 3)) (hf : FL own x cl kl fin) (hk : kd pl = (5, cl)) (ht : fk (tyC cl kl) = 0) (hj : (kl : Int) = j) (hq : pc + 3 = q) (K : V cc own nL ret R E q ls (aI (mem pl j) :: st) mem) : V cc own nL ret R E pc ls (aR pl :: st) mem := by
  subst hq; subst hj
  intro p l e s m args below meth c G ad H locs la hC hP hS hl
  obtain ⟨w, hw1, hw2, hw3, -⟩ := hf
  have hv : fv ad mem pl cl kl = cv ad (aI (mem pl kl)) := by unfold fv; rw [ht]; rfl
  refine va_get hC.1.1 hC.1.2.1 hC.1.2.2.2.2 (inW hw1) hC.1.2.2.2.1 hC.2.2.2.1 hP pl (fs := (List.range (nf cl)).map (fv ad mem pl cl)) ?_ hw1 kl hw2 (hC.1.2.2.2.2 _ hw3) (fun _ h => h) (v := cv ad (aI (mem pl kl))) ?_ hd (K p l e s m args below meth c G ad H locs la hC hP hS hl)
  · rw [WS_at _ _ _ (kd_lt hk (by decide)), cell_5 _ _ _ hk]
  · rw [fs_at _ _ (nfW hw1) hw2, hv]
theorem v_getL {pl x cl kl : Nat} {fin : Bool} {j : Int} (hd : decode cc pc = .ok (.getfield x, 3)) (hf : FL own x cl kl fin) (hk : kd pl = (5, cl)) (ht : fk (tyC cl kl) = 1) (hj : (kl : Int) = j) (hq : pc + 3 = q) (K : V cc own nL ret R E q ls (aL (mem pl j) :: st) mem) : V cc own nL ret R E pc ls (aR pl :: st) mem := by
  subst hq; subst hj
  intro p l e s m args below meth c G ad H locs la hC hP hS hl
  obtain ⟨w, hw1, hw2, hw3, -⟩ := hf
  have hv : fv ad mem pl cl kl = cv ad (aL (mem pl kl)) := by unfold fv; rw [ht]; rfl
  refine va_get hC.1.1 hC.1.2.1 hC.1.2.2.2.2 (inW hw1) hC.1.2.2.2.1 hC.2.2.2.1 hP pl (fs := (List.range (nf cl)).map (fv ad mem pl cl)) ?_ hw1 kl hw2 (hC.1.2.2.2.2 _ hw3) (fun _ h => h) (v := cv ad (aL (mem pl kl))) ?_ hd (K p l e s m args below meth c G ad H locs la hC hP hS hl)
  · rw [WS_at _ _ _ (kd_lt hk (by decide)), cell_5 _ _ _ hk]
  · rw [fs_at _ _ (nfW hw1) hw2, hv]
theorem v_getR {pl x cl kl p' : Nat} {fin : Bool} (hd : decode cc pc = .ok (.getfield x, 3)) (hf : FL own x cl kl fin) (hk : kd pl = (5, cl)) (ht : fk (tyC cl kl) = 2) (hr : rf pl kl = p') (hq : pc + 3 = q) (K : V cc own nL ret R E q ls (aR p' :: st) mem) : V cc own nL ret R E pc ls (aR pl :: st) mem := by
  subst hq; subst hr
  intro p l e s m args below meth c G ad H locs la hC hP hS hl
  obtain ⟨w, hw1, hw2, hw3, -⟩ := hf
  have hv : fv ad mem pl cl kl = cv ad (aR (rf pl kl)) := by unfold fv; rw [ht]; rfl
  refine va_get hC.1.1 hC.1.2.1 hC.1.2.2.2.2 (inW hw1) hC.1.2.2.2.1 hC.2.2.2.1 hP pl (fs := (List.range (nf cl)).map (fv ad mem pl cl)) ?_ hw1 kl hw2 (hC.1.2.2.2.2 _ hw3) (fun _ h => h) (v := cv ad (aR (rf pl kl))) ?_ hd (K p l e s m args below meth c G ad H locs la hC hP hS hl)
  · rw [WS_at _ _ _ (kd_lt hk (by decide)), cell_5 _ _ _ hk]
  · rw [fs_at _ _ (nfW hw1) hw2, hv]
theorem v_putI {pl x cl kl : Nat} {j z : Int} (hd : decode cc pc = .ok (.putfield x, 3)) (hf : FL own x cl kl false) (hk : kd pl = (5, cl)) (ht : tyC cl kl = .int) (hj : (kl : Int) = j) (hq : pc + 3 = q) (K : V cc own nL ret R E q ls st (um mem pl j z)) : V cc own nL ret R E pc ls (aI z :: aR pl :: st) mem := by
  subst hq; subst hj
  intro p l e s m args below meth c G ad H locs la hC hP hS hl
  obtain ⟨w, hw1, hw2, hw3, hw4⟩ := hf
  have hlt := kd_lt hk (by decide)
  have hv : fv ad (um mem pl kl z) pl cl kl = .int (Int32.ofInt z) := by
    unfold fv
    rw [ht, um_same, ui_same]
    rfl
  have hw : (WS G ad mem)[pl]? = some (ad pl, .inr (cl, (List.range (nf cl)).map (fv ad mem pl cl))) := by rw [WS_at _ _ _ hlt, cell_5 _ _ _ hk]
  refine va_put hC.1.1 hC.1.2.1 hC.1.2.2.2.2 (inW hw1) (tyC cl) (tyW hw1) (nmW hw1) hC.1.2.2.2.1 hC.2.2.2.1 hP (WS_D hC.2.2.2.2.2.1 hC.2.2.2.2.2.2.1) hS pl hw hw1 kl hw2 (hC.1.2.2.2.2 _ hw3) (fun _ h => h) hw4 (ty := .int) (v := .int (Int32.ofInt z)) (by rw [← ht]; exact tyW hw1 kl hw2) rfl (by rfl) (by rw [List.length_map, List.length_range, nfW hw1]; exact hw2) hd (fun H1 locs1 hP1 hD1 hS1 => ?_)
  have e1 : (WS G ad mem).set pl (ad pl, .inr (cl, ((List.range (nf cl)).map (fv ad mem pl cl)).set kl (.int (Int32.ofInt z)))) = WS G ad (um mem pl kl z) :=
    WS_set hlt (by rw [cell_5 _ _ _ hk, fs_set ad mem (nfW hw1) hw2 hv]) um_other
  exact K p l e s m args below meth c G ad H1 locs1 la hC (e1 ▸ hP1) hS1 hl
theorem v_putZ {pl x cl kl : Nat} {j z : Int} (hz : z = 0 ∨ z = 1) (hd : decode cc pc = .ok (.putfield x, 3)) (hf : FL own x cl kl false) (hk : kd pl = (5, cl)) (ht : tyC cl kl = .boolean) (hj : (kl : Int) = j) (hq : pc + 3 = q) (K : V cc own nL ret R E q ls st (um mem pl j z)) : V cc own nL ret R E pc ls (aI z :: aR pl :: st) mem := by
  subst hq; subst hj
  intro p l e s m args below meth c G ad H locs la hC hP hS hl
  obtain ⟨w, hw1, hw2, hw3, hw4⟩ := hf
  have hlt := kd_lt hk (by decide)
  have hv : fv ad (um mem pl kl z) pl cl kl = .int (Int32.ofInt z) := by
    unfold fv
    rw [ht, um_same, ui_same]
    rfl
  have hw : (WS G ad mem)[pl]? = some (ad pl, .inr (cl, (List.range (nf cl)).map (fv ad mem pl cl))) := by rw [WS_at _ _ _ hlt, cell_5 _ _ _ hk]
  refine va_put hC.1.1 hC.1.2.1 hC.1.2.2.2.2 (inW hw1) (tyC cl) (tyW hw1) (nmW hw1) hC.1.2.2.2.1 hC.2.2.2.1 hP (WS_D hC.2.2.2.2.2.1 hC.2.2.2.2.2.2.1) hS pl hw hw1 kl hw2 (hC.1.2.2.2.2 _ hw3) (fun _ h => h) hw4 (ty := .boolean) (v := .int (Int32.ofInt z)) (by rw [← ht]; exact tyW hw1 kl hw2) (by rcases hz with rfl | rfl <;> rfl) (by rcases hz with rfl | rfl <;> rfl) (by rw [List.length_map, List.length_range, nfW hw1]; exact hw2) hd (fun H1 locs1 hP1 hD1 hS1 => ?_)
  have e1 : (WS G ad mem).set pl (ad pl, .inr (cl, ((List.range (nf cl)).map (fv ad mem pl cl)).set kl (.int (Int32.ofInt z)))) = WS G ad (um mem pl kl z) :=
    WS_set hlt (by rw [cell_5 _ _ _ hk, fs_set ad mem (nfW hw1) hw2 hv]) um_other
  exact K p l e s m args below meth c G ad H1 locs1 la hC (e1 ▸ hP1) hS1 hl
theorem v_putL {pl x cl kl : Nat} {j z : Int} (hd : decode cc pc = .ok (.putfield x, 3)) (hf : FL own x cl kl false) (hk : kd pl = (5, cl)) (ht : tyC cl kl = .long) (hj : (kl : Int) = j) (hq : pc + 3 = q) (K : V cc own nL ret R E q ls st (um mem pl j z)) : V cc own nL ret R E pc ls (aL z :: aR pl :: st) mem := by
  subst hq; subst hj
  intro p l e s m args below meth c G ad H locs la hC hP hS hl
  obtain ⟨w, hw1, hw2, hw3, hw4⟩ := hf
  have hlt := kd_lt hk (by decide)
  have hv : fv ad (um mem pl kl z) pl cl kl = .long (Int64.ofInt z) := by
    unfold fv
    rw [ht, um_same, ui_same]
    rfl
  have hw : (WS G ad mem)[pl]? = some (ad pl, .inr (cl, (List.range (nf cl)).map (fv ad mem pl cl))) := by rw [WS_at _ _ _ hlt, cell_5 _ _ _ hk]
  refine va_put hC.1.1 hC.1.2.1 hC.1.2.2.2.2 (inW hw1) (tyC cl) (tyW hw1) (nmW hw1) hC.1.2.2.2.1 hC.2.2.2.1 hP (WS_D hC.2.2.2.2.2.1 hC.2.2.2.2.2.2.1) hS pl hw hw1 kl hw2 (hC.1.2.2.2.2 _ hw3) (fun _ h => h) hw4 (ty := .long) (v := .long (Int64.ofInt z)) (by rw [← ht]; exact tyW hw1 kl hw2) rfl (by rfl) (by rw [List.length_map, List.length_range, nfW hw1]; exact hw2) hd (fun H1 locs1 hP1 hD1 hS1 => ?_)
  have e1 : (WS G ad mem).set pl (ad pl, .inr (cl, ((List.range (nf cl)).map (fv ad mem pl cl)).set kl (.long (Int64.ofInt z)))) = WS G ad (um mem pl kl z) :=
    WS_set hlt (by rw [cell_5 _ _ _ hk, fs_set ad mem (nfW hw1) hw2 hv]) um_other
  exact K p l e s m args below meth c G ad H1 locs1 la hC (e1 ▸ hP1) hS1 hl
theorem v_iald {pl n : Nat} {i : Int} (hd : decode cc pc = .ok (.iaload, 1)) (hk : kd pl = (0, n)) (h0 : 0 ≤ i) (h1 : i < n) (hq : pc + 1 = q) (K : V cc own nL ret R E q ls (aI (mem pl i) :: st) mem) : V cc own nL ret R E pc ls (aI i :: aR pl :: st) mem := by
  subst hq
  intro p l e s m args below meth c G ad H locs la hC hP hS hl
  obtain ⟨g1, g2⟩ := i32_in h0 h1 (kd_sm hk)
  have hw := WS_0 G ad mem hk
  refine va_iald hC.1.1 hC.1.2.1 hC.2.2.2.1 hP pl 0 hw rfl g1 hd ?_
  rw [g2, Int.toNat_of_nonneg h0]
  exact K p l e s m args below meth c G ad H locs la hC hP hS hl
theorem v_zald {pl n : Nat} {i : Int} (hd : decode cc pc = .ok (.baload, 1)) (hk : kd pl = (2, n)) (h0 : 0 ≤ i) (h1 : i < n) (hq : pc + 1 = q) (K : V cc own nL ret R E q ls (aI (mem pl i) :: st) mem) : V cc own nL ret R E pc ls (aI i :: aR pl :: st) mem := by
  subst hq
  intro p l e s m args below meth c G ad H locs la hC hP hS hl
  obtain ⟨g1, g2⟩ := i32_in h0 h1 (kd_sm hk)
  have hw := WS_2 G ad mem hk
  refine va_zald hC.1.1 hC.1.2.1 hC.2.2.2.1 hP pl 2 hw rfl g1 hd ?_
  rw [g2, Int.toNat_of_nonneg h0]
  exact K p l e s m args below meth c G ad H locs la hC hP hS hl
theorem v_lald {pl n : Nat} {i : Int} (hd : decode cc pc = .ok (.laload, 1)) (hk : kd pl = (1, n)) (h0 : 0 ≤ i) (h1 : i < n) (hq : pc + 1 = q) (K : V cc own nL ret R E q ls (aL (mem pl i) :: st) mem) : V cc own nL ret R E pc ls (aI i :: aR pl :: st) mem := by
  subst hq
  intro p l e s m args below meth c G ad H locs la hC hP hS hl
  obtain ⟨g1, g2⟩ := i32_in h0 h1 (kd_sm hk)
  have hw := WS_1 G ad mem hk
  refine va_lald hC.1.1 hC.1.2.1 hC.2.2.2.1 hP pl 1 hw rfl g1 hd ?_
  rw [g2, Int.toNat_of_nonneg h0]
  exact K p l e s m args below meth c G ad H locs la hC hP hS hl
theorem v_iast {pl n : Nat} {i z : Int} (hd : decode cc pc = .ok (.iastore, 1)) (hk : kd pl = (0, n)) (h0 : 0 ≤ i) (h1 : i < n) (hq : pc + 1 = q) (K : V cc own nL ret R E q ls st (um mem pl i z)) : V cc own nL ret R E pc ls (aI z :: aI i :: aR pl :: st) mem := by
  subst hq
  intro p l e s m args below meth c G ad H locs la hC hP hS hl
  obtain ⟨g1, g2⟩ := i32_in h0 h1 (kd_sm hk)
  have hlt := kd_lt hk (by decide)
  have hw := WS_0 G ad mem hk
  refine va_iast hC.1.1 hC.1.2.1 hC.2.2.2.1 hP (WS_D hC.2.2.2.2.2.1 hC.2.2.2.2.2.2.1) hS pl 0 hw rfl g1 hd (fun H1 locs1 hP1 hD1 hS1 => ?_)
  refine K p l e s m args below meth c G ad H1 locs1 la hC ?_ hS1 hl
  rw [← WS_set (mem := mem) hlt ?_ um_other]
  · exact hP1
  · rw [cell_0 _ _ _ hk, g2]
    congr 4
    funext k
    rw [um_same]
    unfold upd ui
    by_cases hki : k = i.toNat
    · rw [if_pos hki, if_pos (by omega)]
    · rw [if_neg hki, if_neg (by omega)]
theorem v_zast {pl n : Nat} {i z : Int} (hz : z = 0 ∨ z = 1) (hd : decode cc pc = .ok (.bastore, 1)) (hk : kd pl = (2, n)) (h0 : 0 ≤ i) (h1 : i < n) (hq : pc + 1 = q) (K : V cc own nL ret R E q ls st (um mem pl i z)) : V cc own nL ret R E pc ls (aI z :: aI i :: aR pl :: st) mem := by
  subst hq
  intro p l e s m args below meth c G ad H locs la hC hP hS hl
  obtain ⟨g1, g2⟩ := i32_in h0 h1 (kd_sm hk)
  have hlt := kd_lt hk (by decide)
  have hw := WS_2 G ad mem hk
  refine va_zast hC.1.1 hC.1.2.1 hC.2.2.2.1 hP (WS_D hC.2.2.2.2.2.1 hC.2.2.2.2.2.2.1) hS pl 2 hw rfl g1 hd (fun H1 locs1 hP1 hD1 hS1 => ?_)
  refine K p l e s m args below meth c G ad H1 locs1 la hC ?_ hS1 hl
  rw [← WS_set (mem := mem) hlt ?_ um_other]
  · exact hP1
  · rw [cell_2 _ _ _ hk, g2]
    have hz2 : vp_nar .boolean (Int32.ofInt z) = Int32.ofInt z := by rcases hz with rfl | rfl <;> rfl
    rw [hz2]
    congr 4
    funext k
    rw [um_same]
    unfold upd ui
    by_cases hki : k = i.toNat
    · rw [if_pos hki, if_pos (by omega)]
    · rw [if_neg hki, if_neg (by omega)]
theorem v_last {pl n : Nat} {i z : Int} (hd : decode cc pc = .ok (.lastore, 1)) (hk : kd pl = (1, n)) (h0 : 0 ≤ i) (h1 : i < n) (hq : pc + 1 = q) (K : V cc own nL ret R E q ls st (um mem pl i z)) : V cc own nL ret R E pc ls (aL z :: aI i :: aR pl :: st) mem := by
  subst hq
  intro p l e s m args below meth c G ad H locs la hC hP hS hl
  obtain ⟨g1, g2⟩ := i32_in h0 h1 (kd_sm hk)
  have hlt := kd_lt hk (by decide)
  have hw := WS_1 G ad mem hk
  refine va_last hC.1.1 hC.1.2.1 hC.2.2.2.1 hP (WS_D hC.2.2.2.2.2.1 hC.2.2.2.2.2.2.1) hS pl 1 hw rfl g1 hd (fun H1 locs1 hP1 hD1 hS1 => ?_)
  refine K p l e s m args below meth c G ad H1 locs1 la hC ?_ hS1 hl
  rw [← WS_set (mem := mem) hlt ?_ um_other]
  · exact hP1
  · rw [cell_1 _ _ _ hk, g2]
    congr 5
    funext k
    rw [um_same]
    unfold vp_updL ui
    by_cases hki : k = i.toNat
    · rw [if_pos hki, if_pos (by omega)]
    · rw [if_neg hki, if_neg (by omega)]
theorem v_aaldL {pl n : Nat} {i : Int} (hd : decode cc pc = .ok (.aaload, 1)) (hk : kd pl = (3, n)) (h0 : 0 ≤ i) (h1 : i < n) (hq : pc + 1 = q) (K : V cc own nL ret R E q ls (aR (pl + 1 + i.toNat) :: st) mem) : V cc own nL ret R E pc ls (aI i :: aR pl :: st) mem := by
  subst hq
  intro p l e s m args below meth c G ad H locs la hC hP hS hl
  obtain ⟨g1, g2⟩ := i32_in h0 h1 (kd_sm hk)
  have hlt : (Int32.ofInt i).toNatClampNeg < n := Nat.not_le.mp fun q => g1 (Or.inr q)
  have hw := WS_3 G ad mem hk
  have hr : rf pl i.toNat = pl + 1 + i.toNat := by unfold rf; rw [hk]; rfl
  have hv : (.ref (ad (pl + 1 + i.toNat)) : Value) = va_rf (some (ad (rf pl (Int32.ofInt i).toNatClampNeg))) := by rw [g2, hr]; rfl
  refine W.aald (v := .ref (ad (pl + 1 + i.toNat))) (ty := .array .long) hC.1.1 hC.1.2.1 (hP pl _ hw) ((hC.2.2.2.1.2 3 _ rfl).1 n (fun j => va_rf (some (ad (rf pl j))))) rfl (fun q => by cases q) (by show ¬ (_ < 0 ∨ (arrV _ _ _).slots.size ≤ _); rw [arrV_size]; exact g1) (by show (arrV _ _ _).slots[_]? = _; rw [arrV_read _ _ hlt, hv]) rfl rfl hd (K p l e s m args below meth c G ad H locs la hC hP hS hl)
theorem v_aaldS {pl n : Nat} {i : Int} (hd : decode cc pc = .ok (.aaload, 1)) (hk : kd pl = (4, n)) (h0 : 0 ≤ i) (h1 : i < n) (hq : pc + 1 = q) (K : V cc own nL ret R E q ls (aR (mem pl i).toNat :: st) mem) : V cc own nL ret R E pc ls (aI i :: aR pl :: st) mem := by
  subst hq
  intro p l e s m args below meth c G ad H locs la hC hP hS hl
  obtain ⟨g1, g2⟩ := i32_in h0 h1 (kd_sm hk)
  have hw := WS_4 G ad mem hk
  refine va_aldq hC.1.1 hC.1.2.1 hC.2.2.2.1 hP pl 4 hw rfl g1 hd ?_
  rw [g2, Int.toNat_of_nonneg h0]
  exact K p l e s m args below meth c G ad H locs la hC hP hS hl
theorem v_aastS {pl w n : Nat} {i : Int} (hd : decode cc pc = .ok (.aastore, 1)) (hk : kd pl = (4, n)) (hv : kd w = (5, 4)) (h0 : 0 ≤ i) (h1 : i < n) (hq : pc + 1 = q) (K : V cc own nL ret R E q ls st (um mem pl i w)) : V cc own nL ret R E pc ls (aR w :: aI i :: aR pl :: st) mem := by
  subst hq
  intro p l e s m args below meth c G ad H locs la hC hP hS hl
  obtain ⟨g1, g2⟩ := i32_in h0 h1 (kd_sm hk)
  have hlt := kd_lt hk (by decide)
  have hw := WS_4 G ad mem hk
  have hw2 := WS_5 G ad mem hv
  refine va_astq hC.1.1 hC.1.2.1 hC.2.2.2.1 hP (WS_D hC.2.2.2.2.2.1 hC.2.2.2.2.2.2.1) hS pl 4 w 4 (r := (RX4, TX4, 6)) hw rfl hw2 rfl g1 hd (fun H1 locs1 hP1 hD1 hS1 => ?_)
  refine K p l e s m args below meth c G ad H1 locs1 la hC ?_ hS1 hl
  rw [← WS_set (mem := mem) hlt ?_ um_other]
  · exact hP1
  · rw [cell_4 _ _ _ hk, g2]
    congr 7
    funext k
    rw [um_same]
    unfold va_up ui
    by_cases hki : k = i.toNat
    · rw [if_pos hki, if_pos (by omega)]; simp
    · rw [if_neg hki, if_neg (by omega)]
theorem v_alen0 {pl n : Nat} (hd : decode cc pc = .ok (.arraylength, 1)) (hk : kd pl = (0, n)) (hq : pc + 1 = q) (K : V cc own nL ret R E q ls (aI n :: st) mem) : V cc own nL ret R E pc ls (aR pl :: st) mem := by
  subst hq
  intro p l e s m args below meth c G ad H locs la hC hP hS hl
  have hw := WS_0 G ad mem hk
  exact va_alen hC.1.1 hC.1.2.1 hC.2.2.2.1 hP pl 0 hw rfl (v := Int32.ofInt n) rfl hd (K p l e s m args below meth c G ad H locs la hC hP hS hl)
theorem v_alen1 {pl n : Nat} (hd : decode cc pc = .ok (.arraylength, 1)) (hk : kd pl = (1, n)) (hq : pc + 1 = q) (K : V cc own nL ret R E q ls (aI n :: st) mem) : V cc own nL ret R E pc ls (aR pl :: st) mem := by
  subst hq
  intro p l e s m args below meth c G ad H locs la hC hP hS hl
  have hw := WS_1 G ad mem hk
  exact va_alen hC.1.1 hC.1.2.1 hC.2.2.2.1 hP pl 1 hw rfl (v := Int32.ofInt n) rfl hd (K p l e s m args below meth c G ad H locs la hC hP hS hl)
theorem v_iret {Post : AV → Mem → Prop} {z : Int} (hd : decode cc pc = .ok (.ireturn, 1)) (h : Post (aI z) mem) : V cc own nL (some .int) R (mE Post) pc ls [(aI z)] mem := by
  intro p l e s m args below meth c G ad H locs la hC hP hS hl
  exact W.iret hC.1.1 hC.1.2.1 hC.2.2.1 (fun t ht _ => ⟨⟨_, mem, rfl, h, by rw [ht]; exact hP⟩, hS.F ht⟩) hS.2.2 hd hC.2.1
theorem v_zret {Post : AV → Mem → Prop} {z : Int} (hz : z = 0 ∨ z = 1) (hd : decode cc pc = .ok (.ireturn, 1)) (h : Post (aI z) mem) : V cc own nL (some .boolean) R (mE Post) pc ls [aI z] mem := by
  intro p l e s m args below meth c G ad H locs la hC hP hS hl
  exact W.zret hC.1.1 hC.1.2.1 hC.2.2.1 (by rcases hz with rfl | rfl <;> rfl) (fun t ht _ => ⟨⟨_, mem, rfl, h, by rw [ht]; exact hP⟩, hS.F ht⟩) hS.2.2 hd hC.2.1
theorem v_lret {Post : AV → Mem → Prop} {z : Int} (hd : decode cc pc = .ok (.lreturn, 1)) (h : Post (aL z) mem) : V cc own nL (some .long) R (mE Post) pc ls [(aL z)] mem := by
  intro p l e s m args below meth c G ad H locs la hC hP hS hl
  exact W.lret hC.1.1 hC.1.2.1 hC.2.2.1 (fun t ht _ => ⟨⟨_, mem, rfl, h, by rw [ht]; exact hP⟩, hS.F ht⟩) hS.2.2 hd hC.2.1
theorem v_fret {Post : AV → Mem → Prop} {z : UInt32} (hd : decode cc pc = .ok (.freturn, 1)) (h : Post (aF z) mem) : V cc own nL (some .float) R (mE Post) pc ls [(aF z)] mem := by
  intro p l e s m args below meth c G ad H locs la hC hP hS hl
  exact W.fret hC.1.1 hC.1.2.1 hC.2.2.1 (fun t ht _ => ⟨⟨_, mem, rfl, h, by rw [ht]; exact hP⟩, hS.F ht⟩) hS.2.2 hd hC.2.1
theorem v_vret {Post : AV → Mem → Prop}  (hd : decode cc pc = .ok (.return_, 1)) (h : Post aU mem) : V cc own nL none R (mE Post) pc ls [] mem := by
  intro p l e s m args below meth c G ad H locs la hC hP hS hl
  exact W.vret hC.1.1 hC.1.2.1 hC.2.2.1 (fun t ht _ => ⟨⟨_, mem, rfl, h, by rw [ht]; exact hP⟩, hS.F ht⟩) hS.2.2 hd hC.2.1
theorem cat_ok (ad : Nat → Nat) {st : List AV} (h : (st.map ctg).sum ≤ 8) : ((st.map (cv ad)).map fun v => v.category).sum ≤ 8 := by
  have e : (st.map (cv ad)).map (fun v => v.category) = st.map ctg := by
    rw [List.map_map]
    apply List.map_congr_left
    intro v _
    exact cv_ctg ad v
  rw [e]
  exact h
/-- what follows a call, once it is run -/
theorem v_after {Post : AV → Mem → Prop} {g0 : List AV} {rest : List AV} {a : Array Value} {p : Program} {l : Launch} {e : Env} {s : State} {m : MethodId} {args : Array Value} {below : List Frame} {meth : Method} {c : Code} {G : WG} {ad : Nat → Nat} {H : Heap} {locs : List Loc} {la : Array Slot}
    (hC : Cx cc own nL ret E p s m args meth c G ad) (hS : va_S (E.1 s ad) s.heap H locs) (hl : lvh ad la nL ls)
    (hr : va_Run p l e R s m args below meth c H locs E.2.1.1 E.2.1.2 0 0 (F0 m pc la (g0.map (cv ad))) (rest.map (cv ad)) (mQ G ad Post a) (rngA ad))
    (k : ∀ r mem', Post r mem' → V cc own nL ret R E (pc + 3) ls ((if r = aU then [] else [r]) ++ rest) mem') : W p l e R s m args below meth c H locs E.2.1.1 E.2.1.2 (E.2.2.1 below args s G ad) (F0 m pc la (g0.map (cv ad))) := by
  intro T hT X
  obtain ⟨v, st₀, t, T', L, h0, X', hL, e1, e2, ⟨⟨r, mem', hv, hp, hb⟩, hz, hk⟩, st⟩ := hr T hT X
  rw [h0] at hz hk
  have hA : ∀ x, rngA ad x → E.1 s ad x := fun x hx => by
    obtain ⟨i, hi, rfl⟩ := hx
    exact hC.2.2.2.2.2.2.1 i hi
  have hS2 : va_S (E.1 s ad) s.heap t.heap (locs ++ L) := ⟨Nat.le_trans hS.1 hz, fun x h1 h2 => by rw [hk x (Nat.lt_of_lt_of_le h1 hS.1) (fun z => h2 (hA x z))]; exact hS.2.1 x h1 h2, fun x hx => by
      rcases List.mem_append.mp hx with h | h
      · exact hS.2.2 x h
      · exact hA _ (hL x h)⟩
  have hk2 := k r mem' hp p l e s m args below meth c G ad t.heap (locs ++ L) la hC hb hS2 hl
  have hv2 : v.toList ++ rest.map (cv ad) = ((if r = aU then [] else [r]) ++ rest).map (cv ad) := by
    have hv3 : v = rv ad r := Outcome.returned.inj hv
    rw [hv3]
    rcases r with z | z | z | z | z | z
    · rw [if_neg (by intro h; cases h)]; rfl
    · rw [if_neg (by intro h; cases h)]; rfl
    · rw [if_neg (by intro h; cases h)]; rfl
    · rw [if_neg (by intro h; cases h)]; rfl
    · rw [if_neg (by intro h; cases h)]; rfl
    · rw [if_pos (by cases z; rfl)]; rfl
  rw [← hv2] at hk2
  obtain ⟨t2, a1, b1⟩ := hk2 T' e1 (by simpa using X')
  exact ⟨t2, st t2 a1, b1⟩
theorem v_callV {M : Mt} {x n : Nat} {as : List AV} {pr cl : Nat} {w : vw_C} {Post : AV → Mem → Prop} {st0 : List AV} (hd : decode cc pc = .ok (.invokevirtual x, 3)) (hl0 : Cond.methodLink own x M.1 ∈ gw) (hm : mdV M n) (hR : M.2.2.2.2.1 + 1 ≤ R.frames ∧ 8 + (M.2.2.1 + 11) + M.2.2.2.2.2 ≤ R.locals) (hk : kd pr = (5, cl)) (hw : vwCl[cl]? = some w) (hwc : w.1 = M.1.cls) (hcs : E.2.1.1 ≤ R.cells ∧ E.2.1.2 ≤ R.slots) (hn : as.length = n) (hst : st0 = as.reverse ++ aR pr :: st) (hcat : (st.map ctg).sum ≤ 8) (hc : Ctr M (aR pr :: as) mem Post)
    (k : ∀ r mem', Post r mem' → V cc own nL ret R E (pc + 3) ls ((if r = aU then [] else [r]) ++ st) mem') : V cc own nL ret R E pc ls st0 mem := by
  intro p l e s m args below meth c G ad H locs la hC hP hS hl
  refine v_after (Post := Post) (g0 := st0) (rest := st) (a := (Value.ref (ad pr) :: as.map (cv ad)).toArray) hC hS hl ?_ k
  have hrec : ∃ cell : Cell, H[ad pr]? = some cell ∧ cell.vm.isStatics = false ∧ s.vm.findClass M.1.cls = some cell.cls := by
    rw [← hwc]
    exact va_recv hC.2.2.2.1 hP hw (q0 := pr) (by rw [WS_at _ _ _ (kd_lt hk (by decide)), cell_5 _ _ _ hk])
  refine va_runV (C := M.1.cls) (b := ad pr) (As := as.map (cv ad)) (rest := st.map (cv ad)) (ws := mws M) (n := n) hC.1 (hc l G ad) ⟨(callB_of n hC.1.2.2.2.2 (mws_good hm.2.2.2.1) rfl rfl rfl (hC.1.2.2.2.2 _ hm.2.2.1) (hC.1.2.2.2.2 _ hl0) hm.2.2.2.2 hR), hC.1.2.2.2.2 _ hm.1, hC.1.2.2.2.2 _ hm.2.1⟩ ⟨cW_blind G ad mem (aR pr :: as), hrec, fun U hU hW => ⟨rfl, by rw [hU]; exact hP, va_K.moved hW.alike hC.2.2.2.1, hC.2.2.2.2.1.warm hW, hC.2.2.2.2.2.1⟩⟩ rfl (by rw [List.length_map]; exact hn) hl.1 (by rw [hst]; simp [F0, cv, aR]) (lv_room (cat_ok ad hcat)) hd (by simpa using hcs)
theorem v_callS {M : Mt} {x n : Nat} {as : List AV} {Post : AV → Mem → Prop} {st0 : List AV} (hd : decode cc pc = .ok (.invokestatic x, 3)) (hl0 : Cond.methodLink own x M.1 ∈ gw) (hm : mdS M n) (hR : M.2.2.2.2.1 + 1 ≤ R.frames ∧ 8 + (M.2.2.1 + 11) + M.2.2.2.2.2 ≤ R.locals) (hcs : E.2.1.1 ≤ R.cells ∧ E.2.1.2 ≤ R.slots) (hn : as.length = n) (hst : st0 = as.reverse ++ st) (hcat : (st.map ctg).sum ≤ 8) (hc : Ctr M as mem Post)
    (k : ∀ r mem', Post r mem' → V cc own nL ret R E (pc + 3) ls ((if r = aU then [] else [r]) ++ st) mem') : V cc own nL ret R E pc ls st0 mem := by
  intro p l e s m args below meth c G ad H locs la hC hP hS hl
  refine v_after (Post := Post) (g0 := st0) (rest := st) (a := (as.map (cv ad)).toArray) hC hS hl ?_ k
  refine va_runS (As := as.map (cv ad)) (rest := st.map (cv ad)) (ws := mws M) (n := n) hC.1 (hc l G ad) ⟨(callB_of n hC.1.2.2.2.2 (mws_good hm.2.2.1) rfl rfl rfl (hC.1.2.2.2.2 _ hm.2.1) (hC.1.2.2.2.2 _ hl0) hm.2.2.2 hR), hC.1.2.2.2.2 _ hm.1⟩ ⟨cW_blind G ad mem as, fun U hU hW => ⟨rfl, by rw [hU]; exact hP, va_K.moved hW.alike hC.2.2.2.1, hC.2.2.2.2.1.warm hW, hC.2.2.2.2.2.1⟩⟩ rfl (by rw [List.length_map]; exact hn) hl.1 (by rw [hst]; simp [F0]) (lv_room (cat_ok ad hcat)) hd (by simpa using hcs)
theorem v_callVN {M : Mt} {x n : Nat} {as : List AV} {pr cl : Nat} {w : vw_C} {Post : AV → Mem → Prop} {st0 : List AV} (hd : decode cc pc = .ok (.invokevirtual x, 3)) {host : String} (hl0 : Cond.methodLinkNest own x M.1 host ∈ nestL) (hm : mdV M n) (hR : M.2.2.2.2.1 + 1 ≤ R.frames ∧ 8 + (M.2.2.1 + 11) + M.2.2.2.2.2 ≤ R.locals) (hk : kd pr = (5, cl)) (hw : vwCl[cl]? = some w) (hwc : w.1 = M.1.cls) (hcs : E.2.1.1 ≤ R.cells ∧ E.2.1.2 ≤ R.slots) (hn : as.length = n) (hst : st0 = as.reverse ++ aR pr :: st) (hcat : (st.map ctg).sum ≤ 8) (hc : Ctr M (aR pr :: as) mem Post)
    (k : ∀ r mem', Post r mem' → V cc own nL ret R E (pc + 3) ls ((if r = aU then [] else [r]) ++ st) mem') : V cc own nL ret R E pc ls st0 mem := by
  intro p l e s m args below meth c G ad H locs la hC hP hS hl
  refine v_after (Post := Post) (g0 := st0) (rest := st) (a := (Value.ref (ad pr) :: as.map (cv ad)).toArray) hC hS hl ?_ k
  have hrec : ∃ cell : Cell, H[ad pr]? = some cell ∧ cell.vm.isStatics = false ∧ s.vm.findClass M.1.cls = some cell.cls := by
    rw [← hwc]
    exact va_recv hC.2.2.2.1 hP hw (q0 := pr) (by rw [WS_at _ _ _ (kd_lt hk (by decide)), cell_5 _ _ _ hk])
  refine va_runVN (C := M.1.cls) (b := ad pr) (As := as.map (cv ad)) (rest := st.map (cv ad)) (ws := mws M) (n := n) hC.1 (hc l G ad) ⟨(va_cnB n hC.1.2.2.2.2 (mws_good hm.2.2.2.1) rfl rfl rfl (hC.2.2.2.2.1 _ hl0) (hC.1.2.2.2.2 _ hm.2.2.1) hm.2.2.2.2 hR), hC.1.2.2.2.2 _ hm.1, hC.1.2.2.2.2 _ hm.2.1⟩ ⟨cW_blind G ad mem (aR pr :: as), hrec, fun U hU hW => ⟨rfl, by rw [hU]; exact hP, va_K.moved hW.alike hC.2.2.2.1, hC.2.2.2.2.1.warm hW, hC.2.2.2.2.2.1⟩⟩ rfl (by rw [List.length_map]; exact hn) hl.1 (by rw [hst]; simp [F0, cv, aR]) (lv_room (cat_ok ad hcat)) hd (by simpa using hcs)
theorem v_callSN {M : Mt} {x n : Nat} {as : List AV} {Post : AV → Mem → Prop} {st0 : List AV} (hd : decode cc pc = .ok (.invokestatic x, 3)) {host : String} (hl0 : Cond.methodLinkNest own x M.1 host ∈ nestL) (hm : mdS M n) (hR : M.2.2.2.2.1 + 1 ≤ R.frames ∧ 8 + (M.2.2.1 + 11) + M.2.2.2.2.2 ≤ R.locals) (hcs : E.2.1.1 ≤ R.cells ∧ E.2.1.2 ≤ R.slots) (hn : as.length = n) (hst : st0 = as.reverse ++ st) (hcat : (st.map ctg).sum ≤ 8) (hc : Ctr M as mem Post)
    (k : ∀ r mem', Post r mem' → V cc own nL ret R E (pc + 3) ls ((if r = aU then [] else [r]) ++ st) mem') : V cc own nL ret R E pc ls st0 mem := by
  intro p l e s m args below meth c G ad H locs la hC hP hS hl
  refine v_after (Post := Post) (g0 := st0) (rest := st) (a := (as.map (cv ad)).toArray) hC hS hl ?_ k
  refine va_runSN (As := as.map (cv ad)) (rest := st.map (cv ad)) (ws := mws M) (n := n) hC.1 (hc l G ad) ⟨(va_cnB n hC.1.2.2.2.2 (mws_good hm.2.2.1) rfl rfl rfl (hC.2.2.2.2.1 _ hl0) (hC.1.2.2.2.2 _ hm.2.1) hm.2.2.2 hR), hC.1.2.2.2.2 _ hm.1, trivial⟩ ⟨cW_blind G ad mem as, fun U hU hW => ⟨rfl, by rw [hU]; exact hP, va_K.moved hW.alike hC.2.2.2.1, hC.2.2.2.2.1.warm hW, hC.2.2.2.2.2.1⟩⟩ rfl (by rw [List.length_map]; exact hn) hl.1 (by rw [hst]; simp [F0]) (lv_room (cat_ok ad hcat)) hd (by simpa using hcs)
theorem v_cVI0 {M : Mt} {x : Nat} {pr cl : Nat} {w : vw_C} {Post : Int → Mem → Prop} (hd : decode cc pc = .ok (.invokevirtual x, 3)) (hl0 : Cond.methodLink own x M.1 ∈ gw) (hm : mdV M 0) (hR : M.2.2.2.2.1 + 1 ≤ R.frames ∧ 8 + (M.2.2.1 + 11) + M.2.2.2.2.2 ≤ R.locals) (hk : kd pr = (5, cl)) (hw : vwCl[cl]? = some w) (hwc : w.1 = M.1.cls) (hcs : E.2.1.1 ≤ R.cells ∧ E.2.1.2 ≤ R.slots) (hcat : (st.map ctg).sum ≤ 8) (hq : pc + 3 = q) (hc : CtrI M (aR pr :: []) mem Post) (k : ∀ z m1, Post z m1 → V cc own nL ret R E q ls (aI z :: st) m1) : V cc own nL ret R E pc ls (aR pr :: st) mem :=
  v_callV (as := []) hd hl0 hm hR hk hw hwc hcs rfl rfl hcat hc (fun r m1 hp => by obtain ⟨z, rfl, hp⟩ := hp; rw [hq, if_neg (by intro h; cases h)]; exact k z m1 hp)
theorem v_cVL0 {M : Mt} {x : Nat} {pr cl : Nat} {w : vw_C} {Post : Int → Mem → Prop} (hd : decode cc pc = .ok (.invokevirtual x, 3)) (hl0 : Cond.methodLink own x M.1 ∈ gw) (hm : mdV M 0) (hR : M.2.2.2.2.1 + 1 ≤ R.frames ∧ 8 + (M.2.2.1 + 11) + M.2.2.2.2.2 ≤ R.locals) (hk : kd pr = (5, cl)) (hw : vwCl[cl]? = some w) (hwc : w.1 = M.1.cls) (hcs : E.2.1.1 ≤ R.cells ∧ E.2.1.2 ≤ R.slots) (hcat : (st.map ctg).sum ≤ 8) (hq : pc + 3 = q) (hc : CtrL M (aR pr :: []) mem Post) (k : ∀ z m1, Post z m1 → V cc own nL ret R E q ls (aL z :: st) m1) : V cc own nL ret R E pc ls (aR pr :: st) mem :=
  v_callV (as := []) hd hl0 hm hR hk hw hwc hcs rfl rfl hcat hc (fun r m1 hp => by obtain ⟨z, rfl, hp⟩ := hp; rw [hq, if_neg (by intro h; cases h)]; exact k z m1 hp)
theorem v_cVV0 {M : Mt} {x : Nat} {pr cl : Nat} {w : vw_C} {Post : Mem → Prop} (hd : decode cc pc = .ok (.invokevirtual x, 3)) (hl0 : Cond.methodLink own x M.1 ∈ gw) (hm : mdV M 0) (hR : M.2.2.2.2.1 + 1 ≤ R.frames ∧ 8 + (M.2.2.1 + 11) + M.2.2.2.2.2 ≤ R.locals) (hk : kd pr = (5, cl)) (hw : vwCl[cl]? = some w) (hwc : w.1 = M.1.cls) (hcs : E.2.1.1 ≤ R.cells ∧ E.2.1.2 ≤ R.slots) (hcat : (st.map ctg).sum ≤ 8) (hq : pc + 3 = q) (hc : CtrV M (aR pr :: []) mem Post) (k : ∀ m1, Post m1 → V cc own nL ret R E q ls st m1) : V cc own nL ret R E pc ls (aR pr :: st) mem :=
  v_callV (as := []) hd hl0 hm hR hk hw hwc hcs rfl rfl hcat hc (fun r m1 hp => by obtain ⟨rfl, hp⟩ := hp; rw [hq]; exact k m1 hp)
theorem v_cVI1 {M : Mt} {x : Nat} {b0 : AV} {pr cl : Nat} {w : vw_C} {Post : Int → Mem → Prop} (hd : decode cc pc = .ok (.invokevirtual x, 3)) (hl0 : Cond.methodLink own x M.1 ∈ gw) (hm : mdV M 1) (hR : M.2.2.2.2.1 + 1 ≤ R.frames ∧ 8 + (M.2.2.1 + 11) + M.2.2.2.2.2 ≤ R.locals) (hk : kd pr = (5, cl)) (hw : vwCl[cl]? = some w) (hwc : w.1 = M.1.cls) (hcs : E.2.1.1 ≤ R.cells ∧ E.2.1.2 ≤ R.slots) (hcat : (st.map ctg).sum ≤ 8) (hq : pc + 3 = q) (hc : CtrI M (aR pr :: [b0]) mem Post) (k : ∀ z m1, Post z m1 → V cc own nL ret R E q ls (aI z :: st) m1) : V cc own nL ret R E pc ls (b0 :: aR pr :: st) mem :=
  v_callV (as := [b0]) hd hl0 hm hR hk hw hwc hcs rfl rfl hcat hc (fun r m1 hp => by obtain ⟨z, rfl, hp⟩ := hp; rw [hq, if_neg (by intro h; cases h)]; exact k z m1 hp)
theorem v_cVL1 {M : Mt} {x : Nat} {b0 : AV} {pr cl : Nat} {w : vw_C} {Post : Int → Mem → Prop} (hd : decode cc pc = .ok (.invokevirtual x, 3)) (hl0 : Cond.methodLink own x M.1 ∈ gw) (hm : mdV M 1) (hR : M.2.2.2.2.1 + 1 ≤ R.frames ∧ 8 + (M.2.2.1 + 11) + M.2.2.2.2.2 ≤ R.locals) (hk : kd pr = (5, cl)) (hw : vwCl[cl]? = some w) (hwc : w.1 = M.1.cls) (hcs : E.2.1.1 ≤ R.cells ∧ E.2.1.2 ≤ R.slots) (hcat : (st.map ctg).sum ≤ 8) (hq : pc + 3 = q) (hc : CtrL M (aR pr :: [b0]) mem Post) (k : ∀ z m1, Post z m1 → V cc own nL ret R E q ls (aL z :: st) m1) : V cc own nL ret R E pc ls (b0 :: aR pr :: st) mem :=
  v_callV (as := [b0]) hd hl0 hm hR hk hw hwc hcs rfl rfl hcat hc (fun r m1 hp => by obtain ⟨z, rfl, hp⟩ := hp; rw [hq, if_neg (by intro h; cases h)]; exact k z m1 hp)
theorem v_cVV1 {M : Mt} {x : Nat} {b0 : AV} {pr cl : Nat} {w : vw_C} {Post : Mem → Prop} (hd : decode cc pc = .ok (.invokevirtual x, 3)) (hl0 : Cond.methodLink own x M.1 ∈ gw) (hm : mdV M 1) (hR : M.2.2.2.2.1 + 1 ≤ R.frames ∧ 8 + (M.2.2.1 + 11) + M.2.2.2.2.2 ≤ R.locals) (hk : kd pr = (5, cl)) (hw : vwCl[cl]? = some w) (hwc : w.1 = M.1.cls) (hcs : E.2.1.1 ≤ R.cells ∧ E.2.1.2 ≤ R.slots) (hcat : (st.map ctg).sum ≤ 8) (hq : pc + 3 = q) (hc : CtrV M (aR pr :: [b0]) mem Post) (k : ∀ m1, Post m1 → V cc own nL ret R E q ls st m1) : V cc own nL ret R E pc ls (b0 :: aR pr :: st) mem :=
  v_callV (as := [b0]) hd hl0 hm hR hk hw hwc hcs rfl rfl hcat hc (fun r m1 hp => by obtain ⟨rfl, hp⟩ := hp; rw [hq]; exact k m1 hp)
theorem v_cVI2 {M : Mt} {x : Nat} {b0 b1 : AV} {pr cl : Nat} {w : vw_C} {Post : Int → Mem → Prop} (hd : decode cc pc = .ok (.invokevirtual x, 3)) (hl0 : Cond.methodLink own x M.1 ∈ gw) (hm : mdV M 2) (hR : M.2.2.2.2.1 + 1 ≤ R.frames ∧ 8 + (M.2.2.1 + 11) + M.2.2.2.2.2 ≤ R.locals) (hk : kd pr = (5, cl)) (hw : vwCl[cl]? = some w) (hwc : w.1 = M.1.cls) (hcs : E.2.1.1 ≤ R.cells ∧ E.2.1.2 ≤ R.slots) (hcat : (st.map ctg).sum ≤ 8) (hq : pc + 3 = q) (hc : CtrI M (aR pr :: [b0, b1]) mem Post) (k : ∀ z m1, Post z m1 → V cc own nL ret R E q ls (aI z :: st) m1) : V cc own nL ret R E pc ls (b1 :: b0 :: aR pr :: st) mem :=
  v_callV (as := [b0, b1]) hd hl0 hm hR hk hw hwc hcs rfl rfl hcat hc (fun r m1 hp => by obtain ⟨z, rfl, hp⟩ := hp; rw [hq, if_neg (by intro h; cases h)]; exact k z m1 hp)
theorem v_cVL2 {M : Mt} {x : Nat} {b0 b1 : AV} {pr cl : Nat} {w : vw_C} {Post : Int → Mem → Prop} (hd : decode cc pc = .ok (.invokevirtual x, 3)) (hl0 : Cond.methodLink own x M.1 ∈ gw) (hm : mdV M 2) (hR : M.2.2.2.2.1 + 1 ≤ R.frames ∧ 8 + (M.2.2.1 + 11) + M.2.2.2.2.2 ≤ R.locals) (hk : kd pr = (5, cl)) (hw : vwCl[cl]? = some w) (hwc : w.1 = M.1.cls) (hcs : E.2.1.1 ≤ R.cells ∧ E.2.1.2 ≤ R.slots) (hcat : (st.map ctg).sum ≤ 8) (hq : pc + 3 = q) (hc : CtrL M (aR pr :: [b0, b1]) mem Post) (k : ∀ z m1, Post z m1 → V cc own nL ret R E q ls (aL z :: st) m1) : V cc own nL ret R E pc ls (b1 :: b0 :: aR pr :: st) mem :=
  v_callV (as := [b0, b1]) hd hl0 hm hR hk hw hwc hcs rfl rfl hcat hc (fun r m1 hp => by obtain ⟨z, rfl, hp⟩ := hp; rw [hq, if_neg (by intro h; cases h)]; exact k z m1 hp)
theorem v_cVF2 {M : Mt} {x : Nat} {b0 b1 : AV} {pr cl : Nat} {w : vw_C} {Post : UInt32 → Mem → Prop} (hd : decode cc pc = .ok (.invokevirtual x, 3)) (hl0 : Cond.methodLink own x M.1 ∈ gw) (hm : mdV M 2) (hR : M.2.2.2.2.1 + 1 ≤ R.frames ∧ 8 + (M.2.2.1 + 11) + M.2.2.2.2.2 ≤ R.locals) (hk : kd pr = (5, cl)) (hw : vwCl[cl]? = some w) (hwc : w.1 = M.1.cls) (hcs : E.2.1.1 ≤ R.cells ∧ E.2.1.2 ≤ R.slots) (hcat : (st.map ctg).sum ≤ 8) (hq : pc + 3 = q) (hc : CtrF M (aR pr :: [b0, b1]) mem Post) (k : ∀ z m1, Post z m1 → V cc own nL ret R E q ls (aF z :: st) m1) : V cc own nL ret R E pc ls (b1 :: b0 :: aR pr :: st) mem :=
  v_callV (as := [b0, b1]) hd hl0 hm hR hk hw hwc hcs rfl rfl hcat hc (fun r m1 hp => by obtain ⟨z, rfl, hp⟩ := hp; rw [hq, if_neg (by intro h; cases h)]; exact k z m1 hp)
theorem v_cVV2 {M : Mt} {x : Nat} {b0 b1 : AV} {pr cl : Nat} {w : vw_C} {Post : Mem → Prop} (hd : decode cc pc = .ok (.invokevirtual x, 3)) (hl0 : Cond.methodLink own x M.1 ∈ gw) (hm : mdV M 2) (hR : M.2.2.2.2.1 + 1 ≤ R.frames ∧ 8 + (M.2.2.1 + 11) + M.2.2.2.2.2 ≤ R.locals) (hk : kd pr = (5, cl)) (hw : vwCl[cl]? = some w) (hwc : w.1 = M.1.cls) (hcs : E.2.1.1 ≤ R.cells ∧ E.2.1.2 ≤ R.slots) (hcat : (st.map ctg).sum ≤ 8) (hq : pc + 3 = q) (hc : CtrV M (aR pr :: [b0, b1]) mem Post) (k : ∀ m1, Post m1 → V cc own nL ret R E q ls st m1) : V cc own nL ret R E pc ls (b1 :: b0 :: aR pr :: st) mem :=
  v_callV (as := [b0, b1]) hd hl0 hm hR hk hw hwc hcs rfl rfl hcat hc (fun r m1 hp => by obtain ⟨rfl, hp⟩ := hp; rw [hq]; exact k m1 hp)
theorem v_cVI3 {M : Mt} {x : Nat} {b0 b1 b2 : AV} {pr cl : Nat} {w : vw_C} {Post : Int → Mem → Prop} (hd : decode cc pc = .ok (.invokevirtual x, 3)) (hl0 : Cond.methodLink own x M.1 ∈ gw) (hm : mdV M 3) (hR : M.2.2.2.2.1 + 1 ≤ R.frames ∧ 8 + (M.2.2.1 + 11) + M.2.2.2.2.2 ≤ R.locals) (hk : kd pr = (5, cl)) (hw : vwCl[cl]? = some w) (hwc : w.1 = M.1.cls) (hcs : E.2.1.1 ≤ R.cells ∧ E.2.1.2 ≤ R.slots) (hcat : (st.map ctg).sum ≤ 8) (hq : pc + 3 = q) (hc : CtrI M (aR pr :: [b0, b1, b2]) mem Post) (k : ∀ z m1, Post z m1 → V cc own nL ret R E q ls (aI z :: st) m1) : V cc own nL ret R E pc ls (b2 :: b1 :: b0 :: aR pr :: st) mem :=
  v_callV (as := [b0, b1, b2]) hd hl0 hm hR hk hw hwc hcs rfl rfl hcat hc (fun r m1 hp => by obtain ⟨z, rfl, hp⟩ := hp; rw [hq, if_neg (by intro h; cases h)]; exact k z m1 hp)
theorem v_cVL3 {M : Mt} {x : Nat} {b0 b1 b2 : AV} {pr cl : Nat} {w : vw_C} {Post : Int → Mem → Prop} (hd : decode cc pc = .ok (.invokevirtual x, 3)) (hl0 : Cond.methodLink own x M.1 ∈ gw) (hm : mdV M 3) (hR : M.2.2.2.2.1 + 1 ≤ R.frames ∧ 8 + (M.2.2.1 + 11) + M.2.2.2.2.2 ≤ R.locals) (hk : kd pr = (5, cl)) (hw : vwCl[cl]? = some w) (hwc : w.1 = M.1.cls) (hcs : E.2.1.1 ≤ R.cells ∧ E.2.1.2 ≤ R.slots) (hcat : (st.map ctg).sum ≤ 8) (hq : pc + 3 = q) (hc : CtrL M (aR pr :: [b0, b1, b2]) mem Post) (k : ∀ z m1, Post z m1 → V cc own nL ret R E q ls (aL z :: st) m1) : V cc own nL ret R E pc ls (b2 :: b1 :: b0 :: aR pr :: st) mem :=
  v_callV (as := [b0, b1, b2]) hd hl0 hm hR hk hw hwc hcs rfl rfl hcat hc (fun r m1 hp => by obtain ⟨z, rfl, hp⟩ := hp; rw [hq, if_neg (by intro h; cases h)]; exact k z m1 hp)
theorem v_cVV3 {M : Mt} {x : Nat} {b0 b1 b2 : AV} {pr cl : Nat} {w : vw_C} {Post : Mem → Prop} (hd : decode cc pc = .ok (.invokevirtual x, 3)) (hl0 : Cond.methodLink own x M.1 ∈ gw) (hm : mdV M 3) (hR : M.2.2.2.2.1 + 1 ≤ R.frames ∧ 8 + (M.2.2.1 + 11) + M.2.2.2.2.2 ≤ R.locals) (hk : kd pr = (5, cl)) (hw : vwCl[cl]? = some w) (hwc : w.1 = M.1.cls) (hcs : E.2.1.1 ≤ R.cells ∧ E.2.1.2 ≤ R.slots) (hcat : (st.map ctg).sum ≤ 8) (hq : pc + 3 = q) (hc : CtrV M (aR pr :: [b0, b1, b2]) mem Post) (k : ∀ m1, Post m1 → V cc own nL ret R E q ls st m1) : V cc own nL ret R E pc ls (b2 :: b1 :: b0 :: aR pr :: st) mem :=
  v_callV (as := [b0, b1, b2]) hd hl0 hm hR hk hw hwc hcs rfl rfl hcat hc (fun r m1 hp => by obtain ⟨rfl, hp⟩ := hp; rw [hq]; exact k m1 hp)
theorem v_cVI4 {M : Mt} {x : Nat} {b0 b1 b2 b3 : AV} {pr cl : Nat} {w : vw_C} {Post : Int → Mem → Prop} (hd : decode cc pc = .ok (.invokevirtual x, 3)) (hl0 : Cond.methodLink own x M.1 ∈ gw) (hm : mdV M 4) (hR : M.2.2.2.2.1 + 1 ≤ R.frames ∧ 8 + (M.2.2.1 + 11) + M.2.2.2.2.2 ≤ R.locals) (hk : kd pr = (5, cl)) (hw : vwCl[cl]? = some w) (hwc : w.1 = M.1.cls) (hcs : E.2.1.1 ≤ R.cells ∧ E.2.1.2 ≤ R.slots) (hcat : (st.map ctg).sum ≤ 8) (hq : pc + 3 = q) (hc : CtrI M (aR pr :: [b0, b1, b2, b3]) mem Post) (k : ∀ z m1, Post z m1 → V cc own nL ret R E q ls (aI z :: st) m1) : V cc own nL ret R E pc ls (b3 :: b2 :: b1 :: b0 :: aR pr :: st) mem :=
  v_callV (as := [b0, b1, b2, b3]) hd hl0 hm hR hk hw hwc hcs rfl rfl hcat hc (fun r m1 hp => by obtain ⟨z, rfl, hp⟩ := hp; rw [hq, if_neg (by intro h; cases h)]; exact k z m1 hp)
theorem v_cVL4 {M : Mt} {x : Nat} {b0 b1 b2 b3 : AV} {pr cl : Nat} {w : vw_C} {Post : Int → Mem → Prop} (hd : decode cc pc = .ok (.invokevirtual x, 3)) (hl0 : Cond.methodLink own x M.1 ∈ gw) (hm : mdV M 4) (hR : M.2.2.2.2.1 + 1 ≤ R.frames ∧ 8 + (M.2.2.1 + 11) + M.2.2.2.2.2 ≤ R.locals) (hk : kd pr = (5, cl)) (hw : vwCl[cl]? = some w) (hwc : w.1 = M.1.cls) (hcs : E.2.1.1 ≤ R.cells ∧ E.2.1.2 ≤ R.slots) (hcat : (st.map ctg).sum ≤ 8) (hq : pc + 3 = q) (hc : CtrL M (aR pr :: [b0, b1, b2, b3]) mem Post) (k : ∀ z m1, Post z m1 → V cc own nL ret R E q ls (aL z :: st) m1) : V cc own nL ret R E pc ls (b3 :: b2 :: b1 :: b0 :: aR pr :: st) mem :=
  v_callV (as := [b0, b1, b2, b3]) hd hl0 hm hR hk hw hwc hcs rfl rfl hcat hc (fun r m1 hp => by obtain ⟨z, rfl, hp⟩ := hp; rw [hq, if_neg (by intro h; cases h)]; exact k z m1 hp)
theorem v_cVV4 {M : Mt} {x : Nat} {b0 b1 b2 b3 : AV} {pr cl : Nat} {w : vw_C} {Post : Mem → Prop} (hd : decode cc pc = .ok (.invokevirtual x, 3)) (hl0 : Cond.methodLink own x M.1 ∈ gw) (hm : mdV M 4) (hR : M.2.2.2.2.1 + 1 ≤ R.frames ∧ 8 + (M.2.2.1 + 11) + M.2.2.2.2.2 ≤ R.locals) (hk : kd pr = (5, cl)) (hw : vwCl[cl]? = some w) (hwc : w.1 = M.1.cls) (hcs : E.2.1.1 ≤ R.cells ∧ E.2.1.2 ≤ R.slots) (hcat : (st.map ctg).sum ≤ 8) (hq : pc + 3 = q) (hc : CtrV M (aR pr :: [b0, b1, b2, b3]) mem Post) (k : ∀ m1, Post m1 → V cc own nL ret R E q ls st m1) : V cc own nL ret R E pc ls (b3 :: b2 :: b1 :: b0 :: aR pr :: st) mem :=
  v_callV (as := [b0, b1, b2, b3]) hd hl0 hm hR hk hw hwc hcs rfl rfl hcat hc (fun r m1 hp => by obtain ⟨rfl, hp⟩ := hp; rw [hq]; exact k m1 hp)
theorem v_cVI5 {M : Mt} {x : Nat} {b0 b1 b2 b3 b4 : AV} {pr cl : Nat} {w : vw_C} {Post : Int → Mem → Prop} (hd : decode cc pc = .ok (.invokevirtual x, 3)) (hl0 : Cond.methodLink own x M.1 ∈ gw) (hm : mdV M 5) (hR : M.2.2.2.2.1 + 1 ≤ R.frames ∧ 8 + (M.2.2.1 + 11) + M.2.2.2.2.2 ≤ R.locals) (hk : kd pr = (5, cl)) (hw : vwCl[cl]? = some w) (hwc : w.1 = M.1.cls) (hcs : E.2.1.1 ≤ R.cells ∧ E.2.1.2 ≤ R.slots) (hcat : (st.map ctg).sum ≤ 8) (hq : pc + 3 = q) (hc : CtrI M (aR pr :: [b0, b1, b2, b3, b4]) mem Post) (k : ∀ z m1, Post z m1 → V cc own nL ret R E q ls (aI z :: st) m1) : V cc own nL ret R E pc ls (b4 :: b3 :: b2 :: b1 :: b0 :: aR pr :: st) mem :=
  v_callV (as := [b0, b1, b2, b3, b4]) hd hl0 hm hR hk hw hwc hcs rfl rfl hcat hc (fun r m1 hp => by obtain ⟨z, rfl, hp⟩ := hp; rw [hq, if_neg (by intro h; cases h)]; exact k z m1 hp)
theorem v_cVL5 {M : Mt} {x : Nat} {b0 b1 b2 b3 b4 : AV} {pr cl : Nat} {w : vw_C} {Post : Int → Mem → Prop} (hd : decode cc pc = .ok (.invokevirtual x, 3)) (hl0 : Cond.methodLink own x M.1 ∈ gw) (hm : mdV M 5) (hR : M.2.2.2.2.1 + 1 ≤ R.frames ∧ 8 + (M.2.2.1 + 11) + M.2.2.2.2.2 ≤ R.locals) (hk : kd pr = (5, cl)) (hw : vwCl[cl]? = some w) (hwc : w.1 = M.1.cls) (hcs : E.2.1.1 ≤ R.cells ∧ E.2.1.2 ≤ R.slots) (hcat : (st.map ctg).sum ≤ 8) (hq : pc + 3 = q) (hc : CtrL M (aR pr :: [b0, b1, b2, b3, b4]) mem Post) (k : ∀ z m1, Post z m1 → V cc own nL ret R E q ls (aL z :: st) m1) : V cc own nL ret R E pc ls (b4 :: b3 :: b2 :: b1 :: b0 :: aR pr :: st) mem :=
  v_callV (as := [b0, b1, b2, b3, b4]) hd hl0 hm hR hk hw hwc hcs rfl rfl hcat hc (fun r m1 hp => by obtain ⟨z, rfl, hp⟩ := hp; rw [hq, if_neg (by intro h; cases h)]; exact k z m1 hp)
theorem v_cVV5 {M : Mt} {x : Nat} {b0 b1 b2 b3 b4 : AV} {pr cl : Nat} {w : vw_C} {Post : Mem → Prop} (hd : decode cc pc = .ok (.invokevirtual x, 3)) (hl0 : Cond.methodLink own x M.1 ∈ gw) (hm : mdV M 5) (hR : M.2.2.2.2.1 + 1 ≤ R.frames ∧ 8 + (M.2.2.1 + 11) + M.2.2.2.2.2 ≤ R.locals) (hk : kd pr = (5, cl)) (hw : vwCl[cl]? = some w) (hwc : w.1 = M.1.cls) (hcs : E.2.1.1 ≤ R.cells ∧ E.2.1.2 ≤ R.slots) (hcat : (st.map ctg).sum ≤ 8) (hq : pc + 3 = q) (hc : CtrV M (aR pr :: [b0, b1, b2, b3, b4]) mem Post) (k : ∀ m1, Post m1 → V cc own nL ret R E q ls st m1) : V cc own nL ret R E pc ls (b4 :: b3 :: b2 :: b1 :: b0 :: aR pr :: st) mem :=
  v_callV (as := [b0, b1, b2, b3, b4]) hd hl0 hm hR hk hw hwc hcs rfl rfl hcat hc (fun r m1 hp => by obtain ⟨rfl, hp⟩ := hp; rw [hq]; exact k m1 hp)
theorem v_cVI6 {M : Mt} {x : Nat} {b0 b1 b2 b3 b4 b5 : AV} {pr cl : Nat} {w : vw_C} {Post : Int → Mem → Prop} (hd : decode cc pc = .ok (.invokevirtual x, 3)) (hl0 : Cond.methodLink own x M.1 ∈ gw) (hm : mdV M 6) (hR : M.2.2.2.2.1 + 1 ≤ R.frames ∧ 8 + (M.2.2.1 + 11) + M.2.2.2.2.2 ≤ R.locals) (hk : kd pr = (5, cl)) (hw : vwCl[cl]? = some w) (hwc : w.1 = M.1.cls) (hcs : E.2.1.1 ≤ R.cells ∧ E.2.1.2 ≤ R.slots) (hcat : (st.map ctg).sum ≤ 8) (hq : pc + 3 = q) (hc : CtrI M (aR pr :: [b0, b1, b2, b3, b4, b5]) mem Post) (k : ∀ z m1, Post z m1 → V cc own nL ret R E q ls (aI z :: st) m1) : V cc own nL ret R E pc ls (b5 :: b4 :: b3 :: b2 :: b1 :: b0 :: aR pr :: st) mem :=
  v_callV (as := [b0, b1, b2, b3, b4, b5]) hd hl0 hm hR hk hw hwc hcs rfl rfl hcat hc (fun r m1 hp => by obtain ⟨z, rfl, hp⟩ := hp; rw [hq, if_neg (by intro h; cases h)]; exact k z m1 hp)
theorem v_cVL6 {M : Mt} {x : Nat} {b0 b1 b2 b3 b4 b5 : AV} {pr cl : Nat} {w : vw_C} {Post : Int → Mem → Prop} (hd : decode cc pc = .ok (.invokevirtual x, 3)) (hl0 : Cond.methodLink own x M.1 ∈ gw) (hm : mdV M 6) (hR : M.2.2.2.2.1 + 1 ≤ R.frames ∧ 8 + (M.2.2.1 + 11) + M.2.2.2.2.2 ≤ R.locals) (hk : kd pr = (5, cl)) (hw : vwCl[cl]? = some w) (hwc : w.1 = M.1.cls) (hcs : E.2.1.1 ≤ R.cells ∧ E.2.1.2 ≤ R.slots) (hcat : (st.map ctg).sum ≤ 8) (hq : pc + 3 = q) (hc : CtrL M (aR pr :: [b0, b1, b2, b3, b4, b5]) mem Post) (k : ∀ z m1, Post z m1 → V cc own nL ret R E q ls (aL z :: st) m1) : V cc own nL ret R E pc ls (b5 :: b4 :: b3 :: b2 :: b1 :: b0 :: aR pr :: st) mem :=
  v_callV (as := [b0, b1, b2, b3, b4, b5]) hd hl0 hm hR hk hw hwc hcs rfl rfl hcat hc (fun r m1 hp => by obtain ⟨z, rfl, hp⟩ := hp; rw [hq, if_neg (by intro h; cases h)]; exact k z m1 hp)
theorem v_cVV6 {M : Mt} {x : Nat} {b0 b1 b2 b3 b4 b5 : AV} {pr cl : Nat} {w : vw_C} {Post : Mem → Prop} (hd : decode cc pc = .ok (.invokevirtual x, 3)) (hl0 : Cond.methodLink own x M.1 ∈ gw) (hm : mdV M 6) (hR : M.2.2.2.2.1 + 1 ≤ R.frames ∧ 8 + (M.2.2.1 + 11) + M.2.2.2.2.2 ≤ R.locals) (hk : kd pr = (5, cl)) (hw : vwCl[cl]? = some w) (hwc : w.1 = M.1.cls) (hcs : E.2.1.1 ≤ R.cells ∧ E.2.1.2 ≤ R.slots) (hcat : (st.map ctg).sum ≤ 8) (hq : pc + 3 = q) (hc : CtrV M (aR pr :: [b0, b1, b2, b3, b4, b5]) mem Post) (k : ∀ m1, Post m1 → V cc own nL ret R E q ls st m1) : V cc own nL ret R E pc ls (b5 :: b4 :: b3 :: b2 :: b1 :: b0 :: aR pr :: st) mem :=
  v_callV (as := [b0, b1, b2, b3, b4, b5]) hd hl0 hm hR hk hw hwc hcs rfl rfl hcat hc (fun r m1 hp => by obtain ⟨rfl, hp⟩ := hp; rw [hq]; exact k m1 hp)
theorem v_cSI1 {M : Mt} {x : Nat} {b0 : AV} {Post : Int → Mem → Prop} (hd : decode cc pc = .ok (.invokestatic x, 3)) (hl0 : Cond.methodLink own x M.1 ∈ gw) (hm : mdS M 1) (hR : M.2.2.2.2.1 + 1 ≤ R.frames ∧ 8 + (M.2.2.1 + 11) + M.2.2.2.2.2 ≤ R.locals) (hcs : E.2.1.1 ≤ R.cells ∧ E.2.1.2 ≤ R.slots) (hcat : (st.map ctg).sum ≤ 8) (hq : pc + 3 = q) (hc : CtrI M [b0] mem Post) (k : ∀ z m1, Post z m1 → V cc own nL ret R E q ls (aI z :: st) m1) : V cc own nL ret R E pc ls (b0 :: st) mem :=
  v_callS (as := [b0]) hd hl0 hm hR hcs rfl rfl hcat hc (fun r m1 hp => by obtain ⟨z, rfl, hp⟩ := hp; rw [hq, if_neg (by intro h; cases h)]; exact k z m1 hp)
theorem v_cSL1 {M : Mt} {x : Nat} {b0 : AV} {Post : Int → Mem → Prop} (hd : decode cc pc = .ok (.invokestatic x, 3)) (hl0 : Cond.methodLink own x M.1 ∈ gw) (hm : mdS M 1) (hR : M.2.2.2.2.1 + 1 ≤ R.frames ∧ 8 + (M.2.2.1 + 11) + M.2.2.2.2.2 ≤ R.locals) (hcs : E.2.1.1 ≤ R.cells ∧ E.2.1.2 ≤ R.slots) (hcat : (st.map ctg).sum ≤ 8) (hq : pc + 3 = q) (hc : CtrL M [b0] mem Post) (k : ∀ z m1, Post z m1 → V cc own nL ret R E q ls (aL z :: st) m1) : V cc own nL ret R E pc ls (b0 :: st) mem :=
  v_callS (as := [b0]) hd hl0 hm hR hcs rfl rfl hcat hc (fun r m1 hp => by obtain ⟨z, rfl, hp⟩ := hp; rw [hq, if_neg (by intro h; cases h)]; exact k z m1 hp)
theorem v_cSV1 {M : Mt} {x : Nat} {b0 : AV} {Post : Mem → Prop} (hd : decode cc pc = .ok (.invokestatic x, 3)) (hl0 : Cond.methodLink own x M.1 ∈ gw) (hm : mdS M 1) (hR : M.2.2.2.2.1 + 1 ≤ R.frames ∧ 8 + (M.2.2.1 + 11) + M.2.2.2.2.2 ≤ R.locals) (hcs : E.2.1.1 ≤ R.cells ∧ E.2.1.2 ≤ R.slots) (hcat : (st.map ctg).sum ≤ 8) (hq : pc + 3 = q) (hc : CtrV M [b0] mem Post) (k : ∀ m1, Post m1 → V cc own nL ret R E q ls st m1) : V cc own nL ret R E pc ls (b0 :: st) mem :=
  v_callS (as := [b0]) hd hl0 hm hR hcs rfl rfl hcat hc (fun r m1 hp => by obtain ⟨rfl, hp⟩ := hp; rw [hq]; exact k m1 hp)
theorem v_cSI2 {M : Mt} {x : Nat} {b0 b1 : AV} {Post : Int → Mem → Prop} (hd : decode cc pc = .ok (.invokestatic x, 3)) (hl0 : Cond.methodLink own x M.1 ∈ gw) (hm : mdS M 2) (hR : M.2.2.2.2.1 + 1 ≤ R.frames ∧ 8 + (M.2.2.1 + 11) + M.2.2.2.2.2 ≤ R.locals) (hcs : E.2.1.1 ≤ R.cells ∧ E.2.1.2 ≤ R.slots) (hcat : (st.map ctg).sum ≤ 8) (hq : pc + 3 = q) (hc : CtrI M [b0, b1] mem Post) (k : ∀ z m1, Post z m1 → V cc own nL ret R E q ls (aI z :: st) m1) : V cc own nL ret R E pc ls (b1 :: b0 :: st) mem :=
  v_callS (as := [b0, b1]) hd hl0 hm hR hcs rfl rfl hcat hc (fun r m1 hp => by obtain ⟨z, rfl, hp⟩ := hp; rw [hq, if_neg (by intro h; cases h)]; exact k z m1 hp)
theorem v_cSL2 {M : Mt} {x : Nat} {b0 b1 : AV} {Post : Int → Mem → Prop} (hd : decode cc pc = .ok (.invokestatic x, 3)) (hl0 : Cond.methodLink own x M.1 ∈ gw) (hm : mdS M 2) (hR : M.2.2.2.2.1 + 1 ≤ R.frames ∧ 8 + (M.2.2.1 + 11) + M.2.2.2.2.2 ≤ R.locals) (hcs : E.2.1.1 ≤ R.cells ∧ E.2.1.2 ≤ R.slots) (hcat : (st.map ctg).sum ≤ 8) (hq : pc + 3 = q) (hc : CtrL M [b0, b1] mem Post) (k : ∀ z m1, Post z m1 → V cc own nL ret R E q ls (aL z :: st) m1) : V cc own nL ret R E pc ls (b1 :: b0 :: st) mem :=
  v_callS (as := [b0, b1]) hd hl0 hm hR hcs rfl rfl hcat hc (fun r m1 hp => by obtain ⟨z, rfl, hp⟩ := hp; rw [hq, if_neg (by intro h; cases h)]; exact k z m1 hp)
theorem v_cSV2 {M : Mt} {x : Nat} {b0 b1 : AV} {Post : Mem → Prop} (hd : decode cc pc = .ok (.invokestatic x, 3)) (hl0 : Cond.methodLink own x M.1 ∈ gw) (hm : mdS M 2) (hR : M.2.2.2.2.1 + 1 ≤ R.frames ∧ 8 + (M.2.2.1 + 11) + M.2.2.2.2.2 ≤ R.locals) (hcs : E.2.1.1 ≤ R.cells ∧ E.2.1.2 ≤ R.slots) (hcat : (st.map ctg).sum ≤ 8) (hq : pc + 3 = q) (hc : CtrV M [b0, b1] mem Post) (k : ∀ m1, Post m1 → V cc own nL ret R E q ls st m1) : V cc own nL ret R E pc ls (b1 :: b0 :: st) mem :=
  v_callS (as := [b0, b1]) hd hl0 hm hR hcs rfl rfl hcat hc (fun r m1 hp => by obtain ⟨rfl, hp⟩ := hp; rw [hq]; exact k m1 hp)
theorem v_cSI3 {M : Mt} {x : Nat} {b0 b1 b2 : AV} {Post : Int → Mem → Prop} (hd : decode cc pc = .ok (.invokestatic x, 3)) (hl0 : Cond.methodLink own x M.1 ∈ gw) (hm : mdS M 3) (hR : M.2.2.2.2.1 + 1 ≤ R.frames ∧ 8 + (M.2.2.1 + 11) + M.2.2.2.2.2 ≤ R.locals) (hcs : E.2.1.1 ≤ R.cells ∧ E.2.1.2 ≤ R.slots) (hcat : (st.map ctg).sum ≤ 8) (hq : pc + 3 = q) (hc : CtrI M [b0, b1, b2] mem Post) (k : ∀ z m1, Post z m1 → V cc own nL ret R E q ls (aI z :: st) m1) : V cc own nL ret R E pc ls (b2 :: b1 :: b0 :: st) mem :=
  v_callS (as := [b0, b1, b2]) hd hl0 hm hR hcs rfl rfl hcat hc (fun r m1 hp => by obtain ⟨z, rfl, hp⟩ := hp; rw [hq, if_neg (by intro h; cases h)]; exact k z m1 hp)
theorem v_cSL3 {M : Mt} {x : Nat} {b0 b1 b2 : AV} {Post : Int → Mem → Prop} (hd : decode cc pc = .ok (.invokestatic x, 3)) (hl0 : Cond.methodLink own x M.1 ∈ gw) (hm : mdS M 3) (hR : M.2.2.2.2.1 + 1 ≤ R.frames ∧ 8 + (M.2.2.1 + 11) + M.2.2.2.2.2 ≤ R.locals) (hcs : E.2.1.1 ≤ R.cells ∧ E.2.1.2 ≤ R.slots) (hcat : (st.map ctg).sum ≤ 8) (hq : pc + 3 = q) (hc : CtrL M [b0, b1, b2] mem Post) (k : ∀ z m1, Post z m1 → V cc own nL ret R E q ls (aL z :: st) m1) : V cc own nL ret R E pc ls (b2 :: b1 :: b0 :: st) mem :=
  v_callS (as := [b0, b1, b2]) hd hl0 hm hR hcs rfl rfl hcat hc (fun r m1 hp => by obtain ⟨z, rfl, hp⟩ := hp; rw [hq, if_neg (by intro h; cases h)]; exact k z m1 hp)
theorem v_cSV3 {M : Mt} {x : Nat} {b0 b1 b2 : AV} {Post : Mem → Prop} (hd : decode cc pc = .ok (.invokestatic x, 3)) (hl0 : Cond.methodLink own x M.1 ∈ gw) (hm : mdS M 3) (hR : M.2.2.2.2.1 + 1 ≤ R.frames ∧ 8 + (M.2.2.1 + 11) + M.2.2.2.2.2 ≤ R.locals) (hcs : E.2.1.1 ≤ R.cells ∧ E.2.1.2 ≤ R.slots) (hcat : (st.map ctg).sum ≤ 8) (hq : pc + 3 = q) (hc : CtrV M [b0, b1, b2] mem Post) (k : ∀ m1, Post m1 → V cc own nL ret R E q ls st m1) : V cc own nL ret R E pc ls (b2 :: b1 :: b0 :: st) mem :=
  v_callS (as := [b0, b1, b2]) hd hl0 hm hR hcs rfl rfl hcat hc (fun r m1 hp => by obtain ⟨rfl, hp⟩ := hp; rw [hq]; exact k m1 hp)
theorem v_cSI4 {M : Mt} {x : Nat} {b0 b1 b2 b3 : AV} {Post : Int → Mem → Prop} (hd : decode cc pc = .ok (.invokestatic x, 3)) (hl0 : Cond.methodLink own x M.1 ∈ gw) (hm : mdS M 4) (hR : M.2.2.2.2.1 + 1 ≤ R.frames ∧ 8 + (M.2.2.1 + 11) + M.2.2.2.2.2 ≤ R.locals) (hcs : E.2.1.1 ≤ R.cells ∧ E.2.1.2 ≤ R.slots) (hcat : (st.map ctg).sum ≤ 8) (hq : pc + 3 = q) (hc : CtrI M [b0, b1, b2, b3] mem Post) (k : ∀ z m1, Post z m1 → V cc own nL ret R E q ls (aI z :: st) m1) : V cc own nL ret R E pc ls (b3 :: b2 :: b1 :: b0 :: st) mem :=
  v_callS (as := [b0, b1, b2, b3]) hd hl0 hm hR hcs rfl rfl hcat hc (fun r m1 hp => by obtain ⟨z, rfl, hp⟩ := hp; rw [hq, if_neg (by intro h; cases h)]; exact k z m1 hp)
theorem v_cSL4 {M : Mt} {x : Nat} {b0 b1 b2 b3 : AV} {Post : Int → Mem → Prop} (hd : decode cc pc = .ok (.invokestatic x, 3)) (hl0 : Cond.methodLink own x M.1 ∈ gw) (hm : mdS M 4) (hR : M.2.2.2.2.1 + 1 ≤ R.frames ∧ 8 + (M.2.2.1 + 11) + M.2.2.2.2.2 ≤ R.locals) (hcs : E.2.1.1 ≤ R.cells ∧ E.2.1.2 ≤ R.slots) (hcat : (st.map ctg).sum ≤ 8) (hq : pc + 3 = q) (hc : CtrL M [b0, b1, b2, b3] mem Post) (k : ∀ z m1, Post z m1 → V cc own nL ret R E q ls (aL z :: st) m1) : V cc own nL ret R E pc ls (b3 :: b2 :: b1 :: b0 :: st) mem :=
  v_callS (as := [b0, b1, b2, b3]) hd hl0 hm hR hcs rfl rfl hcat hc (fun r m1 hp => by obtain ⟨z, rfl, hp⟩ := hp; rw [hq, if_neg (by intro h; cases h)]; exact k z m1 hp)
theorem v_cSV4 {M : Mt} {x : Nat} {b0 b1 b2 b3 : AV} {Post : Mem → Prop} (hd : decode cc pc = .ok (.invokestatic x, 3)) (hl0 : Cond.methodLink own x M.1 ∈ gw) (hm : mdS M 4) (hR : M.2.2.2.2.1 + 1 ≤ R.frames ∧ 8 + (M.2.2.1 + 11) + M.2.2.2.2.2 ≤ R.locals) (hcs : E.2.1.1 ≤ R.cells ∧ E.2.1.2 ≤ R.slots) (hcat : (st.map ctg).sum ≤ 8) (hq : pc + 3 = q) (hc : CtrV M [b0, b1, b2, b3] mem Post) (k : ∀ m1, Post m1 → V cc own nL ret R E q ls st m1) : V cc own nL ret R E pc ls (b3 :: b2 :: b1 :: b0 :: st) mem :=
  v_callS (as := [b0, b1, b2, b3]) hd hl0 hm hR hcs rfl rfl hcat hc (fun r m1 hp => by obtain ⟨rfl, hp⟩ := hp; rw [hq]; exact k m1 hp)
theorem v_cSI5 {M : Mt} {x : Nat} {b0 b1 b2 b3 b4 : AV} {Post : Int → Mem → Prop} (hd : decode cc pc = .ok (.invokestatic x, 3)) (hl0 : Cond.methodLink own x M.1 ∈ gw) (hm : mdS M 5) (hR : M.2.2.2.2.1 + 1 ≤ R.frames ∧ 8 + (M.2.2.1 + 11) + M.2.2.2.2.2 ≤ R.locals) (hcs : E.2.1.1 ≤ R.cells ∧ E.2.1.2 ≤ R.slots) (hcat : (st.map ctg).sum ≤ 8) (hq : pc + 3 = q) (hc : CtrI M [b0, b1, b2, b3, b4] mem Post) (k : ∀ z m1, Post z m1 → V cc own nL ret R E q ls (aI z :: st) m1) : V cc own nL ret R E pc ls (b4 :: b3 :: b2 :: b1 :: b0 :: st) mem :=
  v_callS (as := [b0, b1, b2, b3, b4]) hd hl0 hm hR hcs rfl rfl hcat hc (fun r m1 hp => by obtain ⟨z, rfl, hp⟩ := hp; rw [hq, if_neg (by intro h; cases h)]; exact k z m1 hp)
theorem v_cSL5 {M : Mt} {x : Nat} {b0 b1 b2 b3 b4 : AV} {Post : Int → Mem → Prop} (hd : decode cc pc = .ok (.invokestatic x, 3)) (hl0 : Cond.methodLink own x M.1 ∈ gw) (hm : mdS M 5) (hR : M.2.2.2.2.1 + 1 ≤ R.frames ∧ 8 + (M.2.2.1 + 11) + M.2.2.2.2.2 ≤ R.locals) (hcs : E.2.1.1 ≤ R.cells ∧ E.2.1.2 ≤ R.slots) (hcat : (st.map ctg).sum ≤ 8) (hq : pc + 3 = q) (hc : CtrL M [b0, b1, b2, b3, b4] mem Post) (k : ∀ z m1, Post z m1 → V cc own nL ret R E q ls (aL z :: st) m1) : V cc own nL ret R E pc ls (b4 :: b3 :: b2 :: b1 :: b0 :: st) mem :=
  v_callS (as := [b0, b1, b2, b3, b4]) hd hl0 hm hR hcs rfl rfl hcat hc (fun r m1 hp => by obtain ⟨z, rfl, hp⟩ := hp; rw [hq, if_neg (by intro h; cases h)]; exact k z m1 hp)
theorem v_cSV5 {M : Mt} {x : Nat} {b0 b1 b2 b3 b4 : AV} {Post : Mem → Prop} (hd : decode cc pc = .ok (.invokestatic x, 3)) (hl0 : Cond.methodLink own x M.1 ∈ gw) (hm : mdS M 5) (hR : M.2.2.2.2.1 + 1 ≤ R.frames ∧ 8 + (M.2.2.1 + 11) + M.2.2.2.2.2 ≤ R.locals) (hcs : E.2.1.1 ≤ R.cells ∧ E.2.1.2 ≤ R.slots) (hcat : (st.map ctg).sum ≤ 8) (hq : pc + 3 = q) (hc : CtrV M [b0, b1, b2, b3, b4] mem Post) (k : ∀ m1, Post m1 → V cc own nL ret R E q ls st m1) : V cc own nL ret R E pc ls (b4 :: b3 :: b2 :: b1 :: b0 :: st) mem :=
  v_callS (as := [b0, b1, b2, b3, b4]) hd hl0 hm hR hcs rfl rfl hcat hc (fun r m1 hp => by obtain ⟨rfl, hp⟩ := hp; rw [hq]; exact k m1 hp)
theorem v_cSI6 {M : Mt} {x : Nat} {b0 b1 b2 b3 b4 b5 : AV} {Post : Int → Mem → Prop} (hd : decode cc pc = .ok (.invokestatic x, 3)) (hl0 : Cond.methodLink own x M.1 ∈ gw) (hm : mdS M 6) (hR : M.2.2.2.2.1 + 1 ≤ R.frames ∧ 8 + (M.2.2.1 + 11) + M.2.2.2.2.2 ≤ R.locals) (hcs : E.2.1.1 ≤ R.cells ∧ E.2.1.2 ≤ R.slots) (hcat : (st.map ctg).sum ≤ 8) (hq : pc + 3 = q) (hc : CtrI M [b0, b1, b2, b3, b4, b5] mem Post) (k : ∀ z m1, Post z m1 → V cc own nL ret R E q ls (aI z :: st) m1) : V cc own nL ret R E pc ls (b5 :: b4 :: b3 :: b2 :: b1 :: b0 :: st) mem :=
  v_callS (as := [b0, b1, b2, b3, b4, b5]) hd hl0 hm hR hcs rfl rfl hcat hc (fun r m1 hp => by obtain ⟨z, rfl, hp⟩ := hp; rw [hq, if_neg (by intro h; cases h)]; exact k z m1 hp)
theorem v_cSL6 {M : Mt} {x : Nat} {b0 b1 b2 b3 b4 b5 : AV} {Post : Int → Mem → Prop} (hd : decode cc pc = .ok (.invokestatic x, 3)) (hl0 : Cond.methodLink own x M.1 ∈ gw) (hm : mdS M 6) (hR : M.2.2.2.2.1 + 1 ≤ R.frames ∧ 8 + (M.2.2.1 + 11) + M.2.2.2.2.2 ≤ R.locals) (hcs : E.2.1.1 ≤ R.cells ∧ E.2.1.2 ≤ R.slots) (hcat : (st.map ctg).sum ≤ 8) (hq : pc + 3 = q) (hc : CtrL M [b0, b1, b2, b3, b4, b5] mem Post) (k : ∀ z m1, Post z m1 → V cc own nL ret R E q ls (aL z :: st) m1) : V cc own nL ret R E pc ls (b5 :: b4 :: b3 :: b2 :: b1 :: b0 :: st) mem :=
  v_callS (as := [b0, b1, b2, b3, b4, b5]) hd hl0 hm hR hcs rfl rfl hcat hc (fun r m1 hp => by obtain ⟨z, rfl, hp⟩ := hp; rw [hq, if_neg (by intro h; cases h)]; exact k z m1 hp)
theorem v_cSV6 {M : Mt} {x : Nat} {b0 b1 b2 b3 b4 b5 : AV} {Post : Mem → Prop} (hd : decode cc pc = .ok (.invokestatic x, 3)) (hl0 : Cond.methodLink own x M.1 ∈ gw) (hm : mdS M 6) (hR : M.2.2.2.2.1 + 1 ≤ R.frames ∧ 8 + (M.2.2.1 + 11) + M.2.2.2.2.2 ≤ R.locals) (hcs : E.2.1.1 ≤ R.cells ∧ E.2.1.2 ≤ R.slots) (hcat : (st.map ctg).sum ≤ 8) (hq : pc + 3 = q) (hc : CtrV M [b0, b1, b2, b3, b4, b5] mem Post) (k : ∀ m1, Post m1 → V cc own nL ret R E q ls st m1) : V cc own nL ret R E pc ls (b5 :: b4 :: b3 :: b2 :: b1 :: b0 :: st) mem :=
  v_callS (as := [b0, b1, b2, b3, b4, b5]) hd hl0 hm hR hcs rfl rfl hcat hc (fun r m1 hp => by obtain ⟨rfl, hp⟩ := hp; rw [hq]; exact k m1 hp)
theorem v_cVNI0 {M : Mt} {x : Nat} {pr cl : Nat} {w : vw_C} {Post : Int → Mem → Prop} (hd : decode cc pc = .ok (.invokevirtual x, 3)) {host : String} (hl0 : Cond.methodLinkNest own x M.1 host ∈ nestL) (hm : mdV M 0) (hR : M.2.2.2.2.1 + 1 ≤ R.frames ∧ 8 + (M.2.2.1 + 11) + M.2.2.2.2.2 ≤ R.locals) (hk : kd pr = (5, cl)) (hw : vwCl[cl]? = some w) (hwc : w.1 = M.1.cls) (hcs : E.2.1.1 ≤ R.cells ∧ E.2.1.2 ≤ R.slots) (hcat : (st.map ctg).sum ≤ 8) (hq : pc + 3 = q) (hc : CtrI M (aR pr :: []) mem Post) (k : ∀ z m1, Post z m1 → V cc own nL ret R E q ls (aI z :: st) m1) : V cc own nL ret R E pc ls (aR pr :: st) mem :=
  v_callVN (as := []) hd hl0 hm hR hk hw hwc hcs rfl rfl hcat hc (fun r m1 hp => by obtain ⟨z, rfl, hp⟩ := hp; rw [hq, if_neg (by intro h; cases h)]; exact k z m1 hp)
theorem v_cVNL0 {M : Mt} {x : Nat} {pr cl : Nat} {w : vw_C} {Post : Int → Mem → Prop} (hd : decode cc pc = .ok (.invokevirtual x, 3)) {host : String} (hl0 : Cond.methodLinkNest own x M.1 host ∈ nestL) (hm : mdV M 0) (hR : M.2.2.2.2.1 + 1 ≤ R.frames ∧ 8 + (M.2.2.1 + 11) + M.2.2.2.2.2 ≤ R.locals) (hk : kd pr = (5, cl)) (hw : vwCl[cl]? = some w) (hwc : w.1 = M.1.cls) (hcs : E.2.1.1 ≤ R.cells ∧ E.2.1.2 ≤ R.slots) (hcat : (st.map ctg).sum ≤ 8) (hq : pc + 3 = q) (hc : CtrL M (aR pr :: []) mem Post) (k : ∀ z m1, Post z m1 → V cc own nL ret R E q ls (aL z :: st) m1) : V cc own nL ret R E pc ls (aR pr :: st) mem :=
  v_callVN (as := []) hd hl0 hm hR hk hw hwc hcs rfl rfl hcat hc (fun r m1 hp => by obtain ⟨z, rfl, hp⟩ := hp; rw [hq, if_neg (by intro h; cases h)]; exact k z m1 hp)
theorem v_cVNV0 {M : Mt} {x : Nat} {pr cl : Nat} {w : vw_C} {Post : Mem → Prop} (hd : decode cc pc = .ok (.invokevirtual x, 3)) {host : String} (hl0 : Cond.methodLinkNest own x M.1 host ∈ nestL) (hm : mdV M 0) (hR : M.2.2.2.2.1 + 1 ≤ R.frames ∧ 8 + (M.2.2.1 + 11) + M.2.2.2.2.2 ≤ R.locals) (hk : kd pr = (5, cl)) (hw : vwCl[cl]? = some w) (hwc : w.1 = M.1.cls) (hcs : E.2.1.1 ≤ R.cells ∧ E.2.1.2 ≤ R.slots) (hcat : (st.map ctg).sum ≤ 8) (hq : pc + 3 = q) (hc : CtrV M (aR pr :: []) mem Post) (k : ∀ m1, Post m1 → V cc own nL ret R E q ls st m1) : V cc own nL ret R E pc ls (aR pr :: st) mem :=
  v_callVN (as := []) hd hl0 hm hR hk hw hwc hcs rfl rfl hcat hc (fun r m1 hp => by obtain ⟨rfl, hp⟩ := hp; rw [hq]; exact k m1 hp)
theorem v_cVNI1 {M : Mt} {x : Nat} {b0 : AV} {pr cl : Nat} {w : vw_C} {Post : Int → Mem → Prop} (hd : decode cc pc = .ok (.invokevirtual x, 3)) {host : String} (hl0 : Cond.methodLinkNest own x M.1 host ∈ nestL) (hm : mdV M 1) (hR : M.2.2.2.2.1 + 1 ≤ R.frames ∧ 8 + (M.2.2.1 + 11) + M.2.2.2.2.2 ≤ R.locals) (hk : kd pr = (5, cl)) (hw : vwCl[cl]? = some w) (hwc : w.1 = M.1.cls) (hcs : E.2.1.1 ≤ R.cells ∧ E.2.1.2 ≤ R.slots) (hcat : (st.map ctg).sum ≤ 8) (hq : pc + 3 = q) (hc : CtrI M (aR pr :: [b0]) mem Post) (k : ∀ z m1, Post z m1 → V cc own nL ret R E q ls (aI z :: st) m1) : V cc own nL ret R E pc ls (b0 :: aR pr :: st) mem :=
  v_callVN (as := [b0]) hd hl0 hm hR hk hw hwc hcs rfl rfl hcat hc (fun r m1 hp => by obtain ⟨z, rfl, hp⟩ := hp; rw [hq, if_neg (by intro h; cases h)]; exact k z m1 hp)
theorem v_cVNL1 {M : Mt} {x : Nat} {b0 : AV} {pr cl : Nat} {w : vw_C} {Post : Int → Mem → Prop} (hd : decode cc pc = .ok (.invokevirtual x, 3)) {host : String} (hl0 : Cond.methodLinkNest own x M.1 host ∈ nestL) (hm : mdV M 1) (hR : M.2.2.2.2.1 + 1 ≤ R.frames ∧ 8 + (M.2.2.1 + 11) + M.2.2.2.2.2 ≤ R.locals) (hk : kd pr = (5, cl)) (hw : vwCl[cl]? = some w) (hwc : w.1 = M.1.cls) (hcs : E.2.1.1 ≤ R.cells ∧ E.2.1.2 ≤ R.slots) (hcat : (st.map ctg).sum ≤ 8) (hq : pc + 3 = q) (hc : CtrL M (aR pr :: [b0]) mem Post) (k : ∀ z m1, Post z m1 → V cc own nL ret R E q ls (aL z :: st) m1) : V cc own nL ret R E pc ls (b0 :: aR pr :: st) mem :=
  v_callVN (as := [b0]) hd hl0 hm hR hk hw hwc hcs rfl rfl hcat hc (fun r m1 hp => by obtain ⟨z, rfl, hp⟩ := hp; rw [hq, if_neg (by intro h; cases h)]; exact k z m1 hp)
theorem v_cVNV1 {M : Mt} {x : Nat} {b0 : AV} {pr cl : Nat} {w : vw_C} {Post : Mem → Prop} (hd : decode cc pc = .ok (.invokevirtual x, 3)) {host : String} (hl0 : Cond.methodLinkNest own x M.1 host ∈ nestL) (hm : mdV M 1) (hR : M.2.2.2.2.1 + 1 ≤ R.frames ∧ 8 + (M.2.2.1 + 11) + M.2.2.2.2.2 ≤ R.locals) (hk : kd pr = (5, cl)) (hw : vwCl[cl]? = some w) (hwc : w.1 = M.1.cls) (hcs : E.2.1.1 ≤ R.cells ∧ E.2.1.2 ≤ R.slots) (hcat : (st.map ctg).sum ≤ 8) (hq : pc + 3 = q) (hc : CtrV M (aR pr :: [b0]) mem Post) (k : ∀ m1, Post m1 → V cc own nL ret R E q ls st m1) : V cc own nL ret R E pc ls (b0 :: aR pr :: st) mem :=
  v_callVN (as := [b0]) hd hl0 hm hR hk hw hwc hcs rfl rfl hcat hc (fun r m1 hp => by obtain ⟨rfl, hp⟩ := hp; rw [hq]; exact k m1 hp)
theorem v_cVNI2 {M : Mt} {x : Nat} {b0 b1 : AV} {pr cl : Nat} {w : vw_C} {Post : Int → Mem → Prop} (hd : decode cc pc = .ok (.invokevirtual x, 3)) {host : String} (hl0 : Cond.methodLinkNest own x M.1 host ∈ nestL) (hm : mdV M 2) (hR : M.2.2.2.2.1 + 1 ≤ R.frames ∧ 8 + (M.2.2.1 + 11) + M.2.2.2.2.2 ≤ R.locals) (hk : kd pr = (5, cl)) (hw : vwCl[cl]? = some w) (hwc : w.1 = M.1.cls) (hcs : E.2.1.1 ≤ R.cells ∧ E.2.1.2 ≤ R.slots) (hcat : (st.map ctg).sum ≤ 8) (hq : pc + 3 = q) (hc : CtrI M (aR pr :: [b0, b1]) mem Post) (k : ∀ z m1, Post z m1 → V cc own nL ret R E q ls (aI z :: st) m1) : V cc own nL ret R E pc ls (b1 :: b0 :: aR pr :: st) mem :=
  v_callVN (as := [b0, b1]) hd hl0 hm hR hk hw hwc hcs rfl rfl hcat hc (fun r m1 hp => by obtain ⟨z, rfl, hp⟩ := hp; rw [hq, if_neg (by intro h; cases h)]; exact k z m1 hp)
theorem v_cVNL2 {M : Mt} {x : Nat} {b0 b1 : AV} {pr cl : Nat} {w : vw_C} {Post : Int → Mem → Prop} (hd : decode cc pc = .ok (.invokevirtual x, 3)) {host : String} (hl0 : Cond.methodLinkNest own x M.1 host ∈ nestL) (hm : mdV M 2) (hR : M.2.2.2.2.1 + 1 ≤ R.frames ∧ 8 + (M.2.2.1 + 11) + M.2.2.2.2.2 ≤ R.locals) (hk : kd pr = (5, cl)) (hw : vwCl[cl]? = some w) (hwc : w.1 = M.1.cls) (hcs : E.2.1.1 ≤ R.cells ∧ E.2.1.2 ≤ R.slots) (hcat : (st.map ctg).sum ≤ 8) (hq : pc + 3 = q) (hc : CtrL M (aR pr :: [b0, b1]) mem Post) (k : ∀ z m1, Post z m1 → V cc own nL ret R E q ls (aL z :: st) m1) : V cc own nL ret R E pc ls (b1 :: b0 :: aR pr :: st) mem :=
  v_callVN (as := [b0, b1]) hd hl0 hm hR hk hw hwc hcs rfl rfl hcat hc (fun r m1 hp => by obtain ⟨z, rfl, hp⟩ := hp; rw [hq, if_neg (by intro h; cases h)]; exact k z m1 hp)
theorem v_cVNF2 {M : Mt} {x : Nat} {b0 b1 : AV} {pr cl : Nat} {w : vw_C} {Post : UInt32 → Mem → Prop} (hd : decode cc pc = .ok (.invokevirtual x, 3)) {host : String} (hl0 : Cond.methodLinkNest own x M.1 host ∈ nestL) (hm : mdV M 2) (hR : M.2.2.2.2.1 + 1 ≤ R.frames ∧ 8 + (M.2.2.1 + 11) + M.2.2.2.2.2 ≤ R.locals) (hk : kd pr = (5, cl)) (hw : vwCl[cl]? = some w) (hwc : w.1 = M.1.cls) (hcs : E.2.1.1 ≤ R.cells ∧ E.2.1.2 ≤ R.slots) (hcat : (st.map ctg).sum ≤ 8) (hq : pc + 3 = q) (hc : CtrF M (aR pr :: [b0, b1]) mem Post) (k : ∀ z m1, Post z m1 → V cc own nL ret R E q ls (aF z :: st) m1) : V cc own nL ret R E pc ls (b1 :: b0 :: aR pr :: st) mem :=
  v_callVN (as := [b0, b1]) hd hl0 hm hR hk hw hwc hcs rfl rfl hcat hc (fun r m1 hp => by obtain ⟨z, rfl, hp⟩ := hp; rw [hq, if_neg (by intro h; cases h)]; exact k z m1 hp)
theorem v_cVNV2 {M : Mt} {x : Nat} {b0 b1 : AV} {pr cl : Nat} {w : vw_C} {Post : Mem → Prop} (hd : decode cc pc = .ok (.invokevirtual x, 3)) {host : String} (hl0 : Cond.methodLinkNest own x M.1 host ∈ nestL) (hm : mdV M 2) (hR : M.2.2.2.2.1 + 1 ≤ R.frames ∧ 8 + (M.2.2.1 + 11) + M.2.2.2.2.2 ≤ R.locals) (hk : kd pr = (5, cl)) (hw : vwCl[cl]? = some w) (hwc : w.1 = M.1.cls) (hcs : E.2.1.1 ≤ R.cells ∧ E.2.1.2 ≤ R.slots) (hcat : (st.map ctg).sum ≤ 8) (hq : pc + 3 = q) (hc : CtrV M (aR pr :: [b0, b1]) mem Post) (k : ∀ m1, Post m1 → V cc own nL ret R E q ls st m1) : V cc own nL ret R E pc ls (b1 :: b0 :: aR pr :: st) mem :=
  v_callVN (as := [b0, b1]) hd hl0 hm hR hk hw hwc hcs rfl rfl hcat hc (fun r m1 hp => by obtain ⟨rfl, hp⟩ := hp; rw [hq]; exact k m1 hp)
theorem v_cVNI3 {M : Mt} {x : Nat} {b0 b1 b2 : AV} {pr cl : Nat} {w : vw_C} {Post : Int → Mem → Prop} (hd : decode cc pc = .ok (.invokevirtual x, 3)) {host : String} (hl0 : Cond.methodLinkNest own x M.1 host ∈ nestL) (hm : mdV M 3) (hR : M.2.2.2.2.1 + 1 ≤ R.frames ∧ 8 + (M.2.2.1 + 11) + M.2.2.2.2.2 ≤ R.locals) (hk : kd pr = (5, cl)) (hw : vwCl[cl]? = some w) (hwc : w.1 = M.1.cls) (hcs : E.2.1.1 ≤ R.cells ∧ E.2.1.2 ≤ R.slots) (hcat : (st.map ctg).sum ≤ 8) (hq : pc + 3 = q) (hc : CtrI M (aR pr :: [b0, b1, b2]) mem Post) (k : ∀ z m1, Post z m1 → V cc own nL ret R E q ls (aI z :: st) m1) : V cc own nL ret R E pc ls (b2 :: b1 :: b0 :: aR pr :: st) mem :=
  v_callVN (as := [b0, b1, b2]) hd hl0 hm hR hk hw hwc hcs rfl rfl hcat hc (fun r m1 hp => by obtain ⟨z, rfl, hp⟩ := hp; rw [hq, if_neg (by intro h; cases h)]; exact k z m1 hp)
theorem v_cVNL3 {M : Mt} {x : Nat} {b0 b1 b2 : AV} {pr cl : Nat} {w : vw_C} {Post : Int → Mem → Prop} (hd : decode cc pc = .ok (.invokevirtual x, 3)) {host : String} (hl0 : Cond.methodLinkNest own x M.1 host ∈ nestL) (hm : mdV M 3) (hR : M.2.2.2.2.1 + 1 ≤ R.frames ∧ 8 + (M.2.2.1 + 11) + M.2.2.2.2.2 ≤ R.locals) (hk : kd pr = (5, cl)) (hw : vwCl[cl]? = some w) (hwc : w.1 = M.1.cls) (hcs : E.2.1.1 ≤ R.cells ∧ E.2.1.2 ≤ R.slots) (hcat : (st.map ctg).sum ≤ 8) (hq : pc + 3 = q) (hc : CtrL M (aR pr :: [b0, b1, b2]) mem Post) (k : ∀ z m1, Post z m1 → V cc own nL ret R E q ls (aL z :: st) m1) : V cc own nL ret R E pc ls (b2 :: b1 :: b0 :: aR pr :: st) mem :=
  v_callVN (as := [b0, b1, b2]) hd hl0 hm hR hk hw hwc hcs rfl rfl hcat hc (fun r m1 hp => by obtain ⟨z, rfl, hp⟩ := hp; rw [hq, if_neg (by intro h; cases h)]; exact k z m1 hp)
theorem v_cVNV3 {M : Mt} {x : Nat} {b0 b1 b2 : AV} {pr cl : Nat} {w : vw_C} {Post : Mem → Prop} (hd : decode cc pc = .ok (.invokevirtual x, 3)) {host : String} (hl0 : Cond.methodLinkNest own x M.1 host ∈ nestL) (hm : mdV M 3) (hR : M.2.2.2.2.1 + 1 ≤ R.frames ∧ 8 + (M.2.2.1 + 11) + M.2.2.2.2.2 ≤ R.locals) (hk : kd pr = (5, cl)) (hw : vwCl[cl]? = some w) (hwc : w.1 = M.1.cls) (hcs : E.2.1.1 ≤ R.cells ∧ E.2.1.2 ≤ R.slots) (hcat : (st.map ctg).sum ≤ 8) (hq : pc + 3 = q) (hc : CtrV M (aR pr :: [b0, b1, b2]) mem Post) (k : ∀ m1, Post m1 → V cc own nL ret R E q ls st m1) : V cc own nL ret R E pc ls (b2 :: b1 :: b0 :: aR pr :: st) mem :=
  v_callVN (as := [b0, b1, b2]) hd hl0 hm hR hk hw hwc hcs rfl rfl hcat hc (fun r m1 hp => by obtain ⟨rfl, hp⟩ := hp; rw [hq]; exact k m1 hp)
theorem v_cVNI4 {M : Mt} {x : Nat} {b0 b1 b2 b3 : AV} {pr cl : Nat} {w : vw_C} {Post : Int → Mem → Prop} (hd : decode cc pc = .ok (.invokevirtual x, 3)) {host : String} (hl0 : Cond.methodLinkNest own x M.1 host ∈ nestL) (hm : mdV M 4) (hR : M.2.2.2.2.1 + 1 ≤ R.frames ∧ 8 + (M.2.2.1 + 11) + M.2.2.2.2.2 ≤ R.locals) (hk : kd pr = (5, cl)) (hw : vwCl[cl]? = some w) (hwc : w.1 = M.1.cls) (hcs : E.2.1.1 ≤ R.cells ∧ E.2.1.2 ≤ R.slots) (hcat : (st.map ctg).sum ≤ 8) (hq : pc + 3 = q) (hc : CtrI M (aR pr :: [b0, b1, b2, b3]) mem Post) (k : ∀ z m1, Post z m1 → V cc own nL ret R E q ls (aI z :: st) m1) : V cc own nL ret R E pc ls (b3 :: b2 :: b1 :: b0 :: aR pr :: st) mem :=
  v_callVN (as := [b0, b1, b2, b3]) hd hl0 hm hR hk hw hwc hcs rfl rfl hcat hc (fun r m1 hp => by obtain ⟨z, rfl, hp⟩ := hp; rw [hq, if_neg (by intro h; cases h)]; exact k z m1 hp)
theorem v_cVNL4 {M : Mt} {x : Nat} {b0 b1 b2 b3 : AV} {pr cl : Nat} {w : vw_C} {Post : Int → Mem → Prop} (hd : decode cc pc = .ok (.invokevirtual x, 3)) {host : String} (hl0 : Cond.methodLinkNest own x M.1 host ∈ nestL) (hm : mdV M 4) (hR : M.2.2.2.2.1 + 1 ≤ R.frames ∧ 8 + (M.2.2.1 + 11) + M.2.2.2.2.2 ≤ R.locals) (hk : kd pr = (5, cl)) (hw : vwCl[cl]? = some w) (hwc : w.1 = M.1.cls) (hcs : E.2.1.1 ≤ R.cells ∧ E.2.1.2 ≤ R.slots) (hcat : (st.map ctg).sum ≤ 8) (hq : pc + 3 = q) (hc : CtrL M (aR pr :: [b0, b1, b2, b3]) mem Post) (k : ∀ z m1, Post z m1 → V cc own nL ret R E q ls (aL z :: st) m1) : V cc own nL ret R E pc ls (b3 :: b2 :: b1 :: b0 :: aR pr :: st) mem :=
  v_callVN (as := [b0, b1, b2, b3]) hd hl0 hm hR hk hw hwc hcs rfl rfl hcat hc (fun r m1 hp => by obtain ⟨z, rfl, hp⟩ := hp; rw [hq, if_neg (by intro h; cases h)]; exact k z m1 hp)
theorem v_cVNV4 {M : Mt} {x : Nat} {b0 b1 b2 b3 : AV} {pr cl : Nat} {w : vw_C} {Post : Mem → Prop} (hd : decode cc pc = .ok (.invokevirtual x, 3)) {host : String} (hl0 : Cond.methodLinkNest own x M.1 host ∈ nestL) (hm : mdV M 4) (hR : M.2.2.2.2.1 + 1 ≤ R.frames ∧ 8 + (M.2.2.1 + 11) + M.2.2.2.2.2 ≤ R.locals) (hk : kd pr = (5, cl)) (hw : vwCl[cl]? = some w) (hwc : w.1 = M.1.cls) (hcs : E.2.1.1 ≤ R.cells ∧ E.2.1.2 ≤ R.slots) (hcat : (st.map ctg).sum ≤ 8) (hq : pc + 3 = q) (hc : CtrV M (aR pr :: [b0, b1, b2, b3]) mem Post) (k : ∀ m1, Post m1 → V cc own nL ret R E q ls st m1) : V cc own nL ret R E pc ls (b3 :: b2 :: b1 :: b0 :: aR pr :: st) mem :=
  v_callVN (as := [b0, b1, b2, b3]) hd hl0 hm hR hk hw hwc hcs rfl rfl hcat hc (fun r m1 hp => by obtain ⟨rfl, hp⟩ := hp; rw [hq]; exact k m1 hp)
theorem v_cVNI5 {M : Mt} {x : Nat} {b0 b1 b2 b3 b4 : AV} {pr cl : Nat} {w : vw_C} {Post : Int → Mem → Prop} (hd : decode cc pc = .ok (.invokevirtual x, 3)) {host : String} (hl0 : Cond.methodLinkNest own x M.1 host ∈ nestL) (hm : mdV M 5) (hR : M.2.2.2.2.1 + 1 ≤ R.frames ∧ 8 + (M.2.2.1 + 11) + M.2.2.2.2.2 ≤ R.locals) (hk : kd pr = (5, cl)) (hw : vwCl[cl]? = some w) (hwc : w.1 = M.1.cls) (hcs : E.2.1.1 ≤ R.cells ∧ E.2.1.2 ≤ R.slots) (hcat : (st.map ctg).sum ≤ 8) (hq : pc + 3 = q) (hc : CtrI M (aR pr :: [b0, b1, b2, b3, b4]) mem Post) (k : ∀ z m1, Post z m1 → V cc own nL ret R E q ls (aI z :: st) m1) : V cc own nL ret R E pc ls (b4 :: b3 :: b2 :: b1 :: b0 :: aR pr :: st) mem :=
  v_callVN (as := [b0, b1, b2, b3, b4]) hd hl0 hm hR hk hw hwc hcs rfl rfl hcat hc (fun r m1 hp => by obtain ⟨z, rfl, hp⟩ := hp; rw [hq, if_neg (by intro h; cases h)]; exact k z m1 hp)
theorem v_cVNL5 {M : Mt} {x : Nat} {b0 b1 b2 b3 b4 : AV} {pr cl : Nat} {w : vw_C} {Post : Int → Mem → Prop} (hd : decode cc pc = .ok (.invokevirtual x, 3)) {host : String} (hl0 : Cond.methodLinkNest own x M.1 host ∈ nestL) (hm : mdV M 5) (hR : M.2.2.2.2.1 + 1 ≤ R.frames ∧ 8 + (M.2.2.1 + 11) + M.2.2.2.2.2 ≤ R.locals) (hk : kd pr = (5, cl)) (hw : vwCl[cl]? = some w) (hwc : w.1 = M.1.cls) (hcs : E.2.1.1 ≤ R.cells ∧ E.2.1.2 ≤ R.slots) (hcat : (st.map ctg).sum ≤ 8) (hq : pc + 3 = q) (hc : CtrL M (aR pr :: [b0, b1, b2, b3, b4]) mem Post) (k : ∀ z m1, Post z m1 → V cc own nL ret R E q ls (aL z :: st) m1) : V cc own nL ret R E pc ls (b4 :: b3 :: b2 :: b1 :: b0 :: aR pr :: st) mem :=
  v_callVN (as := [b0, b1, b2, b3, b4]) hd hl0 hm hR hk hw hwc hcs rfl rfl hcat hc (fun r m1 hp => by obtain ⟨z, rfl, hp⟩ := hp; rw [hq, if_neg (by intro h; cases h)]; exact k z m1 hp)
theorem v_cVNV5 {M : Mt} {x : Nat} {b0 b1 b2 b3 b4 : AV} {pr cl : Nat} {w : vw_C} {Post : Mem → Prop} (hd : decode cc pc = .ok (.invokevirtual x, 3)) {host : String} (hl0 : Cond.methodLinkNest own x M.1 host ∈ nestL) (hm : mdV M 5) (hR : M.2.2.2.2.1 + 1 ≤ R.frames ∧ 8 + (M.2.2.1 + 11) + M.2.2.2.2.2 ≤ R.locals) (hk : kd pr = (5, cl)) (hw : vwCl[cl]? = some w) (hwc : w.1 = M.1.cls) (hcs : E.2.1.1 ≤ R.cells ∧ E.2.1.2 ≤ R.slots) (hcat : (st.map ctg).sum ≤ 8) (hq : pc + 3 = q) (hc : CtrV M (aR pr :: [b0, b1, b2, b3, b4]) mem Post) (k : ∀ m1, Post m1 → V cc own nL ret R E q ls st m1) : V cc own nL ret R E pc ls (b4 :: b3 :: b2 :: b1 :: b0 :: aR pr :: st) mem :=
  v_callVN (as := [b0, b1, b2, b3, b4]) hd hl0 hm hR hk hw hwc hcs rfl rfl hcat hc (fun r m1 hp => by obtain ⟨rfl, hp⟩ := hp; rw [hq]; exact k m1 hp)
theorem v_cVNI6 {M : Mt} {x : Nat} {b0 b1 b2 b3 b4 b5 : AV} {pr cl : Nat} {w : vw_C} {Post : Int → Mem → Prop} (hd : decode cc pc = .ok (.invokevirtual x, 3)) {host : String} (hl0 : Cond.methodLinkNest own x M.1 host ∈ nestL) (hm : mdV M 6) (hR : M.2.2.2.2.1 + 1 ≤ R.frames ∧ 8 + (M.2.2.1 + 11) + M.2.2.2.2.2 ≤ R.locals) (hk : kd pr = (5, cl)) (hw : vwCl[cl]? = some w) (hwc : w.1 = M.1.cls) (hcs : E.2.1.1 ≤ R.cells ∧ E.2.1.2 ≤ R.slots) (hcat : (st.map ctg).sum ≤ 8) (hq : pc + 3 = q) (hc : CtrI M (aR pr :: [b0, b1, b2, b3, b4, b5]) mem Post) (k : ∀ z m1, Post z m1 → V cc own nL ret R E q ls (aI z :: st) m1) : V cc own nL ret R E pc ls (b5 :: b4 :: b3 :: b2 :: b1 :: b0 :: aR pr :: st) mem :=
  v_callVN (as := [b0, b1, b2, b3, b4, b5]) hd hl0 hm hR hk hw hwc hcs rfl rfl hcat hc (fun r m1 hp => by obtain ⟨z, rfl, hp⟩ := hp; rw [hq, if_neg (by intro h; cases h)]; exact k z m1 hp)
theorem v_cVNL6 {M : Mt} {x : Nat} {b0 b1 b2 b3 b4 b5 : AV} {pr cl : Nat} {w : vw_C} {Post : Int → Mem → Prop} (hd : decode cc pc = .ok (.invokevirtual x, 3)) {host : String} (hl0 : Cond.methodLinkNest own x M.1 host ∈ nestL) (hm : mdV M 6) (hR : M.2.2.2.2.1 + 1 ≤ R.frames ∧ 8 + (M.2.2.1 + 11) + M.2.2.2.2.2 ≤ R.locals) (hk : kd pr = (5, cl)) (hw : vwCl[cl]? = some w) (hwc : w.1 = M.1.cls) (hcs : E.2.1.1 ≤ R.cells ∧ E.2.1.2 ≤ R.slots) (hcat : (st.map ctg).sum ≤ 8) (hq : pc + 3 = q) (hc : CtrL M (aR pr :: [b0, b1, b2, b3, b4, b5]) mem Post) (k : ∀ z m1, Post z m1 → V cc own nL ret R E q ls (aL z :: st) m1) : V cc own nL ret R E pc ls (b5 :: b4 :: b3 :: b2 :: b1 :: b0 :: aR pr :: st) mem :=
  v_callVN (as := [b0, b1, b2, b3, b4, b5]) hd hl0 hm hR hk hw hwc hcs rfl rfl hcat hc (fun r m1 hp => by obtain ⟨z, rfl, hp⟩ := hp; rw [hq, if_neg (by intro h; cases h)]; exact k z m1 hp)
theorem v_cVNV6 {M : Mt} {x : Nat} {b0 b1 b2 b3 b4 b5 : AV} {pr cl : Nat} {w : vw_C} {Post : Mem → Prop} (hd : decode cc pc = .ok (.invokevirtual x, 3)) {host : String} (hl0 : Cond.methodLinkNest own x M.1 host ∈ nestL) (hm : mdV M 6) (hR : M.2.2.2.2.1 + 1 ≤ R.frames ∧ 8 + (M.2.2.1 + 11) + M.2.2.2.2.2 ≤ R.locals) (hk : kd pr = (5, cl)) (hw : vwCl[cl]? = some w) (hwc : w.1 = M.1.cls) (hcs : E.2.1.1 ≤ R.cells ∧ E.2.1.2 ≤ R.slots) (hcat : (st.map ctg).sum ≤ 8) (hq : pc + 3 = q) (hc : CtrV M (aR pr :: [b0, b1, b2, b3, b4, b5]) mem Post) (k : ∀ m1, Post m1 → V cc own nL ret R E q ls st m1) : V cc own nL ret R E pc ls (b5 :: b4 :: b3 :: b2 :: b1 :: b0 :: aR pr :: st) mem :=
  v_callVN (as := [b0, b1, b2, b3, b4, b5]) hd hl0 hm hR hk hw hwc hcs rfl rfl hcat hc (fun r m1 hp => by obtain ⟨rfl, hp⟩ := hp; rw [hq]; exact k m1 hp)
theorem v_cSNI1 {M : Mt} {x : Nat} {b0 : AV} {Post : Int → Mem → Prop} (hd : decode cc pc = .ok (.invokestatic x, 3)) {host : String} (hl0 : Cond.methodLinkNest own x M.1 host ∈ nestL) (hm : mdS M 1) (hR : M.2.2.2.2.1 + 1 ≤ R.frames ∧ 8 + (M.2.2.1 + 11) + M.2.2.2.2.2 ≤ R.locals) (hcs : E.2.1.1 ≤ R.cells ∧ E.2.1.2 ≤ R.slots) (hcat : (st.map ctg).sum ≤ 8) (hq : pc + 3 = q) (hc : CtrI M [b0] mem Post) (k : ∀ z m1, Post z m1 → V cc own nL ret R E q ls (aI z :: st) m1) : V cc own nL ret R E pc ls (b0 :: st) mem :=
  v_callSN (as := [b0]) hd hl0 hm hR hcs rfl rfl hcat hc (fun r m1 hp => by obtain ⟨z, rfl, hp⟩ := hp; rw [hq, if_neg (by intro h; cases h)]; exact k z m1 hp)
theorem v_cSNL1 {M : Mt} {x : Nat} {b0 : AV} {Post : Int → Mem → Prop} (hd : decode cc pc = .ok (.invokestatic x, 3)) {host : String} (hl0 : Cond.methodLinkNest own x M.1 host ∈ nestL) (hm : mdS M 1) (hR : M.2.2.2.2.1 + 1 ≤ R.frames ∧ 8 + (M.2.2.1 + 11) + M.2.2.2.2.2 ≤ R.locals) (hcs : E.2.1.1 ≤ R.cells ∧ E.2.1.2 ≤ R.slots) (hcat : (st.map ctg).sum ≤ 8) (hq : pc + 3 = q) (hc : CtrL M [b0] mem Post) (k : ∀ z m1, Post z m1 → V cc own nL ret R E q ls (aL z :: st) m1) : V cc own nL ret R E pc ls (b0 :: st) mem :=
  v_callSN (as := [b0]) hd hl0 hm hR hcs rfl rfl hcat hc (fun r m1 hp => by obtain ⟨z, rfl, hp⟩ := hp; rw [hq, if_neg (by intro h; cases h)]; exact k z m1 hp)
theorem v_cSNV1 {M : Mt} {x : Nat} {b0 : AV} {Post : Mem → Prop} (hd : decode cc pc = .ok (.invokestatic x, 3)) {host : String} (hl0 : Cond.methodLinkNest own x M.1 host ∈ nestL) (hm : mdS M 1) (hR : M.2.2.2.2.1 + 1 ≤ R.frames ∧ 8 + (M.2.2.1 + 11) + M.2.2.2.2.2 ≤ R.locals) (hcs : E.2.1.1 ≤ R.cells ∧ E.2.1.2 ≤ R.slots) (hcat : (st.map ctg).sum ≤ 8) (hq : pc + 3 = q) (hc : CtrV M [b0] mem Post) (k : ∀ m1, Post m1 → V cc own nL ret R E q ls st m1) : V cc own nL ret R E pc ls (b0 :: st) mem :=
  v_callSN (as := [b0]) hd hl0 hm hR hcs rfl rfl hcat hc (fun r m1 hp => by obtain ⟨rfl, hp⟩ := hp; rw [hq]; exact k m1 hp)
theorem v_cSNI2 {M : Mt} {x : Nat} {b0 b1 : AV} {Post : Int → Mem → Prop} (hd : decode cc pc = .ok (.invokestatic x, 3)) {host : String} (hl0 : Cond.methodLinkNest own x M.1 host ∈ nestL) (hm : mdS M 2) (hR : M.2.2.2.2.1 + 1 ≤ R.frames ∧ 8 + (M.2.2.1 + 11) + M.2.2.2.2.2 ≤ R.locals) (hcs : E.2.1.1 ≤ R.cells ∧ E.2.1.2 ≤ R.slots) (hcat : (st.map ctg).sum ≤ 8) (hq : pc + 3 = q) (hc : CtrI M [b0, b1] mem Post) (k : ∀ z m1, Post z m1 → V cc own nL ret R E q ls (aI z :: st) m1) : V cc own nL ret R E pc ls (b1 :: b0 :: st) mem :=
  v_callSN (as := [b0, b1]) hd hl0 hm hR hcs rfl rfl hcat hc (fun r m1 hp => by obtain ⟨z, rfl, hp⟩ := hp; rw [hq, if_neg (by intro h; cases h)]; exact k z m1 hp)
theorem v_cSNL2 {M : Mt} {x : Nat} {b0 b1 : AV} {Post : Int → Mem → Prop} (hd : decode cc pc = .ok (.invokestatic x, 3)) {host : String} (hl0 : Cond.methodLinkNest own x M.1 host ∈ nestL) (hm : mdS M 2) (hR : M.2.2.2.2.1 + 1 ≤ R.frames ∧ 8 + (M.2.2.1 + 11) + M.2.2.2.2.2 ≤ R.locals) (hcs : E.2.1.1 ≤ R.cells ∧ E.2.1.2 ≤ R.slots) (hcat : (st.map ctg).sum ≤ 8) (hq : pc + 3 = q) (hc : CtrL M [b0, b1] mem Post) (k : ∀ z m1, Post z m1 → V cc own nL ret R E q ls (aL z :: st) m1) : V cc own nL ret R E pc ls (b1 :: b0 :: st) mem :=
  v_callSN (as := [b0, b1]) hd hl0 hm hR hcs rfl rfl hcat hc (fun r m1 hp => by obtain ⟨z, rfl, hp⟩ := hp; rw [hq, if_neg (by intro h; cases h)]; exact k z m1 hp)
theorem v_cSNV2 {M : Mt} {x : Nat} {b0 b1 : AV} {Post : Mem → Prop} (hd : decode cc pc = .ok (.invokestatic x, 3)) {host : String} (hl0 : Cond.methodLinkNest own x M.1 host ∈ nestL) (hm : mdS M 2) (hR : M.2.2.2.2.1 + 1 ≤ R.frames ∧ 8 + (M.2.2.1 + 11) + M.2.2.2.2.2 ≤ R.locals) (hcs : E.2.1.1 ≤ R.cells ∧ E.2.1.2 ≤ R.slots) (hcat : (st.map ctg).sum ≤ 8) (hq : pc + 3 = q) (hc : CtrV M [b0, b1] mem Post) (k : ∀ m1, Post m1 → V cc own nL ret R E q ls st m1) : V cc own nL ret R E pc ls (b1 :: b0 :: st) mem :=
  v_callSN (as := [b0, b1]) hd hl0 hm hR hcs rfl rfl hcat hc (fun r m1 hp => by obtain ⟨rfl, hp⟩ := hp; rw [hq]; exact k m1 hp)
theorem v_cSNI3 {M : Mt} {x : Nat} {b0 b1 b2 : AV} {Post : Int → Mem → Prop} (hd : decode cc pc = .ok (.invokestatic x, 3)) {host : String} (hl0 : Cond.methodLinkNest own x M.1 host ∈ nestL) (hm : mdS M 3) (hR : M.2.2.2.2.1 + 1 ≤ R.frames ∧ 8 + (M.2.2.1 + 11) + M.2.2.2.2.2 ≤ R.locals) (hcs : E.2.1.1 ≤ R.cells ∧ E.2.1.2 ≤ R.slots) (hcat : (st.map ctg).sum ≤ 8) (hq : pc + 3 = q) (hc : CtrI M [b0, b1, b2] mem Post) (k : ∀ z m1, Post z m1 → V cc own nL ret R E q ls (aI z :: st) m1) : V cc own nL ret R E pc ls (b2 :: b1 :: b0 :: st) mem :=
  v_callSN (as := [b0, b1, b2]) hd hl0 hm hR hcs rfl rfl hcat hc (fun r m1 hp => by obtain ⟨z, rfl, hp⟩ := hp; rw [hq, if_neg (by intro h; cases h)]; exact k z m1 hp)
theorem v_cSNL3 {M : Mt} {x : Nat} {b0 b1 b2 : AV} {Post : Int → Mem → Prop} (hd : decode cc pc = .ok (.invokestatic x, 3)) {host : String} (hl0 : Cond.methodLinkNest own x M.1 host ∈ nestL) (hm : mdS M 3) (hR : M.2.2.2.2.1 + 1 ≤ R.frames ∧ 8 + (M.2.2.1 + 11) + M.2.2.2.2.2 ≤ R.locals) (hcs : E.2.1.1 ≤ R.cells ∧ E.2.1.2 ≤ R.slots) (hcat : (st.map ctg).sum ≤ 8) (hq : pc + 3 = q) (hc : CtrL M [b0, b1, b2] mem Post) (k : ∀ z m1, Post z m1 → V cc own nL ret R E q ls (aL z :: st) m1) : V cc own nL ret R E pc ls (b2 :: b1 :: b0 :: st) mem :=
  v_callSN (as := [b0, b1, b2]) hd hl0 hm hR hcs rfl rfl hcat hc (fun r m1 hp => by obtain ⟨z, rfl, hp⟩ := hp; rw [hq, if_neg (by intro h; cases h)]; exact k z m1 hp)
theorem v_cSNV3 {M : Mt} {x : Nat} {b0 b1 b2 : AV} {Post : Mem → Prop} (hd : decode cc pc = .ok (.invokestatic x, 3)) {host : String} (hl0 : Cond.methodLinkNest own x M.1 host ∈ nestL) (hm : mdS M 3) (hR : M.2.2.2.2.1 + 1 ≤ R.frames ∧ 8 + (M.2.2.1 + 11) + M.2.2.2.2.2 ≤ R.locals) (hcs : E.2.1.1 ≤ R.cells ∧ E.2.1.2 ≤ R.slots) (hcat : (st.map ctg).sum ≤ 8) (hq : pc + 3 = q) (hc : CtrV M [b0, b1, b2] mem Post) (k : ∀ m1, Post m1 → V cc own nL ret R E q ls st m1) : V cc own nL ret R E pc ls (b2 :: b1 :: b0 :: st) mem :=
  v_callSN (as := [b0, b1, b2]) hd hl0 hm hR hcs rfl rfl hcat hc (fun r m1 hp => by obtain ⟨rfl, hp⟩ := hp; rw [hq]; exact k m1 hp)
theorem v_cSNI4 {M : Mt} {x : Nat} {b0 b1 b2 b3 : AV} {Post : Int → Mem → Prop} (hd : decode cc pc = .ok (.invokestatic x, 3)) {host : String} (hl0 : Cond.methodLinkNest own x M.1 host ∈ nestL) (hm : mdS M 4) (hR : M.2.2.2.2.1 + 1 ≤ R.frames ∧ 8 + (M.2.2.1 + 11) + M.2.2.2.2.2 ≤ R.locals) (hcs : E.2.1.1 ≤ R.cells ∧ E.2.1.2 ≤ R.slots) (hcat : (st.map ctg).sum ≤ 8) (hq : pc + 3 = q) (hc : CtrI M [b0, b1, b2, b3] mem Post) (k : ∀ z m1, Post z m1 → V cc own nL ret R E q ls (aI z :: st) m1) : V cc own nL ret R E pc ls (b3 :: b2 :: b1 :: b0 :: st) mem :=
  v_callSN (as := [b0, b1, b2, b3]) hd hl0 hm hR hcs rfl rfl hcat hc (fun r m1 hp => by obtain ⟨z, rfl, hp⟩ := hp; rw [hq, if_neg (by intro h; cases h)]; exact k z m1 hp)
theorem v_cSNL4 {M : Mt} {x : Nat} {b0 b1 b2 b3 : AV} {Post : Int → Mem → Prop} (hd : decode cc pc = .ok (.invokestatic x, 3)) {host : String} (hl0 : Cond.methodLinkNest own x M.1 host ∈ nestL) (hm : mdS M 4) (hR : M.2.2.2.2.1 + 1 ≤ R.frames ∧ 8 + (M.2.2.1 + 11) + M.2.2.2.2.2 ≤ R.locals) (hcs : E.2.1.1 ≤ R.cells ∧ E.2.1.2 ≤ R.slots) (hcat : (st.map ctg).sum ≤ 8) (hq : pc + 3 = q) (hc : CtrL M [b0, b1, b2, b3] mem Post) (k : ∀ z m1, Post z m1 → V cc own nL ret R E q ls (aL z :: st) m1) : V cc own nL ret R E pc ls (b3 :: b2 :: b1 :: b0 :: st) mem :=
  v_callSN (as := [b0, b1, b2, b3]) hd hl0 hm hR hcs rfl rfl hcat hc (fun r m1 hp => by obtain ⟨z, rfl, hp⟩ := hp; rw [hq, if_neg (by intro h; cases h)]; exact k z m1 hp)
theorem v_cSNV4 {M : Mt} {x : Nat} {b0 b1 b2 b3 : AV} {Post : Mem → Prop} (hd : decode cc pc = .ok (.invokestatic x, 3)) {host : String} (hl0 : Cond.methodLinkNest own x M.1 host ∈ nestL) (hm : mdS M 4) (hR : M.2.2.2.2.1 + 1 ≤ R.frames ∧ 8 + (M.2.2.1 + 11) + M.2.2.2.2.2 ≤ R.locals) (hcs : E.2.1.1 ≤ R.cells ∧ E.2.1.2 ≤ R.slots) (hcat : (st.map ctg).sum ≤ 8) (hq : pc + 3 = q) (hc : CtrV M [b0, b1, b2, b3] mem Post) (k : ∀ m1, Post m1 → V cc own nL ret R E q ls st m1) : V cc own nL ret R E pc ls (b3 :: b2 :: b1 :: b0 :: st) mem :=
  v_callSN (as := [b0, b1, b2, b3]) hd hl0 hm hR hcs rfl rfl hcat hc (fun r m1 hp => by obtain ⟨rfl, hp⟩ := hp; rw [hq]; exact k m1 hp)
theorem v_cSNI5 {M : Mt} {x : Nat} {b0 b1 b2 b3 b4 : AV} {Post : Int → Mem → Prop} (hd : decode cc pc = .ok (.invokestatic x, 3)) {host : String} (hl0 : Cond.methodLinkNest own x M.1 host ∈ nestL) (hm : mdS M 5) (hR : M.2.2.2.2.1 + 1 ≤ R.frames ∧ 8 + (M.2.2.1 + 11) + M.2.2.2.2.2 ≤ R.locals) (hcs : E.2.1.1 ≤ R.cells ∧ E.2.1.2 ≤ R.slots) (hcat : (st.map ctg).sum ≤ 8) (hq : pc + 3 = q) (hc : CtrI M [b0, b1, b2, b3, b4] mem Post) (k : ∀ z m1, Post z m1 → V cc own nL ret R E q ls (aI z :: st) m1) : V cc own nL ret R E pc ls (b4 :: b3 :: b2 :: b1 :: b0 :: st) mem :=
  v_callSN (as := [b0, b1, b2, b3, b4]) hd hl0 hm hR hcs rfl rfl hcat hc (fun r m1 hp => by obtain ⟨z, rfl, hp⟩ := hp; rw [hq, if_neg (by intro h; cases h)]; exact k z m1 hp)
theorem v_cSNL5 {M : Mt} {x : Nat} {b0 b1 b2 b3 b4 : AV} {Post : Int → Mem → Prop} (hd : decode cc pc = .ok (.invokestatic x, 3)) {host : String} (hl0 : Cond.methodLinkNest own x M.1 host ∈ nestL) (hm : mdS M 5) (hR : M.2.2.2.2.1 + 1 ≤ R.frames ∧ 8 + (M.2.2.1 + 11) + M.2.2.2.2.2 ≤ R.locals) (hcs : E.2.1.1 ≤ R.cells ∧ E.2.1.2 ≤ R.slots) (hcat : (st.map ctg).sum ≤ 8) (hq : pc + 3 = q) (hc : CtrL M [b0, b1, b2, b3, b4] mem Post) (k : ∀ z m1, Post z m1 → V cc own nL ret R E q ls (aL z :: st) m1) : V cc own nL ret R E pc ls (b4 :: b3 :: b2 :: b1 :: b0 :: st) mem :=
  v_callSN (as := [b0, b1, b2, b3, b4]) hd hl0 hm hR hcs rfl rfl hcat hc (fun r m1 hp => by obtain ⟨z, rfl, hp⟩ := hp; rw [hq, if_neg (by intro h; cases h)]; exact k z m1 hp)
theorem v_cSNV5 {M : Mt} {x : Nat} {b0 b1 b2 b3 b4 : AV} {Post : Mem → Prop} (hd : decode cc pc = .ok (.invokestatic x, 3)) {host : String} (hl0 : Cond.methodLinkNest own x M.1 host ∈ nestL) (hm : mdS M 5) (hR : M.2.2.2.2.1 + 1 ≤ R.frames ∧ 8 + (M.2.2.1 + 11) + M.2.2.2.2.2 ≤ R.locals) (hcs : E.2.1.1 ≤ R.cells ∧ E.2.1.2 ≤ R.slots) (hcat : (st.map ctg).sum ≤ 8) (hq : pc + 3 = q) (hc : CtrV M [b0, b1, b2, b3, b4] mem Post) (k : ∀ m1, Post m1 → V cc own nL ret R E q ls st m1) : V cc own nL ret R E pc ls (b4 :: b3 :: b2 :: b1 :: b0 :: st) mem :=
  v_callSN (as := [b0, b1, b2, b3, b4]) hd hl0 hm hR hcs rfl rfl hcat hc (fun r m1 hp => by obtain ⟨rfl, hp⟩ := hp; rw [hq]; exact k m1 hp)
theorem v_cSNI6 {M : Mt} {x : Nat} {b0 b1 b2 b3 b4 b5 : AV} {Post : Int → Mem → Prop} (hd : decode cc pc = .ok (.invokestatic x, 3)) {host : String} (hl0 : Cond.methodLinkNest own x M.1 host ∈ nestL) (hm : mdS M 6) (hR : M.2.2.2.2.1 + 1 ≤ R.frames ∧ 8 + (M.2.2.1 + 11) + M.2.2.2.2.2 ≤ R.locals) (hcs : E.2.1.1 ≤ R.cells ∧ E.2.1.2 ≤ R.slots) (hcat : (st.map ctg).sum ≤ 8) (hq : pc + 3 = q) (hc : CtrI M [b0, b1, b2, b3, b4, b5] mem Post) (k : ∀ z m1, Post z m1 → V cc own nL ret R E q ls (aI z :: st) m1) : V cc own nL ret R E pc ls (b5 :: b4 :: b3 :: b2 :: b1 :: b0 :: st) mem :=
  v_callSN (as := [b0, b1, b2, b3, b4, b5]) hd hl0 hm hR hcs rfl rfl hcat hc (fun r m1 hp => by obtain ⟨z, rfl, hp⟩ := hp; rw [hq, if_neg (by intro h; cases h)]; exact k z m1 hp)
theorem v_cSNL6 {M : Mt} {x : Nat} {b0 b1 b2 b3 b4 b5 : AV} {Post : Int → Mem → Prop} (hd : decode cc pc = .ok (.invokestatic x, 3)) {host : String} (hl0 : Cond.methodLinkNest own x M.1 host ∈ nestL) (hm : mdS M 6) (hR : M.2.2.2.2.1 + 1 ≤ R.frames ∧ 8 + (M.2.2.1 + 11) + M.2.2.2.2.2 ≤ R.locals) (hcs : E.2.1.1 ≤ R.cells ∧ E.2.1.2 ≤ R.slots) (hcat : (st.map ctg).sum ≤ 8) (hq : pc + 3 = q) (hc : CtrL M [b0, b1, b2, b3, b4, b5] mem Post) (k : ∀ z m1, Post z m1 → V cc own nL ret R E q ls (aL z :: st) m1) : V cc own nL ret R E pc ls (b5 :: b4 :: b3 :: b2 :: b1 :: b0 :: st) mem :=
  v_callSN (as := [b0, b1, b2, b3, b4, b5]) hd hl0 hm hR hcs rfl rfl hcat hc (fun r m1 hp => by obtain ⟨z, rfl, hp⟩ := hp; rw [hq, if_neg (by intro h; cases h)]; exact k z m1 hp)
theorem v_cSNV6 {M : Mt} {x : Nat} {b0 b1 b2 b3 b4 b5 : AV} {Post : Mem → Prop} (hd : decode cc pc = .ok (.invokestatic x, 3)) {host : String} (hl0 : Cond.methodLinkNest own x M.1 host ∈ nestL) (hm : mdS M 6) (hR : M.2.2.2.2.1 + 1 ≤ R.frames ∧ 8 + (M.2.2.1 + 11) + M.2.2.2.2.2 ≤ R.locals) (hcs : E.2.1.1 ≤ R.cells ∧ E.2.1.2 ≤ R.slots) (hcat : (st.map ctg).sum ≤ 8) (hq : pc + 3 = q) (hc : CtrV M [b0, b1, b2, b3, b4, b5] mem Post) (k : ∀ m1, Post m1 → V cc own nL ret R E q ls st m1) : V cc own nL ret R E pc ls (b5 :: b4 :: b3 :: b2 :: b1 :: b0 :: st) mem :=
  v_callSN (as := [b0, b1, b2, b3, b4, b5]) hd hl0 hm hR hcs rfl rfl hcat hc (fun r m1 hp => by obtain ⟨rfl, hp⟩ := hp; rw [hq]; exact k m1 hp)
end HeapRows
end
