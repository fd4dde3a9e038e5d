section
-- ===== PART A: goes FIRST, ahead of the names: the tables' words, and 'selects' of the private methods out of them =====
/-- a private method of a class that the tables say can be made, by its rows of tables_1 -/
def lw_okq (q : MethodName × Nat) : Prop := (q.1.cls ≠ "java/lang/invoke/MethodHandle" ∧ q.1.cls ≠ "java/lang/invoke/VarHandle") ∧ Cond.instantiable q.1.cls q.2 ∈ tables_1 ∧ Cond.privateMethod q.1 ∈ tables_1 ∧ Cond.instanceMethod q.1 ∈ tables_1
theorem lw_p0 : lw_okq (⟨"AnswerPass", "refuse", "(I)I"⟩, 8) := ⟨⟨by decide +kernel, by decide +kernel⟩, List.mem_of_getElem? (i := 19) (by decide +kernel), List.mem_of_getElem? (i := 272) (by decide +kernel), List.mem_of_getElem? (i := 273) (by decide +kernel)⟩
theorem lw_p1 : lw_okq (⟨"AnswerPass", "isPerson", "(I)Z"⟩, 8) := ⟨⟨by decide +kernel, by decide +kernel⟩, List.mem_of_getElem? (i := 19) (by decide +kernel), List.mem_of_getElem? (i := 289) (by decide +kernel), List.mem_of_getElem? (i := 290) (by decide +kernel)⟩
theorem lw_p2 : lw_okq (⟨"AnswerPass$Reader", "reads", "(II)Z"⟩, 6) := ⟨⟨by decide +kernel, by decide +kernel⟩, List.mem_of_getElem? (i := 140) (by decide +kernel), List.mem_of_getElem? (i := 374) (by decide +kernel), List.mem_of_getElem? (i := 375) (by decide +kernel)⟩
theorem lw_p3 : lw_okq (⟨"AnswerPass$Reader", "readsUnit", "(I)Z"⟩, 6) := ⟨⟨by decide +kernel, by decide +kernel⟩, List.mem_of_getElem? (i := 140) (by decide +kernel), List.mem_of_getElem? (i := 378) (by decide +kernel), List.mem_of_getElem? (i := 379) (by decide +kernel)⟩
theorem lw_p4 : lw_okq (⟨"AnswerPass$Reader", "next", "()I"⟩, 6) := ⟨⟨by decide +kernel, by decide +kernel⟩, List.mem_of_getElem? (i := 140) (by decide +kernel), List.mem_of_getElem? (i := 382) (by decide +kernel), List.mem_of_getElem? (i := 383) (by decide +kernel)⟩
theorem lw_p5 : lw_okq (⟨"AnswerPass$Reader", "readsNumber", "()Z"⟩, 6) := ⟨⟨by decide +kernel, by decide +kernel⟩, List.mem_of_getElem? (i := 140) (by decide +kernel), List.mem_of_getElem? (i := 389) (by decide +kernel), List.mem_of_getElem? (i := 390) (by decide +kernel)⟩
theorem lw_p6 : lw_okq (⟨"AnswerPass$Reader", "writes", "(I)V"⟩, 6) := ⟨⟨by decide +kernel, by decide +kernel⟩, List.mem_of_getElem? (i := 140) (by decide +kernel), List.mem_of_getElem? (i := 393) (by decide +kernel), List.mem_of_getElem? (i := 394) (by decide +kernel)⟩
theorem lw_p7 : lw_okq (⟨"AnswerPass$Reader", "readsNot", "(I)Z"⟩, 6) := ⟨⟨by decide +kernel, by decide +kernel⟩, List.mem_of_getElem? (i := 140) (by decide +kernel), List.mem_of_getElem? (i := 483) (by decide +kernel), List.mem_of_getElem? (i := 484) (by decide +kernel)⟩
theorem lw_p8 : lw_okq (⟨"AnswerPass$Reader", "readsInner", "(I)Z"⟩, 6) := ⟨⟨by decide +kernel, by decide +kernel⟩, List.mem_of_getElem? (i := 140) (by decide +kernel), List.mem_of_getElem? (i := 487) (by decide +kernel), List.mem_of_getElem? (i := 488) (by decide +kernel)⟩
theorem lw_p9 : lw_okq (⟨"AnswerPass$Voices", "worksOut", "(III)I"⟩, 6) := ⟨⟨by decide +kernel, by decide +kernel⟩, List.mem_of_getElem? (i := 185) (by decide +kernel), List.mem_of_getElem? (i := 665) (by decide +kernel), List.mem_of_getElem? (i := 666) (by decide +kernel)⟩
theorem lw_p10 : lw_okq (⟨"AnswerPass$Voices", "begins", "(I)V"⟩, 6) := ⟨⟨by decide +kernel, by decide +kernel⟩, List.mem_of_getElem? (i := 185) (by decide +kernel), List.mem_of_getElem? (i := 669) (by decide +kernel), List.mem_of_getElem? (i := 670) (by decide +kernel)⟩
theorem lw_p11 : lw_okq (⟨"AnswerPass$Voices", "says", "(II)I"⟩, 6) := ⟨⟨by decide +kernel, by decide +kernel⟩, List.mem_of_getElem? (i := 185) (by decide +kernel), List.mem_of_getElem? (i := 673) (by decide +kernel), List.mem_of_getElem? (i := 674) (by decide +kernel)⟩
theorem lw_p12 : lw_okq (⟨"AnswerPass$Voices", "sees", "(II)I"⟩, 6) := ⟨⟨by decide +kernel, by decide +kernel⟩, List.mem_of_getElem? (i := 185) (by decide +kernel), List.mem_of_getElem? (i := 677) (by decide +kernel), List.mem_of_getElem? (i := 678) (by decide +kernel)⟩
theorem lw_p13 : lw_okq (⟨"AnswerPass$Voices", "partsBy", "(II)I"⟩, 6) := ⟨⟨by decide +kernel, by decide +kernel⟩, List.mem_of_getElem? (i := 185) (by decide +kernel), List.mem_of_getElem? (i := 681) (by decide +kernel), List.mem_of_getElem? (i := 682) (by decide +kernel)⟩
theorem lw_p14 : lw_okq (⟨"AnswerPass$Voices", "above", "(IIII)I"⟩, 6) := ⟨⟨by decide +kernel, by decide +kernel⟩, List.mem_of_getElem? (i := 185) (by decide +kernel), List.mem_of_getElem? (i := 685) (by decide +kernel), List.mem_of_getElem? (i := 686) (by decide +kernel)⟩
theorem lw_p15 : lw_okq (⟨"AnswerPassModel", "error", "(I)I"⟩, 20) := ⟨⟨by decide +kernel, by decide +kernel⟩, List.mem_of_getElem? (i := 766) (by decide +kernel), List.mem_of_getElem? (i := 840) (by decide +kernel), List.mem_of_getElem? (i := 841) (by decide +kernel)⟩
def lw_privs_1 : List (MethodName × Nat) := [(⟨"AnswerPass", "refuse", "(I)I"⟩, 8), (⟨"AnswerPass", "isPerson", "(I)Z"⟩, 8), (⟨"AnswerPass$Reader", "reads", "(II)Z"⟩, 6), (⟨"AnswerPass$Reader", "readsUnit", "(I)Z"⟩, 6), (⟨"AnswerPass$Reader", "next", "()I"⟩, 6), (⟨"AnswerPass$Reader", "readsNumber", "()Z"⟩, 6), (⟨"AnswerPass$Reader", "writes", "(I)V"⟩, 6), (⟨"AnswerPass$Reader", "readsNot", "(I)Z"⟩, 6), (⟨"AnswerPass$Reader", "readsInner", "(I)Z"⟩, 6), (⟨"AnswerPass$Voices", "worksOut", "(III)I"⟩, 6), (⟨"AnswerPass$Voices", "begins", "(I)V"⟩, 6), (⟨"AnswerPass$Voices", "says", "(II)I"⟩, 6), (⟨"AnswerPass$Voices", "sees", "(II)I"⟩, 6), (⟨"AnswerPass$Voices", "partsBy", "(II)I"⟩, 6), (⟨"AnswerPass$Voices", "above", "(IIII)I"⟩, 6), (⟨"AnswerPassModel", "error", "(I)I"⟩, 20)]
theorem lw_r1 : ∀ q ∈ lw_privs_1, lw_okq q := List.forall_mem_cons.mpr ⟨lw_p0, List.forall_mem_cons.mpr ⟨lw_p1, List.forall_mem_cons.mpr ⟨lw_p2, List.forall_mem_cons.mpr ⟨lw_p3, List.forall_mem_cons.mpr ⟨lw_p4, List.forall_mem_cons.mpr ⟨lw_p5, List.forall_mem_cons.mpr ⟨lw_p6, List.forall_mem_cons.mpr ⟨lw_p7, List.forall_mem_cons.mpr ⟨lw_p8, List.forall_mem_cons.mpr ⟨lw_p9, List.forall_mem_cons.mpr ⟨lw_p10, List.forall_mem_cons.mpr ⟨lw_p11, List.forall_mem_cons.mpr ⟨lw_p12, List.forall_mem_cons.mpr ⟨lw_p13, List.forall_mem_cons.mpr ⟨lw_p14, List.forall_mem_cons.mpr ⟨lw_p15, fun _ h => absurd h List.not_mem_nil⟩⟩⟩⟩⟩⟩⟩⟩⟩⟩⟩⟩⟩⟩⟩⟩
theorem lw_p16 : lw_okq (⟨"AnswerPassModel", "whole", "()Z"⟩, 20) := ⟨⟨by decide +kernel, by decide +kernel⟩, List.mem_of_getElem? (i := 766) (by decide +kernel), List.mem_of_getElem? (i := 850) (by decide +kernel), List.mem_of_getElem? (i := 851) (by decide +kernel)⟩
theorem lw_p17 : lw_okq (⟨"AnswerPassModel", "both", "()Z"⟩, 20) := ⟨⟨by decide +kernel, by decide +kernel⟩, List.mem_of_getElem? (i := 766) (by decide +kernel), List.mem_of_getElem? (i := 854) (by decide +kernel), List.mem_of_getElem? (i := 855) (by decide +kernel)⟩
theorem lw_p18 : lw_okq (⟨"AnswerPassModel", "compared", "()Z"⟩, 20) := ⟨⟨by decide +kernel, by decide +kernel⟩, List.mem_of_getElem? (i := 766) (by decide +kernel), List.mem_of_getElem? (i := 858) (by decide +kernel), List.mem_of_getElem? (i := 859) (by decide +kernel)⟩
theorem lw_p19 : lw_okq (⟨"AnswerPassModel", "sum", "()Z"⟩, 20) := ⟨⟨by decide +kernel, by decide +kernel⟩, List.mem_of_getElem? (i := 766) (by decide +kernel), List.mem_of_getElem? (i := 862) (by decide +kernel), List.mem_of_getElem? (i := 863) (by decide +kernel)⟩
theorem lw_p20 : lw_okq (⟨"AnswerPassModel", "product", "()Z"⟩, 20) := ⟨⟨by decide +kernel, by decide +kernel⟩, List.mem_of_getElem? (i := 766) (by decide +kernel), List.mem_of_getElem? (i := 866) (by decide +kernel), List.mem_of_getElem? (i := 867) (by decide +kernel)⟩
theorem lw_p21 : lw_okq (⟨"AnswerPassModel", "one", "()Z"⟩, 20) := ⟨⟨by decide +kernel, by decide +kernel⟩, List.mem_of_getElem? (i := 766) (by decide +kernel), List.mem_of_getElem? (i := 870) (by decide +kernel), List.mem_of_getElem? (i := 871) (by decide +kernel)⟩
theorem lw_p22 : lw_okq (⟨"AnswerPassModel", "look", "()I"⟩, 20) := ⟨⟨by decide +kernel, by decide +kernel⟩, List.mem_of_getElem? (i := 766) (by decide +kernel), List.mem_of_getElem? (i := 874) (by decide +kernel), List.mem_of_getElem? (i := 875) (by decide +kernel)⟩
theorem lw_p23 : lw_okq (⟨"AnswerPassModel", "isName", "(I)Z"⟩, 20) := ⟨⟨by decide +kernel, by decide +kernel⟩, List.mem_of_getElem? (i := 766) (by decide +kernel), List.mem_of_getElem? (i := 878) (by decide +kernel), List.mem_of_getElem? (i := 879) (by decide +kernel)⟩
theorem lw_p24 : lw_okq (⟨"AnswerPassModel", "step1", "(II)V"⟩, 20) := ⟨⟨by decide +kernel, by decide +kernel⟩, List.mem_of_getElem? (i := 766) (by decide +kernel), List.mem_of_getElem? (i := 882) (by decide +kernel), List.mem_of_getElem? (i := 883) (by decide +kernel)⟩
theorem lw_p25 : lw_okq (⟨"AnswerPassModel", "opens", "()Z"⟩, 20) := ⟨⟨by decide +kernel, by decide +kernel⟩, List.mem_of_getElem? (i := 766) (by decide +kernel), List.mem_of_getElem? (i := 886) (by decide +kernel), List.mem_of_getElem? (i := 887) (by decide +kernel)⟩
theorem lw_p26 : lw_okq (⟨"AnswerPassModel", "hasText", "(I)Z"⟩, 20) := ⟨⟨by decide +kernel, by decide +kernel⟩, List.mem_of_getElem? (i := 766) (by decide +kernel), List.mem_of_getElem? (i := 894) (by decide +kernel), List.mem_of_getElem? (i := 895) (by decide +kernel)⟩
theorem lw_p27 : lw_okq (⟨"AnswerPassModel", "lays1", "(III)V"⟩, 20) := ⟨⟨by decide +kernel, by decide +kernel⟩, List.mem_of_getElem? (i := 766) (by decide +kernel), List.mem_of_getElem? (i := 905) (by decide +kernel), List.mem_of_getElem? (i := 906) (by decide +kernel)⟩
theorem lw_p28 : lw_okq (⟨"AnswerPassModel", "isPerson", "(I)Z"⟩, 20) := ⟨⟨by decide +kernel, by decide +kernel⟩, List.mem_of_getElem? (i := 766) (by decide +kernel), List.mem_of_getElem? (i := 913) (by decide +kernel), List.mem_of_getElem? (i := 914) (by decide +kernel)⟩
theorem lw_p29 : lw_okq (⟨"AnswerPassModel", "clearOf", "(I)I"⟩, 20) := ⟨⟨by decide +kernel, by decide +kernel⟩, List.mem_of_getElem? (i := 766) (by decide +kernel), List.mem_of_getElem? (i := 917) (by decide +kernel), List.mem_of_getElem? (i := 918) (by decide +kernel)⟩
theorem lw_p30 : lw_okq (⟨"AnswerPassModel", "seesOf", "(I)I"⟩, 20) := ⟨⟨by decide +kernel, by decide +kernel⟩, List.mem_of_getElem? (i := 766) (by decide +kernel), List.mem_of_getElem? (i := 921) (by decide +kernel), List.mem_of_getElem? (i := 922) (by decide +kernel)⟩
theorem lw_p31 : lw_okq (⟨"AnswerPassModel", "its", "(II)I"⟩, 20) := ⟨⟨by decide +kernel, by decide +kernel⟩, List.mem_of_getElem? (i := 766) (by decide +kernel), List.mem_of_getElem? (i := 925) (by decide +kernel), List.mem_of_getElem? (i := 926) (by decide +kernel)⟩
def lw_privs_2 : List (MethodName × Nat) := [(⟨"AnswerPassModel", "whole", "()Z"⟩, 20), (⟨"AnswerPassModel", "both", "()Z"⟩, 20), (⟨"AnswerPassModel", "compared", "()Z"⟩, 20), (⟨"AnswerPassModel", "sum", "()Z"⟩, 20), (⟨"AnswerPassModel", "product", "()Z"⟩, 20), (⟨"AnswerPassModel", "one", "()Z"⟩, 20), (⟨"AnswerPassModel", "look", "()I"⟩, 20), (⟨"AnswerPassModel", "isName", "(I)Z"⟩, 20), (⟨"AnswerPassModel", "step1", "(II)V"⟩, 20), (⟨"AnswerPassModel", "opens", "()Z"⟩, 20), (⟨"AnswerPassModel", "hasText", "(I)Z"⟩, 20), (⟨"AnswerPassModel", "lays1", "(III)V"⟩, 20), (⟨"AnswerPassModel", "isPerson", "(I)Z"⟩, 20), (⟨"AnswerPassModel", "clearOf", "(I)I"⟩, 20), (⟨"AnswerPassModel", "seesOf", "(I)I"⟩, 20), (⟨"AnswerPassModel", "its", "(II)I"⟩, 20)]
theorem lw_r2 : ∀ q ∈ lw_privs_2, lw_okq q := List.forall_mem_cons.mpr ⟨lw_p16, List.forall_mem_cons.mpr ⟨lw_p17, List.forall_mem_cons.mpr ⟨lw_p18, List.forall_mem_cons.mpr ⟨lw_p19, List.forall_mem_cons.mpr ⟨lw_p20, List.forall_mem_cons.mpr ⟨lw_p21, List.forall_mem_cons.mpr ⟨lw_p22, List.forall_mem_cons.mpr ⟨lw_p23, List.forall_mem_cons.mpr ⟨lw_p24, List.forall_mem_cons.mpr ⟨lw_p25, List.forall_mem_cons.mpr ⟨lw_p26, List.forall_mem_cons.mpr ⟨lw_p27, List.forall_mem_cons.mpr ⟨lw_p28, List.forall_mem_cons.mpr ⟨lw_p29, List.forall_mem_cons.mpr ⟨lw_p30, List.forall_mem_cons.mpr ⟨lw_p31, fun _ h => absurd h List.not_mem_nil⟩⟩⟩⟩⟩⟩⟩⟩⟩⟩⟩⟩⟩⟩⟩⟩
theorem lw_p32 : lw_okq (⟨"AnswerPassModel", "together", "(I)I"⟩, 20) := ⟨⟨by decide +kernel, by decide +kernel⟩, List.mem_of_getElem? (i := 766) (by decide +kernel), List.mem_of_getElem? (i := 929) (by decide +kernel), List.mem_of_getElem? (i := 930) (by decide +kernel)⟩
theorem lw_p33 : lw_okq (⟨"AnswerPassModel", "clearTold", "(III)I"⟩, 20) := ⟨⟨by decide +kernel, by decide +kernel⟩, List.mem_of_getElem? (i := 766) (by decide +kernel), List.mem_of_getElem? (i := 933) (by decide +kernel), List.mem_of_getElem? (i := 934) (by decide +kernel)⟩
theorem lw_p34 : lw_okq (⟨"AnswerPassModel", "worked", "(I)I"⟩, 20) := ⟨⟨by decide +kernel, by decide +kernel⟩, List.mem_of_getElem? (i := 766) (by decide +kernel), List.mem_of_getElem? (i := 937) (by decide +kernel), List.mem_of_getElem? (i := 938) (by decide +kernel)⟩
theorem lw_p35 : lw_okq (⟨"AnswerPassModel", "paceOf", "(I)I"⟩, 20) := ⟨⟨by decide +kernel, by decide +kernel⟩, List.mem_of_getElem? (i := 766) (by decide +kernel), List.mem_of_getElem? (i := 947) (by decide +kernel), List.mem_of_getElem? (i := 948) (by decide +kernel)⟩
theorem lw_p36 : lw_okq (⟨"AnswerPassModel", "paceTold", "(III)I"⟩, 20) := ⟨⟨by decide +kernel, by decide +kernel⟩, List.mem_of_getElem? (i := 766) (by decide +kernel), List.mem_of_getElem? (i := 951) (by decide +kernel), List.mem_of_getElem? (i := 952) (by decide +kernel)⟩
theorem lw_p37 : lw_okq (⟨"AnswerPassModel", "doesFall", "(I)Z"⟩, 20) := ⟨⟨by decide +kernel, by decide +kernel⟩, List.mem_of_getElem? (i := 766) (by decide +kernel), List.mem_of_getElem? (i := 955) (by decide +kernel), List.mem_of_getElem? (i := 956) (by decide +kernel)⟩
theorem lw_p38 : lw_okq (⟨"AnswerPassModel", "change1", "(II)I"⟩, 20) := ⟨⟨by decide +kernel, by decide +kernel⟩, List.mem_of_getElem? (i := 766) (by decide +kernel), List.mem_of_getElem? (i := 963) (by decide +kernel), List.mem_of_getElem? (i := 964) (by decide +kernel)⟩
theorem lw_p39 : lw_okq (⟨"AnswerPassModel", "whyNot", "(II)I"⟩, 20) := ⟨⟨by decide +kernel, by decide +kernel⟩, List.mem_of_getElem? (i := 766) (by decide +kernel), List.mem_of_getElem? (i := 997) (by decide +kernel), List.mem_of_getElem? (i := 998) (by decide +kernel)⟩
theorem lw_p40 : lw_okq (⟨"AnswerPassModel", "goes", "(I)V"⟩, 20) := ⟨⟨by decide +kernel, by decide +kernel⟩, List.mem_of_getElem? (i := 766) (by decide +kernel), List.mem_of_getElem? (i := 1001) (by decide +kernel), List.mem_of_getElem? (i := 1002) (by decide +kernel)⟩
theorem lw_p41 : lw_okq (⟨"AnswerPassModel", "anHour", "()V"⟩, 20) := ⟨⟨by decide +kernel, by decide +kernel⟩, List.mem_of_getElem? (i := 766) (by decide +kernel), List.mem_of_getElem? (i := 1005) (by decide +kernel), List.mem_of_getElem? (i := 1006) (by decide +kernel)⟩
theorem lw_p42 : lw_okq (⟨"AnswerPassModel", "walks1", "(I)V"⟩, 20) := ⟨⟨by decide +kernel, by decide +kernel⟩, List.mem_of_getElem? (i := 766) (by decide +kernel), List.mem_of_getElem? (i := 1009) (by decide +kernel), List.mem_of_getElem? (i := 1010) (by decide +kernel)⟩
theorem lw_p43 : lw_okq (⟨"AnswerPassModel", "isDrop", "(I)Z"⟩, 20) := ⟨⟨by decide +kernel, by decide +kernel⟩, List.mem_of_getElem? (i := 766) (by decide +kernel), List.mem_of_getElem? (i := 1013) (by decide +kernel), List.mem_of_getElem? (i := 1014) (by decide +kernel)⟩
theorem lw_p44 : lw_okq (⟨"AnswerPassModel", "through", "()I"⟩, 20) := ⟨⟨by decide +kernel, by decide +kernel⟩, List.mem_of_getElem? (i := 766) (by decide +kernel), List.mem_of_getElem? (i := 1017) (by decide +kernel), List.mem_of_getElem? (i := 1018) (by decide +kernel)⟩
theorem lw_p45 : lw_okq (⟨"AnswerPassModel", "chances", "()V"⟩, 20) := ⟨⟨by decide +kernel, by decide +kernel⟩, List.mem_of_getElem? (i := 766) (by decide +kernel), List.mem_of_getElem? (i := 1025) (by decide +kernel), List.mem_of_getElem? (i := 1026) (by decide +kernel)⟩
theorem lw_p46 : lw_okq (⟨"AnswerPassModel", "draw", "()I"⟩, 20) := ⟨⟨by decide +kernel, by decide +kernel⟩, List.mem_of_getElem? (i := 766) (by decide +kernel), List.mem_of_getElem? (i := 1029) (by decide +kernel), List.mem_of_getElem? (i := 1030) (by decide +kernel)⟩
theorem lw_p47 : lw_okq (⟨"AnswerPassModel", "layDown", "()V"⟩, 20) := ⟨⟨by decide +kernel, by decide +kernel⟩, List.mem_of_getElem? (i := 766) (by decide +kernel), List.mem_of_getElem? (i := 1046) (by decide +kernel), List.mem_of_getElem? (i := 1047) (by decide +kernel)⟩
def lw_privs_3 : List (MethodName × Nat) := [(⟨"AnswerPassModel", "together", "(I)I"⟩, 20), (⟨"AnswerPassModel", "clearTold", "(III)I"⟩, 20), (⟨"AnswerPassModel", "worked", "(I)I"⟩, 20), (⟨"AnswerPassModel", "paceOf", "(I)I"⟩, 20), (⟨"AnswerPassModel", "paceTold", "(III)I"⟩, 20), (⟨"AnswerPassModel", "doesFall", "(I)Z"⟩, 20), (⟨"AnswerPassModel", "change1", "(II)I"⟩, 20), (⟨"AnswerPassModel", "whyNot", "(II)I"⟩, 20), (⟨"AnswerPassModel", "goes", "(I)V"⟩, 20), (⟨"AnswerPassModel", "anHour", "()V"⟩, 20), (⟨"AnswerPassModel", "walks1", "(I)V"⟩, 20), (⟨"AnswerPassModel", "isDrop", "(I)Z"⟩, 20), (⟨"AnswerPassModel", "through", "()I"⟩, 20), (⟨"AnswerPassModel", "chances", "()V"⟩, 20), (⟨"AnswerPassModel", "draw", "()I"⟩, 20), (⟨"AnswerPassModel", "layDown", "()V"⟩, 20)]
theorem lw_r3 : ∀ q ∈ lw_privs_3, lw_okq q := List.forall_mem_cons.mpr ⟨lw_p32, List.forall_mem_cons.mpr ⟨lw_p33, List.forall_mem_cons.mpr ⟨lw_p34, List.forall_mem_cons.mpr ⟨lw_p35, List.forall_mem_cons.mpr ⟨lw_p36, List.forall_mem_cons.mpr ⟨lw_p37, List.forall_mem_cons.mpr ⟨lw_p38, List.forall_mem_cons.mpr ⟨lw_p39, List.forall_mem_cons.mpr ⟨lw_p40, List.forall_mem_cons.mpr ⟨lw_p41, List.forall_mem_cons.mpr ⟨lw_p42, List.forall_mem_cons.mpr ⟨lw_p43, List.forall_mem_cons.mpr ⟨lw_p44, List.forall_mem_cons.mpr ⟨lw_p45, List.forall_mem_cons.mpr ⟨lw_p46, List.forall_mem_cons.mpr ⟨lw_p47, fun _ h => absurd h List.not_mem_nil⟩⟩⟩⟩⟩⟩⟩⟩⟩⟩⟩⟩⟩⟩⟩⟩
theorem lw_p48 : lw_okq (⟨"AnswerPassModel", "layBack", "()V"⟩, 20) := ⟨⟨by decide +kernel, by decide +kernel⟩, List.mem_of_getElem? (i := 766) (by decide +kernel), List.mem_of_getElem? (i := 1050) (by decide +kernel), List.mem_of_getElem? (i := 1051) (by decide +kernel)⟩
theorem lw_p49 : lw_okq (⟨"AnswerPassModel", "comesBy", "(III)I"⟩, 20) := ⟨⟨by decide +kernel, by decide +kernel⟩, List.mem_of_getElem? (i := 766) (by decide +kernel), List.mem_of_getElem? (i := 1058) (by decide +kernel), List.mem_of_getElem? (i := 1059) (by decide +kernel)⟩
theorem lw_p50 : lw_okq (⟨"AnswerPassModel", "comesWith", "(IIII)Z"⟩, 20) := ⟨⟨by decide +kernel, by decide +kernel⟩, List.mem_of_getElem? (i := 766) (by decide +kernel), List.mem_of_getElem? (i := 1069) (by decide +kernel), List.mem_of_getElem? (i := 1070) (by decide +kernel)⟩
theorem lw_p51 : lw_okq (⟨"AnswerPassModel", "comesWithout", "(IIII)Z"⟩, 20) := ⟨⟨by decide +kernel, by decide +kernel⟩, List.mem_of_getElem? (i := 766) (by decide +kernel), List.mem_of_getElem? (i := 1080) (by decide +kernel), List.mem_of_getElem? (i := 1081) (by decide +kernel)⟩
theorem lw_p52 : lw_okq (⟨"AnswerPassModel", "farWith", "(III)I"⟩, 20) := ⟨⟨by decide +kernel, by decide +kernel⟩, List.mem_of_getElem? (i := 766) (by decide +kernel), List.mem_of_getElem? (i := 1088) (by decide +kernel), List.mem_of_getElem? (i := 1089) (by decide +kernel)⟩
theorem lw_p53 : lw_okq (⟨"AnswerPassModel", "lacks", "(I)I"⟩, 20) := ⟨⟨by decide +kernel, by decide +kernel⟩, List.mem_of_getElem? (i := 766) (by decide +kernel), List.mem_of_getElem? (i := 1103) (by decide +kernel), List.mem_of_getElem? (i := 1104) (by decide +kernel)⟩
theorem lw_p54 : lw_okq (⟨"AnswerPassModel", "clearsSo", "(III)Z"⟩, 20) := ⟨⟨by decide +kernel, by decide +kernel⟩, List.mem_of_getElem? (i := 766) (by decide +kernel), List.mem_of_getElem? (i := 1110) (by decide +kernel), List.mem_of_getElem? (i := 1111) (by decide +kernel)⟩
theorem lw_p55 : lw_okq (⟨"AnswerPassModel", "kindNow", "()I"⟩, 20) := ⟨⟨by decide +kernel, by decide +kernel⟩, List.mem_of_getElem? (i := 766) (by decide +kernel), List.mem_of_getElem? (i := 1118) (by decide +kernel), List.mem_of_getElem? (i := 1119) (by decide +kernel)⟩
theorem lw_p56 : lw_okq (⟨"AnswerPassModel", "saysAs", "(II)I"⟩, 20) := ⟨⟨by decide +kernel, by decide +kernel⟩, List.mem_of_getElem? (i := 766) (by decide +kernel), List.mem_of_getElem? (i := 1122) (by decide +kernel), List.mem_of_getElem? (i := 1123) (by decide +kernel)⟩
theorem lw_p57 : lw_okq (⟨"AnswerPassModel", "starts", "(I)V"⟩, 20) := ⟨⟨by decide +kernel, by decide +kernel⟩, List.mem_of_getElem? (i := 766) (by decide +kernel), List.mem_of_getElem? (i := 1126) (by decide +kernel), List.mem_of_getElem? (i := 1127) (by decide +kernel)⟩
theorem lw_p58 : lw_okq (⟨"AnswerPassModel", "seesAs", "(II)I"⟩, 20) := ⟨⟨by decide +kernel, by decide +kernel⟩, List.mem_of_getElem? (i := 766) (by decide +kernel), List.mem_of_getElem? (i := 1130) (by decide +kernel), List.mem_of_getElem? (i := 1131) (by decide +kernel)⟩
theorem lw_p59 : lw_okq (⟨"AnswerPassModel", "mNow", "()I"⟩, 20) := ⟨⟨by decide +kernel, by decide +kernel⟩, List.mem_of_getElem? (i := 766) (by decide +kernel), List.mem_of_getElem? (i := 1134) (by decide +kernel), List.mem_of_getElem? (i := 1135) (by decide +kernel)⟩
theorem lw_p60 : lw_okq (⟨"AnswerPassModel", "walksAs", "(II)I"⟩, 20) := ⟨⟨by decide +kernel, by decide +kernel⟩, List.mem_of_getElem? (i := 766) (by decide +kernel), List.mem_of_getElem? (i := 1138) (by decide +kernel), List.mem_of_getElem? (i := 1139) (by decide +kernel)⟩
theorem lw_p61 : lw_okq (⟨"AnswerPassModel", "partsAs", "(II)I"⟩, 20) := ⟨⟨by decide +kernel, by decide +kernel⟩, List.mem_of_getElem? (i := 766) (by decide +kernel), List.mem_of_getElem? (i := 1142) (by decide +kernel), List.mem_of_getElem? (i := 1143) (by decide +kernel)⟩
def lw_privs_4 : List (MethodName × Nat) := [(⟨"AnswerPassModel", "layBack", "()V"⟩, 20), (⟨"AnswerPassModel", "comesBy", "(III)I"⟩, 20), (⟨"AnswerPassModel", "comesWith", "(IIII)Z"⟩, 20), (⟨"AnswerPassModel", "comesWithout", "(IIII)Z"⟩, 20), (⟨"AnswerPassModel", "farWith", "(III)I"⟩, 20), (⟨"AnswerPassModel", "lacks", "(I)I"⟩, 20), (⟨"AnswerPassModel", "clearsSo", "(III)Z"⟩, 20), (⟨"AnswerPassModel", "kindNow", "()I"⟩, 20), (⟨"AnswerPassModel", "saysAs", "(II)I"⟩, 20), (⟨"AnswerPassModel", "starts", "(I)V"⟩, 20), (⟨"AnswerPassModel", "seesAs", "(II)I"⟩, 20), (⟨"AnswerPassModel", "mNow", "()I"⟩, 20), (⟨"AnswerPassModel", "walksAs", "(II)I"⟩, 20), (⟨"AnswerPassModel", "partsAs", "(II)I"⟩, 20)]
theorem lw_r4 : ∀ q ∈ lw_privs_4, lw_okq q := List.forall_mem_cons.mpr ⟨lw_p48, List.forall_mem_cons.mpr ⟨lw_p49, List.forall_mem_cons.mpr ⟨lw_p50, List.forall_mem_cons.mpr ⟨lw_p51, List.forall_mem_cons.mpr ⟨lw_p52, List.forall_mem_cons.mpr ⟨lw_p53, List.forall_mem_cons.mpr ⟨lw_p54, List.forall_mem_cons.mpr ⟨lw_p55, List.forall_mem_cons.mpr ⟨lw_p56, List.forall_mem_cons.mpr ⟨lw_p57, List.forall_mem_cons.mpr ⟨lw_p58, List.forall_mem_cons.mpr ⟨lw_p59, List.forall_mem_cons.mpr ⟨lw_p60, List.forall_mem_cons.mpr ⟨lw_p61, fun _ h => absurd h List.not_mem_nil⟩⟩⟩⟩⟩⟩⟩⟩⟩⟩⟩⟩⟩⟩
def lw_privs : List (MethodName × Nat) := lw_privs_1 ++ (lw_privs_2 ++ (lw_privs_3 ++ (lw_privs_4)))
def lw_tbl : List Cond := k2_sels lw_privs ++ tables_1
theorem lw_privs_ok : ∀ q ∈ lw_privs, lw_okq q := by
  show ∀ q ∈ lw_privs_1 ++ (lw_privs_2 ++ (lw_privs_3 ++ (lw_privs_4))), lw_okq q
  exact List.forall_mem_append.mpr ⟨lw_r1, List.forall_mem_append.mpr ⟨lw_r2, List.forall_mem_append.mpr ⟨lw_r3, lw_r4⟩⟩⟩
/-- the words of the tables that a callee may take over -/
def tblG : List Cond := lw_tbl.filter goodWord
theorem gW_of {w : Cond} (i : Nat) (h : lw_tbl[i]? = some w) (hg : goodWord w = true) : w ∈ tblG := List.mem_filter.mpr ⟨List.mem_of_getElem? h, hg⟩
theorem gW_tbl {w : Cond} (h : w ∈ tblG) : w ∈ lw_tbl := (List.mem_filter.mp h).1
theorem gW_good {ws : List Cond} (h : ∀ w ∈ ws, w ∈ tblG) : GoodIn tblG ws := fun w hw => ⟨h w hw, good_of_word (List.mem_filter.mp (h w hw)).2⟩
end
section
/-! ===== BEGIN words of one list among another's, by their places ===== -/
theorem goodIn_r {big : List Cond} (ws : List Cond) (ps : List Nat) (hp : ws = ps.filterMap (fun i => big[i]?)) (h : ws.all goodWord = true) : GoodIn big ws := by
  intro w hw
  have h1 := List.all_eq_true.mp h w hw
  rw [hp] at hw
  obtain ⟨i, -, hi⟩ := List.mem_filterMap.mp hw
  have hm : w ∈ big := by first | exact List.mem_of_getElem? hi | exact List.getElem?_mem hi
  exact ⟨hm, good_of_word h1⟩
theorem goodIn_app {big a b : List Cond} (ha : GoodIn big a) (hb : GoodIn big b) : GoodIn big (a ++ b) := fun w h => (List.mem_append.mp h).elim (ha w) (hb w)
theorem goodIn_ca {big a b : List Cond} {c : Cond} (ha : GoodIn big (c :: a)) (hb : GoodIn big b) : GoodIn big (c :: (a ++ b)) := fun w h => (List.mem_cons.mp h).elim (fun e => ha w (List.mem_cons.mpr (Or.inl e))) (fun h => (List.mem_append.mp h).elim (fun h => ha w (List.mem_cons.mpr (Or.inr h))) (hb w))
theorem goodIn_sub {big ws : List Cond} (hm : ∀ w ∈ ws, w ∈ big) (h : ws.all goodWord = true) : GoodIn big ws := fun w hw => ⟨hm w hw, good_of_word (List.all_eq_true.mp h w hw)⟩
/-! ===== END ===== -/



def RX0 : String := "AnswerPass$Law"
def TX0 : u_T := fun k => match k with
  | 0 => ("AnswerPass$Law", "use", "I", true)
  | 1 => ("AnswerPass$Law", "codes", "[I", true)
  | 2 => ("AnswerPass$Law", "open", "[I", true)
  | _ => ("AnswerPass$Law", "size", "I", false)
def tyX0 : Nat → FieldType := fun k => match k with
  | 0 => .int
  | 1 => .array .int
  | 2 => .array .int
  | _ => .int
abbrev wsX00 : List Cond := u_ws RX0 TX0 4
theorem nmX0 : ∀ a, a < 4 → ∀ b, b < 4 → a ≠ b → (TX0 a).2.1 ≠ (TX0 b).2.1 := by decide +kernel
theorem tyX0_ok : ∀ k, k < 4 → parseFieldDescriptor (TX0 k).2.2.1 = some (tyX0 k) := by decide +kernel
abbrev cX0_init : ByteArray := prog_2_method_1_code
def yX0_init : MethodName := ⟨RX0, "<init>", "(I)V"⟩
abbrev cX0_copies : ByteArray := prog_2_method_2_code
def yX0_copies : MethodName := ⟨RX0, "copies", "(LAnswerPass$Law;)V"⟩
abbrev cX0_becomes : ByteArray := prog_2_method_3_code
def yX0_becomes : MethodName := ⟨RX0, "becomes", "([II)V"⟩
abbrev cX0_gives : ByteArray := prog_2_method_4_code
def yX0_gives : MethodName := ⟨RX0, "gives", "(III)I"⟩
abbrev cX0_without : ByteArray := prog_2_method_5_code
def yX0_without : MethodName := ⟨RX0, "without", "(I)I"⟩
abbrev cX0_joined : ByteArray := prog_2_method_6_code
def yX0_joined : MethodName := ⟨RX0, "joined", "(III)I"⟩
def RX1 : String := "AnswerPass$Pass"
def TX1 : u_T := fun k => match k with
  | 0 => ("AnswerPass$Pass", "clear", "LAnswerPass$Law;", true)
  | 1 => ("AnswerPass$Pass", "pace", "LAnswerPass$Law;", true)
  | 2 => ("AnswerPass$Pass", "kinds", "[I", true)
  | 3 => ("AnswerPass$Pass", "numbers", "[I", true)
  | 4 => ("AnswerPass$Pass", "sures", "[I", true)
  | 5 => ("AnswerPass$Pass", "at", "[I", true)
  | 6 => ("AnswerPass$Pass", "lost", "[Z", true)
  | 7 => ("AnswerPass$Pass", "people", "I", false)
  | 8 => ("AnswerPass$Pass", "drops", "I", false)
  | _ => ("AnswerPass$Pass", "hour", "I", false)
def tyX1 : Nat → FieldType := fun k => match k with
  | 0 => .object "AnswerPass$Law"
  | 1 => .object "AnswerPass$Law"
  | 2 => .array .int
  | 3 => .array .int
  | 4 => .array .int
  | 5 => .array .int
  | 6 => .array .boolean
  | 7 => .int
  | 8 => .int
  | _ => .int
abbrev wsX10 : List Cond := u_ws RX1 TX1 10
theorem nmX1 : ∀ a, a < 10 → ∀ b, b < 10 → a ≠ b → (TX1 a).2.1 ≠ (TX1 b).2.1 := by decide +kernel
theorem tyX1_ok : ∀ k, k < 10 → parseFieldDescriptor (TX1 k).2.2.1 = some (tyX1 k) := by decide +kernel
abbrev cX1_init : ByteArray := prog_3_method_1_code
def yX1_init : MethodName := ⟨RX1, "<init>", "(LAnswerPass$Law;LAnswerPass$Law;)V"⟩
abbrev cX1_copies : ByteArray := prog_3_method_2_code
def yX1_copies : MethodName := ⟨RX1, "copies", "(LAnswerPass$Pass;)V"⟩
abbrev cX1_takesIn : ByteArray := prog_3_method_3_code
def yX1_takesIn : MethodName := ⟨RX1, "takesIn", "(III)I"⟩
abbrev cX1_stands : ByteArray := prog_3_method_4_code
def yX1_stands : MethodName := ⟨RX1, "stands", "(II)V"⟩
abbrev cX1_clearFor : ByteArray := prog_3_method_5_code
def yX1_clearFor : MethodName := ⟨RX1, "clearFor", "(I)I"⟩
abbrev cX1_paceOf : ByteArray := prog_3_method_6_code
def yX1_paceOf : MethodName := ⟨RX1, "paceOf", "(II)I"⟩
abbrev cX1_sees : ByteArray := prog_3_method_7_code
def yX1_sees : MethodName := ⟨RX1, "sees", "(I)I"⟩
abbrev cX1_together : ByteArray := prog_3_method_8_code
def yX1_together : MethodName := ⟨RX1, "together", "(I)I"⟩
abbrev cX1_falls : ByteArray := prog_3_method_9_code
def yX1_falls : MethodName := ⟨RX1, "falls", "(I)Z"⟩
abbrev cX1_anHourGoes : ByteArray := prog_3_method_10_code
def yX1_anHourGoes : MethodName := ⟨RX1, "anHourGoes", "(I)V"⟩
abbrev cX1_goes : ByteArray := prog_3_method_11_code
def yX1_goes : MethodName := ⟨RX1, "goes", "(IIZ)V"⟩
abbrev cX1_through : ByteArray := prog_3_method_12_code
def yX1_through : MethodName := ⟨RX1, "through", "()I"⟩
abbrev cX1_howManyAre : ByteArray := prog_3_method_13_code
def yX1_howManyAre : MethodName := ⟨RX1, "howManyAre", "([I[II)I"⟩
def RX2 : String := "AnswerPass$Reader"
def TX2 : u_T := fun k => match k with
  | 0 => ("AnswerPass$Reader", "tape", "[I", true)
  | 1 => ("AnswerPass$Reader", "codes", "[I", true)
  | 2 => ("AnswerPass$Reader", "written", "I", false)
  | 3 => ("AnswerPass$Reader", "size", "I", false)
  | 4 => ("AnswerPass$Reader", "place", "I", false)
  | _ => ("AnswerPass$Reader", "names", "Ljava/lang/String;", false)
def tyX2 : Nat → FieldType := fun k => match k with
  | 0 => .array .int
  | 1 => .array .int
  | 2 => .int
  | 3 => .int
  | 4 => .int
  | _ => .object "java/lang/String"
abbrev wsX20 : List Cond := u_ws RX2 TX2 6
theorem nmX2 : ∀ a, a < 6 → ∀ b, b < 6 → a ≠ b → (TX2 a).2.1 ≠ (TX2 b).2.1 := by decide +kernel
theorem tyX2_ok : ∀ k, k < 6 → parseFieldDescriptor (TX2 k).2.2.1 = some (tyX2 k) := by decide +kernel
abbrev cX2_init : ByteArray := prog_4_method_1_code
def yX2_init : MethodName := ⟨RX2, "<init>", "([I)V"⟩
abbrev cX2_faultOf : ByteArray := prog_4_method_2_code
def yX2_faultOf : MethodName := ⟨RX2, "faultOf", "(II)I"⟩
abbrev cX2_reads : ByteArray := prog_4_method_3_code
def yX2_reads : MethodName := ⟨RX2, "reads", "(II)Z"⟩
abbrev cX2_readsUnit : ByteArray := prog_4_method_4_code
def yX2_readsUnit : MethodName := ⟨RX2, "readsUnit", "(I)Z"⟩
abbrev cX2_readsNumber : ByteArray := prog_4_method_5_code
def yX2_readsNumber : MethodName := ⟨RX2, "readsNumber", "()Z"⟩
abbrev cX2_readsNot : ByteArray := prog_4_method_6_code
def yX2_readsNot : MethodName := ⟨RX2, "readsNot", "(I)Z"⟩
abbrev cX2_readsInner : ByteArray := prog_4_method_7_code
def yX2_readsInner : MethodName := ⟨RX2, "readsInner", "(I)Z"⟩
abbrev cX2_next : ByteArray := prog_4_method_8_code
def yX2_next : MethodName := ⟨RX2, "next", "()I"⟩
abbrev cX2_writes : ByteArray := prog_4_method_9_code
def yX2_writes : MethodName := ⟨RX2, "writes", "(I)V"⟩
abbrev cX2_isDigit : ByteArray := prog_4_method_10_code
def yX2_isDigit : MethodName := ⟨RX2, "isDigit", "(I)Z"⟩
abbrev cX2_rankOf : ByteArray := prog_4_method_11_code
def yX2_rankOf : MethodName := ⟨RX2, "rankOf", "(I)I"⟩
def RX3 : String := "AnswerPass$Sheets"
def TX3 : u_T := fun k => match k with
  | 0 => ("AnswerPass$Sheets", "bits", "[I", true)
  | 1 => ("AnswerPass$Sheets", "sizes", "[I", true)
  | _ => ("AnswerPass$Sheets", "rows", "[[I", true)
def tyX3 : Nat → FieldType := fun k => match k with
  | 0 => .array .int
  | 1 => .array .int
  | _ => .array (.array .int)
abbrev wsX30 : List Cond := u_ws RX3 TX3 3
theorem nmX3 : ∀ a, a < 3 → ∀ b, b < 3 → a ≠ b → (TX3 a).2.1 ≠ (TX3 b).2.1 := by decide +kernel
theorem tyX3_ok : ∀ k, k < 3 → parseFieldDescriptor (TX3 k).2.2.1 = some (tyX3 k) := by decide +kernel
abbrev cX3_init : ByteArray := prog_5_method_1_code
def yX3_init : MethodName := ⟨RX3, "<init>", "()V"⟩
abbrev cX3_isMissing : ByteArray := prog_5_method_2_code
def yX3_isMissing : MethodName := ⟨RX3, "isMissing", "(I)Z"⟩
abbrev cX3_lays : ByteArray := prog_5_method_3_code
def yX3_lays : MethodName := ⟨RX3, "lays", "(III)V"⟩
abbrev cX3_lowest : ByteArray := prog_5_method_4_code
def yX3_lowest : MethodName := ⟨RX3, "lowest", "(II)I"⟩
abbrev cX3_holds : ByteArray := prog_5_method_5_code
def yX3_holds : MethodName := ⟨RX3, "holds", "(III)Z"⟩
def RX4 : String := "AnswerPass$State"
def TX4 : u_T := fun k => match k with
  | 0 => ("AnswerPass$State", "clear", "LAnswerPass$Law;", true)
  | 1 => ("AnswerPass$State", "pace", "LAnswerPass$Law;", true)
  | 2 => ("AnswerPass$State", "pass", "LAnswerPass$Pass;", true)
  | 3 => ("AnswerPass$State", "tape", "[I", true)
  | 4 => ("AnswerPass$State", "tapeSize", "I", false)
  | 5 => ("AnswerPass$State", "waits", "[I", true)
  | 6 => ("AnswerPass$State", "waiting", "I", false)
  | _ => ("AnswerPass$State", "z", "I", false)
def tyX4 : Nat → FieldType := fun k => match k with
  | 0 => .object "AnswerPass$Law"
  | 1 => .object "AnswerPass$Law"
  | 2 => .object "AnswerPass$Pass"
  | 3 => .array .int
  | 4 => .int
  | 5 => .array .int
  | 6 => .int
  | _ => .int
abbrev wsX40 : List Cond := u_ws RX4 TX4 8
theorem nmX4 : ∀ a, a < 8 → ∀ b, b < 8 → a ≠ b → (TX4 a).2.1 ≠ (TX4 b).2.1 := by decide +kernel
theorem tyX4_ok : ∀ k, k < 8 → parseFieldDescriptor (TX4 k).2.2.1 = some (tyX4 k) := by decide +kernel
abbrev cX4_init : ByteArray := prog_6_method_1_code
def yX4_init : MethodName := ⟨RX4, "<init>", "()V"⟩
abbrev cX4_copies : ByteArray := prog_6_method_2_code
def yX4_copies : MethodName := ⟨RX4, "copies", "(LAnswerPass$State;)V"⟩
abbrev cX4_lawOf : ByteArray := prog_6_method_3_code
def yX4_lawOf : MethodName := ⟨RX4, "lawOf", "(I)LAnswerPass$Law;"⟩
abbrev cX4_takesBytes : ByteArray := prog_6_method_4_code
def yX4_takesBytes : MethodName := ⟨RX4, "takesBytes", "(JI)V"⟩
abbrev cX4_draws : ByteArray := prog_6_method_5_code
def yX4_draws : MethodName := ⟨RX4, "draws", "()I"⟩
abbrev cX4_drawsAnHour : ByteArray := prog_6_method_6_code
def yX4_drawsAnHour : MethodName := ⟨RX4, "drawsAnHour", "()V"⟩
def RX5 : String := "AnswerPass$Thought"
def TX5 : u_T := fun k => match k with
  | 0 => ("AnswerPass$Thought", "truth", "LAnswerPass$Pass;", true)
  | _ => ("AnswerPass$Thought", "pass", "LAnswerPass$Pass;", true)
def tyX5 : Nat → FieldType := fun k => match k with
  | 0 => .object "AnswerPass$Pass"
  | _ => .object "AnswerPass$Pass"
abbrev wsX50 : List Cond := u_ws RX5 TX5 2
theorem nmX5 : ∀ a, a < 2 → ∀ b, b < 2 → a ≠ b → (TX5 a).2.1 ≠ (TX5 b).2.1 := by decide +kernel
theorem tyX5_ok : ∀ k, k < 2 → parseFieldDescriptor (TX5 k).2.2.1 = some (tyX5 k) := by decide +kernel
abbrev cX5_init : ByteArray := prog_7_method_1_code
def yX5_init : MethodName := ⟨RX5, "<init>", "(LAnswerPass$Pass;)V"⟩
abbrev cX5_starts : ByteArray := prog_7_method_2_code
def yX5_starts : MethodName := ⟨RX5, "starts", "()V"⟩
abbrev cX5_goesOn : ByteArray := prog_7_method_3_code
def yX5_goesOn : MethodName := ⟨RX5, "goesOn", "(II)V"⟩
abbrev cX5_hoursTo : ByteArray := prog_7_method_4_code
def yX5_hoursTo : MethodName := ⟨RX5, "hoursTo", "(III)I"⟩
abbrev cX5_comesWith : ByteArray := prog_7_method_5_code
def yX5_comesWith : MethodName := ⟨RX5, "comesWith", "(IIII)Z"⟩
abbrev cX5_comesWithout : ByteArray := prog_7_method_6_code
def yX5_comesWithout : MethodName := ⟨RX5, "comesWithout", "(IIII)Z"⟩
abbrev cX5_leastFilled : ByteArray := prog_7_method_7_code
def yX5_leastFilled : MethodName := ⟨RX5, "leastFilled", "(III)I"⟩
abbrev cX5_isDrop : ByteArray := prog_7_method_8_code
def yX5_isDrop : MethodName := ⟨RX5, "isDrop", "(I)Z"⟩
abbrev cX5_howFarWith : ByteArray := prog_7_method_9_code
def yX5_howFarWith : MethodName := ⟨RX5, "howFarWith", "(III)I"⟩
abbrev cX5_clearsAs : ByteArray := prog_7_method_10_code
def yX5_clearsAs : MethodName := ⟨RX5, "clearsAs", "(II[II)Z"⟩
def RX6 : String := "AnswerPass$Voices"
def TX6 : u_T := fun k => match k with
  | 0 => ("AnswerPass$Voices", "trace", "[I", true)
  | 1 => ("AnswerPass$Voices", "begun", "I", false)
  | 2 => ("AnswerPass$Voices", "isParted", "Z", false)
  | 3 => ("AnswerPass$Voices", "kind", "I", false)
  | 4 => ("AnswerPass$Voices", "k", "I", false)
  | _ => ("AnswerPass$Voices", "m", "I", false)
def tyX6 : Nat → FieldType := fun k => match k with
  | 0 => .array .int
  | 1 => .int
  | 2 => .boolean
  | 3 => .int
  | 4 => .int
  | _ => .int
abbrev wsX60 : List Cond := u_ws RX6 TX6 6
theorem nmX6 : ∀ a, a < 6 → ∀ b, b < 6 → a ≠ b → (TX6 a).2.1 ≠ (TX6 b).2.1 := by decide +kernel
theorem tyX6_ok : ∀ k, k < 6 → parseFieldDescriptor (TX6 k).2.2.1 = some (tyX6 k) := by decide +kernel
abbrev cX6_init : ByteArray := prog_8_method_1_code
def yX6_init : MethodName := ⟨RX6, "<init>", "()V"⟩
abbrev cX6_speaks : ByteArray := prog_8_method_2_code
def yX6_speaks : MethodName := ⟨RX6, "speaks", "(IIIII)I"⟩
abbrev cX6_says : ByteArray := prog_8_method_3_code
def yX6_says : MethodName := ⟨RX6, "says", "(II)I"⟩
abbrev cX6_sees : ByteArray := prog_8_method_4_code
def yX6_sees : MethodName := ⟨RX6, "sees", "(II)I"⟩
abbrev cX6_above : ByteArray := prog_8_method_5_code
def yX6_above : MethodName := ⟨RX6, "above", "(IIII)I"⟩
abbrev cX6_partsBy : ByteArray := prog_8_method_6_code
def yX6_partsBy : MethodName := ⟨RX6, "partsBy", "(II)I"⟩
abbrev cX6_worksOut : ByteArray := prog_8_method_7_code
def yX6_worksOut : MethodName := ⟨RX6, "worksOut", "(III)I"⟩
abbrev cX6_begins : ByteArray := prog_8_method_8_code
def yX6_begins : MethodName := ⟨RX6, "begins", "(I)V"⟩
abbrev cX6_bodyFrom : ByteArray := prog_8_method_9_code
def yX6_bodyFrom : MethodName := ⟨RX6, "bodyFrom", "(II)I"⟩
def RX7 : String := "AnswerPass"
def TX7 : u_T := fun k => match k with
  | 0 => ("AnswerPass", "now", "LAnswerPass$State;", true)
  | 1 => ("AnswerPass", "kept", "LAnswerPass$State;", true)
  | 2 => ("AnswerPass", "reader", "LAnswerPass$Reader;", true)
  | 3 => ("AnswerPass", "thought", "LAnswerPass$Thought;", true)
  | 4 => ("AnswerPass", "voices", "LAnswerPass$Voices;", true)
  | 5 => ("AnswerPass", "sheets", "LAnswerPass$Sheets;", true)
  | 6 => ("AnswerPass", "errors", "[I", true)
  | _ => ("AnswerPass", "images", "I", false)
def tyX7 : Nat → FieldType := fun k => match k with
  | 0 => .object "AnswerPass$State"
  | 1 => .object "AnswerPass$State"
  | 2 => .object "AnswerPass$Reader"
  | 3 => .object "AnswerPass$Thought"
  | 4 => .object "AnswerPass$Voices"
  | 5 => .object "AnswerPass$Sheets"
  | 6 => .array .int
  | _ => .int
abbrev wsX70 : List Cond := u_ws RX7 TX7 8
theorem nmX7 : ∀ a, a < 8 → ∀ b, b < 8 → a ≠ b → (TX7 a).2.1 ≠ (TX7 b).2.1 := by decide +kernel
theorem tyX7_ok : ∀ k, k < 8 → parseFieldDescriptor (TX7 k).2.2.1 = some (tyX7 k) := by decide +kernel
abbrev cX7_init : ByteArray := prog_1_method_1_code
def yX7_init : MethodName := ⟨RX7, "<init>", "()V"⟩
abbrev cX7_person : ByteArray := prog_1_method_2_code
def yX7_person : MethodName := ⟨RX7, "person", "(II)I"⟩
abbrev cX7_personIs : ByteArray := prog_1_method_3_code
def yX7_personIs : MethodName := ⟨RX7, "personIs", "(II)I"⟩
abbrev cX7_become : ByteArray := prog_1_method_4_code
def yX7_become : MethodName := ⟨RX7, "become", "(II)I"⟩
abbrev cX7_as : ByteArray := prog_1_method_5_code
def yX7_as : MethodName := ⟨RX7, "as", "(II)I"⟩
abbrev cX7_answers : ByteArray := prog_1_method_6_code
def yX7_answers : MethodName := ⟨RX7, "answers", "(II)I"⟩
abbrev cX7_puts : ByteArray := prog_1_method_7_code
def yX7_puts : MethodName := ⟨RX7, "puts", "(II)I"⟩
abbrev cX7_drop : ByteArray := prog_1_method_8_code
def yX7_drop : MethodName := ⟨RX7, "drop", "(II)I"⟩
abbrev cX7_feed : ByteArray := prog_1_method_9_code
def yX7_feed : MethodName := ⟨RX7, "feed", "(JI)I"⟩
abbrev cX7_text : ByteArray := prog_1_method_10_code
def yX7_text : MethodName := ⟨RX7, "text", "(I)I"⟩
abbrev cX7_untell : ByteArray := prog_1_method_11_code
def yX7_untell : MethodName := ⟨RX7, "untell", "(I)I"⟩
abbrev cX7_law : ByteArray := prog_1_method_12_code
def yX7_law : MethodName := ⟨RX7, "law", "(IIII)I"⟩
abbrev cX7_hours : ByteArray := prog_1_method_13_code
def yX7_hours : MethodName := ⟨RX7, "hours", "(I)I"⟩
abbrev cX7_loose : ByteArray := prog_1_method_14_code
def yX7_loose : MethodName := ⟨RX7, "loose", "(I)I"⟩
abbrev cX7_hour : ByteArray := prog_1_method_15_code
def yX7_hour : MethodName := ⟨RX7, "hour", "(I)I"⟩
abbrev cX7_seed : ByteArray := prog_1_method_16_code
def yX7_seed : MethodName := ⟨RX7, "seed", "(I)I"⟩
abbrev cX7_then : ByteArray := prog_1_method_17_code
def yX7_then : MethodName := ⟨RX7, "then", "(III)I"⟩
abbrev cX7_soonest : ByteArray := prog_1_method_18_code
def yX7_soonest : MethodName := ⟨RX7, "soonest", "(II)I"⟩
abbrev cX7_least : ByteArray := prog_1_method_19_code
def yX7_least : MethodName := ⟨RX7, "least", "(III)I"⟩
abbrev cX7_fills : ByteArray := prog_1_method_20_code
def yX7_fills : MethodName := ⟨RX7, "fills", "(IIII)I"⟩
abbrev cX7_withWhom : ByteArray := prog_1_method_21_code
def yX7_withWhom : MethodName := ⟨RX7, "withWhom", "(II)I"⟩
abbrev cX7_odds : ByteArray := prog_1_method_22_code
def yX7_odds : MethodName := ⟨RX7, "odds", "(IIII)I"⟩
abbrev cX7_fits : ByteArray := prog_1_method_23_code
def yX7_fits : MethodName := ⟨RX7, "fits", "(III)I"⟩
abbrev cX7_voice : ByteArray := prog_1_method_24_code
def yX7_voice : MethodName := ⟨RX7, "voice", "(III)I"⟩
abbrev cX7_body : ByteArray := prog_1_method_25_code
def yX7_body : MethodName := ⟨RX7, "body", "(I)I"⟩
abbrev cX7_sheet : ByteArray := prog_1_method_26_code
def yX7_sheet : MethodName := ⟨RX7, "sheet", "(III)I"⟩
abbrev cX7_put : ByteArray := prog_1_method_27_code
def yX7_put : MethodName := ⟨RX7, "put", "(III)I"⟩
abbrev cX7_move : ByteArray := prog_1_method_28_code
def yX7_move : MethodName := ⟨RX7, "move", "(IIIII)I"⟩
abbrev cX7_sures : ByteArray := prog_1_method_29_code
def yX7_sures : MethodName := ⟨RX7, "sures", "(I)I"⟩
abbrev cX7_judge : ByteArray := prog_1_method_30_code
def yX7_judge : MethodName := ⟨RX7, "judge", "(I)I"⟩
abbrev cX7_image : ByteArray := prog_1_method_31_code
def yX7_image : MethodName := ⟨RX7, "image", "()I"⟩
abbrev cX7_restore : ByteArray := prog_1_method_32_code
def yX7_restore : MethodName := ⟨RX7, "restore", "()I"⟩
abbrev cX7_tell : ByteArray := prog_1_method_33_code
def yX7_tell : MethodName := ⟨RX7, "tell", "(I)I"⟩
abbrev cX7_check : ByteArray := prog_1_method_34_code
def yX7_check : MethodName := ⟨RX7, "check", "()I"⟩
abbrev cX7_count : ByteArray := prog_1_method_35_code
def yX7_count : MethodName := ⟨RX7, "count", "(I)I"⟩
abbrev cX7_told : ByteArray := prog_1_method_36_code
def yX7_told : MethodName := ⟨RX7, "told", "(I)I"⟩
abbrev cX7_refuse : ByteArray := prog_1_method_37_code
def yX7_refuse : MethodName := ⟨RX7, "refuse", "(I)I"⟩
abbrev cX7_isPerson : ByteArray := prog_1_method_38_code
def yX7_isPerson : MethodName := ⟨RX7, "isPerson", "(I)Z"⟩
abbrev cX7_isWithin : ByteArray := prog_1_method_39_code
def yX7_isWithin : MethodName := ⟨RX7, "isWithin", "(III)Z"⟩
abbrev cX7_isKindAndNumber : ByteArray := prog_1_method_40_code
def yX7_isKindAndNumber : MethodName := ⟨RX7, "isKindAndNumber", "(I)Z"⟩
abbrev cX7_isSure : ByteArray := prog_1_method_41_code
def yX7_isSure : MethodName := ⟨RX7, "isSure", "(I)Z"⟩
abbrev cX7_isCell : ByteArray := prog_1_method_42_code
def yX7_isCell : MethodName := ⟨RX7, "isCell", "(I)Z"⟩
abbrev cX7_isNear : ByteArray := prog_1_method_43_code
def yX7_isNear : MethodName := ⟨RX7, "isNear", "(I)Z"⟩
abbrev cX7_isUse : ByteArray := prog_1_method_44_code
def yX7_isUse : MethodName := ⟨RX7, "isUse", "(I)Z"⟩
abbrev cX7_isSheet : ByteArray := prog_1_method_45_code
def yX7_isSheet : MethodName := ⟨RX7, "isSheet", "(I)Z"⟩
abbrev cX7_isKindOrUnder : ByteArray := prog_1_method_46_code
def yX7_isKindOrUnder : MethodName := ⟨RX7, "isKindOrUnder", "(II)Z"⟩
abbrev cX7_commonDivisor : ByteArray := prog_1_method_47_code
def yX7_commonDivisor : MethodName := ⟨RX7, "commonDivisor", "(II)I"⟩
def RX8 : String := "AnswerPassModel"
def TX8 : u_T := fun k => match k with
  | 0 => ("AnswerPassModel", "s", "[I", true)
  | 1 => ("AnswerPassModel", "kept", "[I", true)
  | 2 => ("AnswerPassModel", "laid", "[I", true)
  | 3 => ("AnswerPassModel", "images", "I", false)
  | 4 => ("AnswerPassModel", "errors", "[I", true)
  | 5 => ("AnswerPassModel", "at", "I", false)
  | 6 => ("AnswerPassModel", "open", "I", false)
  | 7 => ("AnswerPassModel", "steps", "I", false)
  | 8 => ("AnswerPassModel", "use", "I", false)
  | 9 => ("AnswerPassModel", "step", "[I", true)
  | 10 => ("AnswerPassModel", "named", "[I", true)
  | 11 => ("AnswerPassModel", "pile", "[I", true)
  | 12 => ("AnswerPassModel", "traced", "I", false)
  | 13 => ("AnswerPassModel", "trace", "[I", true)
  | 14 => ("AnswerPassModel", "speaks", "I", false)
  | 15 => ("AnswerPassModel", "isParted", "Z", false)
  | 16 => ("AnswerPassModel", "bits", "[I", true)
  | 17 => ("AnswerPassModel", "sizes", "[I", true)
  | 18 => ("AnswerPassModel", "number", "[I", true)
  | _ => ("AnswerPassModel", "aside", "[I", true)
def tyX8 : Nat → FieldType := fun k => match k with
  | 0 => .array .int
  | 1 => .array .int
  | 2 => .array .int
  | 3 => .int
  | 4 => .array .int
  | 5 => .int
  | 6 => .int
  | 7 => .int
  | 8 => .int
  | 9 => .array .int
  | 10 => .array .int
  | 11 => .array .int
  | 12 => .int
  | 13 => .array .int
  | 14 => .int
  | 15 => .boolean
  | 16 => .array .int
  | 17 => .array .int
  | 18 => .array .int
  | _ => .array .int
abbrev wsX80 : List Cond := u_ws RX8 TX8 20
theorem nmX8 : ∀ a, a < 20 → ∀ b, b < 20 → a ≠ b → (TX8 a).2.1 ≠ (TX8 b).2.1 := by decide +kernel
theorem tyX8_ok : ∀ k, k < 20 → parseFieldDescriptor (TX8 k).2.2.1 = some (tyX8 k) := by decide +kernel
abbrev cX8_init : ByteArray := prog_10_method_1_code
def yX8_init : MethodName := ⟨RX8, "<init>", "()V"⟩
abbrev cX8_error : ByteArray := prog_10_method_2_code
def yX8_error : MethodName := ⟨RX8, "error", "(I)I"⟩
abbrev cX8_in : ByteArray := prog_10_method_3_code
def yX8_in : MethodName := ⟨RX8, "in", "(III)Z"⟩
abbrev cX8_held : ByteArray := prog_10_method_4_code
def yX8_held : MethodName := ⟨RX8, "held", "(III)I"⟩
abbrev cX8_copyAll : ByteArray := prog_10_method_5_code
def yX8_copyAll : MethodName := ⟨RX8, "copyAll", "([I[I)V"⟩
abbrev cX8_layDown : ByteArray := prog_10_method_6_code
def yX8_layDown : MethodName := ⟨RX8, "layDown", "()V"⟩
abbrev cX8_layBack : ByteArray := prog_10_method_7_code
def yX8_layBack : MethodName := ⟨RX8, "layBack", "()V"⟩
abbrev cX8_isPerson : ByteArray := prog_10_method_8_code
def yX8_isPerson : MethodName := ⟨RX8, "isPerson", "(I)Z"⟩
abbrev cX8_isCell : ByteArray := prog_10_method_9_code
def yX8_isCell : MethodName := ⟨RX8, "isCell", "(I)Z"⟩
abbrev cX8_its : ByteArray := prog_10_method_10_code
def yX8_its : MethodName := ⟨RX8, "its", "(II)I"⟩
abbrev cX8_lays1 : ByteArray := prog_10_method_11_code
def yX8_lays1 : MethodName := ⟨RX8, "lays1", "(III)V"⟩
abbrev cX8_change1 : ByteArray := prog_10_method_12_code
def yX8_change1 : MethodName := ⟨RX8, "change1", "(II)I"⟩
abbrev cX8_isDrop : ByteArray := prog_10_method_13_code
def yX8_isDrop : MethodName := ⟨RX8, "isDrop", "(I)Z"⟩
abbrev cX8_feed : ByteArray := prog_10_method_14_code
def yX8_feed : MethodName := ⟨RX8, "feed", "(JI)I"⟩
abbrev cX8_look : ByteArray := prog_10_method_15_code
def yX8_look : MethodName := ⟨RX8, "look", "()I"⟩
abbrev cX8_isName : ByteArray := prog_10_method_16_code
def yX8_isName : MethodName := ⟨RX8, "isName", "(I)Z"⟩
abbrev cX8_step1 : ByteArray := prog_10_method_17_code
def yX8_step1 : MethodName := ⟨RX8, "step1", "(II)V"⟩
abbrev cX8_whole : ByteArray := prog_10_method_18_code
def yX8_whole : MethodName := ⟨RX8, "whole", "()Z"⟩
abbrev cX8_both : ByteArray := prog_10_method_19_code
def yX8_both : MethodName := ⟨RX8, "both", "()Z"⟩
abbrev cX8_compared : ByteArray := prog_10_method_20_code
def yX8_compared : MethodName := ⟨RX8, "compared", "()Z"⟩
abbrev cX8_sum : ByteArray := prog_10_method_21_code
def yX8_sum : MethodName := ⟨RX8, "sum", "()Z"⟩
abbrev cX8_product : ByteArray := prog_10_method_22_code
def yX8_product : MethodName := ⟨RX8, "product", "()Z"⟩
abbrev cX8_opens : ByteArray := prog_10_method_23_code
def yX8_opens : MethodName := ⟨RX8, "opens", "()Z"⟩
abbrev cX8_one : ByteArray := prog_10_method_24_code
def yX8_one : MethodName := ⟨RX8, "one", "()Z"⟩
abbrev cX8_hasText : ByteArray := prog_10_method_25_code
def yX8_hasText : MethodName := ⟨RX8, "hasText", "(I)Z"⟩
abbrev cX8_text : ByteArray := prog_10_method_26_code
def yX8_text : MethodName := ⟨RX8, "text", "(I)I"⟩
abbrev cX8_untell : ByteArray := prog_10_method_27_code
def yX8_untell : MethodName := ⟨RX8, "untell", "(I)I"⟩
abbrev cX8_joined : ByteArray := prog_10_method_28_code
def yX8_joined : MethodName := ⟨RX8, "joined", "(III)I"⟩
abbrev cX8_worked : ByteArray := prog_10_method_29_code
def yX8_worked : MethodName := ⟨RX8, "worked", "(I)I"⟩
abbrev cX8_together : ByteArray := prog_10_method_30_code
def yX8_together : MethodName := ⟨RX8, "together", "(I)I"⟩
abbrev cX8_seesOf : ByteArray := prog_10_method_31_code
def yX8_seesOf : MethodName := ⟨RX8, "seesOf", "(I)I"⟩
abbrev cX8_doesFall : ByteArray := prog_10_method_32_code
def yX8_doesFall : MethodName := ⟨RX8, "doesFall", "(I)Z"⟩
abbrev cX8_clearTold : ByteArray := prog_10_method_33_code
def yX8_clearTold : MethodName := ⟨RX8, "clearTold", "(III)I"⟩
abbrev cX8_paceTold : ByteArray := prog_10_method_34_code
def yX8_paceTold : MethodName := ⟨RX8, "paceTold", "(III)I"⟩
abbrev cX8_clearOf : ByteArray := prog_10_method_35_code
def yX8_clearOf : MethodName := ⟨RX8, "clearOf", "(I)I"⟩
abbrev cX8_paceOf : ByteArray := prog_10_method_36_code
def yX8_paceOf : MethodName := ⟨RX8, "paceOf", "(I)I"⟩
abbrev cX8_walks1 : ByteArray := prog_10_method_37_code
def yX8_walks1 : MethodName := ⟨RX8, "walks1", "(I)V"⟩
abbrev cX8_anHour : ByteArray := prog_10_method_38_code
def yX8_anHour : MethodName := ⟨RX8, "anHour", "()V"⟩
abbrev cX8_goes : ByteArray := prog_10_method_39_code
def yX8_goes : MethodName := ⟨RX8, "goes", "(I)V"⟩
abbrev cX8_through : ByteArray := prog_10_method_40_code
def yX8_through : MethodName := ⟨RX8, "through", "()I"⟩
abbrev cX8_draw : ByteArray := prog_10_method_41_code
def yX8_draw : MethodName := ⟨RX8, "draw", "()I"⟩
abbrev cX8_isKind : ByteArray := prog_10_method_42_code
def yX8_isKind : MethodName := ⟨RX8, "isKind", "(I)Z"⟩
abbrev cX8_person : ByteArray := prog_10_method_43_code
def yX8_person : MethodName := ⟨RX8, "person", "(II)I"⟩
abbrev cX8_personIs : ByteArray := prog_10_method_44_code
def yX8_personIs : MethodName := ⟨RX8, "personIs", "(II)I"⟩
abbrev cX8_become : ByteArray := prog_10_method_45_code
def yX8_become : MethodName := ⟨RX8, "become", "(II)I"⟩
abbrev cX8_as : ByteArray := prog_10_method_46_code
def yX8_as : MethodName := ⟨RX8, "as", "(II)I"⟩
abbrev cX8_answers : ByteArray := prog_10_method_47_code
def yX8_answers : MethodName := ⟨RX8, "answers", "(II)I"⟩
abbrev cX8_puts : ByteArray := prog_10_method_48_code
def yX8_puts : MethodName := ⟨RX8, "puts", "(II)I"⟩
abbrev cX8_drop : ByteArray := prog_10_method_49_code
def yX8_drop : MethodName := ⟨RX8, "drop", "(II)I"⟩
abbrev cX8_law : ByteArray := prog_10_method_50_code
def yX8_law : MethodName := ⟨RX8, "law", "(IIII)I"⟩
abbrev cX8_whyNot : ByteArray := prog_10_method_51_code
def yX8_whyNot : MethodName := ⟨RX8, "whyNot", "(II)I"⟩
abbrev cX8_hours : ByteArray := prog_10_method_52_code
def yX8_hours : MethodName := ⟨RX8, "hours", "(I)I"⟩
abbrev cX8_chances : ByteArray := prog_10_method_53_code
def yX8_chances : MethodName := ⟨RX8, "chances", "()V"⟩
abbrev cX8_loose : ByteArray := prog_10_method_54_code
def yX8_loose : MethodName := ⟨RX8, "loose", "(I)I"⟩
abbrev cX8_hour : ByteArray := prog_10_method_55_code
def yX8_hour : MethodName := ⟨RX8, "hour", "(I)I"⟩
abbrev cX8_seed : ByteArray := prog_10_method_56_code
def yX8_seed : MethodName := ⟨RX8, "seed", "(I)I"⟩
abbrev cX8_then : ByteArray := prog_10_method_57_code
def yX8_then : MethodName := ⟨RX8, "then", "(III)I"⟩
abbrev cX8_comesBy : ByteArray := prog_10_method_58_code
def yX8_comesBy : MethodName := ⟨RX8, "comesBy", "(III)I"⟩
abbrev cX8_soonest : ByteArray := prog_10_method_59_code
def yX8_soonest : MethodName := ⟨RX8, "soonest", "(II)I"⟩
abbrev cX8_isSoon : ByteArray := prog_10_method_60_code
def yX8_isSoon : MethodName := ⟨RX8, "isSoon", "(I)Z"⟩
abbrev cX8_comesWith : ByteArray := prog_10_method_61_code
def yX8_comesWith : MethodName := ⟨RX8, "comesWith", "(IIII)Z"⟩
abbrev cX8_least : ByteArray := prog_10_method_62_code
def yX8_least : MethodName := ⟨RX8, "least", "(III)I"⟩
abbrev cX8_manyIn : ByteArray := prog_10_method_63_code
def yX8_manyIn : MethodName := ⟨RX8, "manyIn", "(I)I"⟩
abbrev cX8_comesWithout : ByteArray := prog_10_method_64_code
def yX8_comesWithout : MethodName := ⟨RX8, "comesWithout", "(IIII)Z"⟩
abbrev cX8_fills : ByteArray := prog_10_method_65_code
def yX8_fills : MethodName := ⟨RX8, "fills", "(IIII)I"⟩
abbrev cX8_farWith : ByteArray := prog_10_method_66_code
def yX8_farWith : MethodName := ⟨RX8, "farWith", "(III)I"⟩
abbrev cX8_withWhom : ByteArray := prog_10_method_67_code
def yX8_withWhom : MethodName := ⟨RX8, "withWhom", "(II)I"⟩
abbrev cX8_divisor : ByteArray := prog_10_method_68_code
def yX8_divisor : MethodName := ⟨RX8, "divisor", "(II)I"⟩
abbrev cX8_odds : ByteArray := prog_10_method_69_code
def yX8_odds : MethodName := ⟨RX8, "odds", "(IIII)I"⟩
abbrev cX8_clearsSo : ByteArray := prog_10_method_70_code
def yX8_clearsSo : MethodName := ⟨RX8, "clearsSo", "(III)Z"⟩
abbrev cX8_fits : ByteArray := prog_10_method_71_code
def yX8_fits : MethodName := ⟨RX8, "fits", "(III)I"⟩
abbrev cX8_starts : ByteArray := prog_10_method_72_code
def yX8_starts : MethodName := ⟨RX8, "starts", "(I)V"⟩
abbrev cX8_above : ByteArray := prog_10_method_73_code
def yX8_above : MethodName := ⟨RX8, "above", "(I)I"⟩
abbrev cX8_kindNow : ByteArray := prog_10_method_74_code
def yX8_kindNow : MethodName := ⟨RX8, "kindNow", "()I"⟩
abbrev cX8_mNow : ByteArray := prog_10_method_75_code
def yX8_mNow : MethodName := ⟨RX8, "mNow", "()I"⟩
abbrev cX8_saysAs : ByteArray := prog_10_method_76_code
def yX8_saysAs : MethodName := ⟨RX8, "saysAs", "(II)I"⟩
abbrev cX8_seesAs : ByteArray := prog_10_method_77_code
def yX8_seesAs : MethodName := ⟨RX8, "seesAs", "(II)I"⟩
abbrev cX8_walksAs : ByteArray := prog_10_method_78_code
def yX8_walksAs : MethodName := ⟨RX8, "walksAs", "(II)I"⟩
abbrev cX8_partsAs : ByteArray := prog_10_method_79_code
def yX8_partsAs : MethodName := ⟨RX8, "partsAs", "(II)I"⟩
abbrev cX8_voice : ByteArray := prog_10_method_80_code
def yX8_voice : MethodName := ⟨RX8, "voice", "(III)I"⟩
abbrev cX8_body : ByteArray := prog_10_method_81_code
def yX8_body : MethodName := ⟨RX8, "body", "(I)I"⟩
abbrev cX8_isSheet : ByteArray := prog_10_method_82_code
def yX8_isSheet : MethodName := ⟨RX8, "isSheet", "(I)Z"⟩
abbrev cX8_sheet : ByteArray := prog_10_method_83_code
def yX8_sheet : MethodName := ⟨RX8, "sheet", "(III)I"⟩
abbrev cX8_put : ByteArray := prog_10_method_84_code
def yX8_put : MethodName := ⟨RX8, "put", "(III)I"⟩
abbrev cX8_move : ByteArray := prog_10_method_85_code
def yX8_move : MethodName := ⟨RX8, "move", "(IIIII)I"⟩
abbrev cX8_lacks : ByteArray := prog_10_method_86_code
def yX8_lacks : MethodName := ⟨RX8, "lacks", "(I)I"⟩
abbrev cX8_sures : ByteArray := prog_10_method_87_code
def yX8_sures : MethodName := ⟨RX8, "sures", "(I)I"⟩
abbrev cX8_judge : ByteArray := prog_10_method_88_code
def yX8_judge : MethodName := ⟨RX8, "judge", "(I)I"⟩
abbrev cX8_image : ByteArray := prog_10_method_89_code
def yX8_image : MethodName := ⟨RX8, "image", "()I"⟩
abbrev cX8_restore : ByteArray := prog_10_method_90_code
def yX8_restore : MethodName := ⟨RX8, "restore", "()I"⟩
abbrev cX8_tell : ByteArray := prog_10_method_91_code
def yX8_tell : MethodName := ⟨RX8, "tell", "(I)I"⟩
abbrev cX8_check : ByteArray := prog_10_method_92_code
def yX8_check : MethodName := ⟨RX8, "check", "()I"⟩
abbrev cX8_count : ByteArray := prog_10_method_93_code
def yX8_count : MethodName := ⟨RX8, "count", "(I)I"⟩
abbrev cX8_told : ByteArray := prog_10_method_94_code
def yX8_told : MethodName := ⟨RX8, "told", "(I)I"⟩
def RJ11 : String := "java/lang/Character"
def TJ11 : u_T := fun k => match k with
  | _ => ("", "", "", false)
def tyJ11 : Nat → FieldType := fun k => match k with
  | _ => .int
abbrev wsJ110 : List Cond := u_ws RJ11 TJ11 0
theorem nmJ11 : ∀ a, a < 0 → ∀ b, b < 0 → a ≠ b → (TJ11 a).2.1 ≠ (TJ11 b).2.1 := by decide +kernel
theorem tyJ11_ok : ∀ k, k < 0 → parseFieldDescriptor (TJ11 k).2.2.1 = some (tyJ11 k) := by decide +kernel
abbrev cJ11_isValidCodePoint_9a6ad : ByteArray := prog_11_method_11_code
def yJ11_isValidCodePoint_9a6ad : MethodName := ⟨RJ11, "isValidCodePoint", "(I)Z"⟩
abbrev cJ11_highSurrogate_5068e : ByteArray := prog_11_method_28_code
def yJ11_highSurrogate_5068e : MethodName := ⟨RJ11, "highSurrogate", "(I)C"⟩
abbrev cJ11_lowSurrogate_5068e : ByteArray := prog_11_method_29_code
def yJ11_lowSurrogate_5068e : MethodName := ⟨RJ11, "lowSurrogate", "(I)C"⟩
def RJ6 : String := "java/lang/Integer"
def TJ6 : u_T := fun k => match k with
  | _ => ("", "", "", false)
def tyJ6 : Nat → FieldType := fun k => match k with
  | _ => .int
abbrev wsJ60 : List Cond := u_ws RJ6 TJ6 0
theorem nmJ6 : ∀ a, a < 0 → ∀ b, b < 0 → a ≠ b → (TJ6 a).2.1 ≠ (TJ6 b).2.1 := by decide +kernel
theorem tyJ6_ok : ∀ k, k < 0 → parseFieldDescriptor (TJ6 k).2.2.1 = some (tyJ6 k) := by decide +kernel
abbrev cJ6_bitCount_0f7a4 : ByteArray := prog_12_method_49_code
def yJ6_bitCount_0f7a4 : MethodName := ⟨RJ6, "bitCount", "(I)I"⟩
def RJ9 : String := "java/lang/Math"
def TJ9 : u_T := fun k => match k with
  | _ => ("", "", "", false)
def tyJ9 : Nat → FieldType := fun k => match k with
  | _ => .int
abbrev wsJ90 : List Cond := u_ws RJ9 TJ9 0
theorem nmJ9 : ∀ a, a < 0 → ∀ b, b < 0 → a ≠ b → (TJ9 a).2.1 ≠ (TJ9 b).2.1 := by decide +kernel
theorem tyJ9_ok : ∀ k, k < 0 → parseFieldDescriptor (TJ9 k).2.2.1 = some (tyJ9 k) := by decide +kernel
abbrev cJ9_max_7cf53 : ByteArray := prog_13_method_65_code
def yJ9_max_7cf53 : MethodName := ⟨RJ9, "max", "(II)I"⟩
abbrev cJ9_min_7cf53 : ByteArray := prog_13_method_69_code
def yJ9_min_7cf53 : MethodName := ⟨RJ9, "min", "(II)I"⟩
def RJ0 : String := "java/lang/String"
def TJ0 : u_T := fun k => match k with
  | _ => ("", "", "", false)
def tyJ0 : Nat → FieldType := fun k => match k with
  | _ => .int
abbrev wsJ00 : List Cond := u_ws RJ0 TJ0 0
theorem nmJ0 : ∀ a, a < 0 → ∀ b, b < 0 → a ≠ b → (TJ0 a).2.1 ≠ (TJ0 b).2.1 := by decide +kernel
theorem tyJ0_ok : ∀ k, k < 0 → parseFieldDescriptor (TJ0 k).2.2.1 = some (tyJ0 k) := by decide +kernel
abbrev cJ0_length_8abf5 : ByteArray := prog_14_method_54_code
def yJ0_length_8abf5 : MethodName := ⟨RJ0, "length", "()I"⟩
abbrev cJ0_indexOf_0f7a4 : ByteArray := prog_14_method_79_code
def yJ0_indexOf_0f7a4 : MethodName := ⟨RJ0, "indexOf", "(I)I"⟩
abbrev cJ0_indexOf_7cf53 : ByteArray := prog_14_method_80_code
def yJ0_indexOf_7cf53 : MethodName := ⟨RJ0, "indexOf", "(II)I"⟩
abbrev cJ0_coder_7d493 : ByteArray := prog_14_method_152_code
def yJ0_coder_7d493 : MethodName := ⟨RJ0, "coder", "()B"⟩
abbrev cJ0_isLatin1_aae02 : ByteArray := prog_14_method_154_code
def yJ0_isLatin1_aae02 : MethodName := ⟨RJ0, "isLatin1", "()Z"⟩
abbrev cJ0_checkBoundsBeginEnd_23922 : ByteArray := prog_14_method_158_code
def yJ0_checkBoundsBeginEnd_23922 : MethodName := ⟨RJ0, "checkBoundsBeginEnd", "(III)V"⟩
def RJ1 : String := "java/lang/StringLatin1"
def TJ1 : u_T := fun k => match k with
  | _ => ("", "", "", false)
def tyJ1 : Nat → FieldType := fun k => match k with
  | _ => .int
abbrev wsJ10 : List Cond := u_ws RJ1 TJ1 0
theorem nmJ1 : ∀ a, a < 0 → ∀ b, b < 0 → a ≠ b → (TJ1 a).2.1 ≠ (TJ1 b).2.1 := by decide +kernel
theorem tyJ1_ok : ∀ k, k < 0 → parseFieldDescriptor (TJ1 k).2.2.1 = some (tyJ1 k) := by decide +kernel
abbrev cJ1_canEncode_9a6ad : ByteArray := prog_15_method_4_code
def yJ1_canEncode_9a6ad : MethodName := ⟨RJ1, "canEncode", "(I)Z"⟩
abbrev cJ1_indexOf_4cfef : ByteArray := prog_15_method_22_code
def yJ1_indexOf_4cfef : MethodName := ⟨RJ1, "indexOf", "([BIII)I"⟩
abbrev cJ1_indexOfChar_4cfef : ByteArray := prog_15_method_23_code
def yJ1_indexOfChar_4cfef : MethodName := ⟨RJ1, "indexOfChar", "([BIII)I"⟩
def RJ2 : String := "java/lang/StringUTF16"
def TJ2 : u_T := fun k => match k with
  | _ => ("", "", "", false)
def tyJ2 : Nat → FieldType := fun k => match k with
  | _ => .int
abbrev wsJ20 : List Cond := u_ws RJ2 TJ2 0
theorem nmJ2 : ∀ a, a < 0 → ∀ b, b < 0 → a ≠ b → (TJ2 a).2.1 ≠ (TJ2 b).2.1 := by decide +kernel
theorem tyJ2_ok : ∀ k, k < 0 → parseFieldDescriptor (TJ2 k).2.2.1 = some (tyJ2 k) := by decide +kernel
abbrev cJ2_getChar_3b067 : ByteArray := prog_16_method_5_code
def yJ2_getChar_3b067 : MethodName := ⟨RJ2, "getChar", "([BI)C"⟩
abbrev cJ2_length_9d52b : ByteArray := prog_16_method_6_code
def yJ2_length_9d52b : MethodName := ⟨RJ2, "length", "([B)I"⟩
abbrev cJ2_indexOf_4cfef : ByteArray := prog_16_method_40_code
def yJ2_indexOf_4cfef : MethodName := ⟨RJ2, "indexOf", "([BIII)I"⟩
abbrev cJ2_indexOfChar_4cfef : ByteArray := prog_16_method_47_code
def yJ2_indexOfChar_4cfef : MethodName := ⟨RJ2, "indexOfChar", "([BIII)I"⟩
abbrev cJ2_indexOfCharUnsafe_4cfef : ByteArray := prog_16_method_48_code
def yJ2_indexOfCharUnsafe_4cfef : MethodName := ⟨RJ2, "indexOfCharUnsafe", "([BIII)I"⟩
abbrev cJ2_indexOfSupplementary_4cfef : ByteArray := prog_16_method_49_code
def yJ2_indexOfSupplementary_4cfef : MethodName := ⟨RJ2, "indexOfSupplementary", "([BIII)I"⟩
abbrev cJ2_checkBoundsBeginEnd_d044e : ByteArray := prog_16_method_93_code
def yJ2_checkBoundsBeginEnd_d044e : MethodName := ⟨RJ2, "checkBoundsBeginEnd", "(II[B)V"⟩
def RJ10 : String := "java/lang/System"
def TJ10 : u_T := fun k => match k with
  | _ => ("", "", "", false)
def tyJ10 : Nat → FieldType := fun k => match k with
  | _ => .int
abbrev wsJ100 : List Cond := u_ws RJ10 TJ10 0
theorem nmJ10 : ∀ a, a < 0 → ∀ b, b < 0 → a ≠ b → (TJ10 a).2.1 ≠ (TJ10 b).2.1 := by decide +kernel
theorem tyJ10_ok : ∀ k, k < 0 → parseFieldDescriptor (TJ10 k).2.2.1 = some (tyJ10 k) := by decide +kernel
def RJ3 : String := "jdk/internal/util/Preconditions"
def TJ3 : u_T := fun k => match k with
  | _ => ("", "", "", false)
def tyJ3 : Nat → FieldType := fun k => match k with
  | _ => .int
abbrev wsJ30 : List Cond := u_ws RJ3 TJ3 0
theorem nmJ3 : ∀ a, a < 0 → ∀ b, b < 0 → a ≠ b → (TJ3 a).2.1 ≠ (TJ3 b).2.1 := by decide +kernel
theorem tyJ3_ok : ∀ k, k < 0 → parseFieldDescriptor (TJ3 k).2.2.1 = some (tyJ3 k) := by decide +kernel
abbrev cJ3_checkFromToIndex_8c36e : ByteArray := prog_18_method_12_code
def yJ3_checkFromToIndex_8c36e : MethodName := ⟨RJ3, "checkFromToIndex", "(IIILjava/util/function/BiFunction;)I"⟩
def RL : String := "AnswerPassLaw"
abbrev cL_law : ByteArray := code
def yL_law : MethodName := ⟨RL, "law", "([I)Z"⟩
theorem dX0_init_0 : decode cX0_init 0 = .ok (.aload_n 0, 1) := by decide +kernel
theorem dX0_init_1 : decode cX0_init 1 = .ok (.invokespecial 3, 3) := by decide +kernel
theorem dX0_init_4 : decode cX0_init 4 = .ok (.aload_n 0, 1) := by decide +kernel
theorem dX0_init_5 : decode cX0_init 5 = .ok (.bipush 60, 2) := by decide +kernel
theorem dX0_init_7 : decode cX0_init 7 = .ok (.newarray .int, 2) := by decide +kernel
theorem dX0_init_9 : decode cX0_init 9 = .ok (.putfield 9, 3) := by decide +kernel
theorem dX0_init_12 : decode cX0_init 12 = .ok (.aload_n 0, 1) := by decide +kernel
theorem dX0_init_13 : decode cX0_init 13 = .ok (.bipush 60, 2) := by decide +kernel
theorem dX0_init_15 : decode cX0_init 15 = .ok (.newarray .int, 2) := by decide +kernel
theorem dX0_init_17 : decode cX0_init 17 = .ok (.putfield 15, 3) := by decide +kernel
theorem dX0_init_20 : decode cX0_init 20 = .ok (.aload_n 0, 1) := by decide +kernel
theorem dX0_init_21 : decode cX0_init 21 = .ok (.iconst 0, 1) := by decide +kernel
theorem dX0_init_22 : decode cX0_init 22 = .ok (.putfield 18, 3) := by decide +kernel
theorem dX0_init_25 : decode cX0_init 25 = .ok (.aload_n 0, 1) := by decide +kernel
theorem dX0_init_26 : decode cX0_init 26 = .ok (.iload_n 1, 1) := by decide +kernel
theorem dX0_init_27 : decode cX0_init 27 = .ok (.putfield 22, 3) := by decide +kernel
theorem dX0_init_30 : decode cX0_init 30 = .ok (.return_, 1) := by decide +kernel
theorem dX0_copies_0 : decode cX0_copies 0 = .ok (.aload_n 0, 1) := by decide +kernel
theorem dX0_copies_1 : decode cX0_copies 1 = .ok (.aload_n 1, 1) := by decide +kernel
theorem dX0_copies_2 : decode cX0_copies 2 = .ok (.getfield 9, 3) := by decide +kernel
theorem dX0_copies_5 : decode cX0_copies 5 = .ok (.aload_n 1, 1) := by decide +kernel
theorem dX0_copies_6 : decode cX0_copies 6 = .ok (.getfield 18, 3) := by decide +kernel
theorem dX0_copies_9 : decode cX0_copies 9 = .ok (.invokevirtual 25, 3) := by decide +kernel
theorem dX0_copies_12 : decode cX0_copies 12 = .ok (.return_, 1) := by decide +kernel
theorem dX0_becomes_0 : decode cX0_becomes 0 = .ok (.aload_n 1, 1) := by decide +kernel
theorem dX0_becomes_1 : decode cX0_becomes 1 = .ok (.iconst 0, 1) := by decide +kernel
theorem dX0_becomes_2 : decode cX0_becomes 2 = .ok (.aload_n 0, 1) := by decide +kernel
theorem dX0_becomes_3 : decode cX0_becomes 3 = .ok (.getfield 9, 3) := by decide +kernel
theorem dX0_becomes_6 : decode cX0_becomes 6 = .ok (.iconst 0, 1) := by decide +kernel
theorem dX0_becomes_7 : decode cX0_becomes 7 = .ok (.iload_n 2, 1) := by decide +kernel
theorem dX0_becomes_8 : decode cX0_becomes 8 = .ok (.invokestatic 29, 3) := by decide +kernel
theorem dX0_becomes_11 : decode cX0_becomes 11 = .ok (.aload_n 0, 1) := by decide +kernel
theorem dX0_becomes_12 : decode cX0_becomes 12 = .ok (.iload_n 2, 1) := by decide +kernel
theorem dX0_becomes_13 : decode cX0_becomes 13 = .ok (.putfield 18, 3) := by decide +kernel
theorem dX0_becomes_16 : decode cX0_becomes 16 = .ok (.return_, 1) := by decide +kernel
theorem dX0_gives_0 : decode cX0_gives 0 = .ok (.iconst 0, 1) := by decide +kernel
theorem dX0_gives_1 : decode cX0_gives 1 = .ok (.istore 4, 2) := by decide +kernel
theorem dX0_gives_3 : decode cX0_gives 3 = .ok (.iconst 0, 1) := by decide +kernel
theorem dX0_gives_4 : decode cX0_gives 4 = .ok (.istore 5, 2) := by decide +kernel
theorem dX0_gives_6 : decode cX0_gives 6 = .ok (.iload 5, 2) := by decide +kernel
theorem dX0_gives_8 : decode cX0_gives 8 = .ok (.aload_n 0, 1) := by decide +kernel
theorem dX0_gives_9 : decode cX0_gives 9 = .ok (.getfield 18, 3) := by decide +kernel
theorem dX0_gives_12 : decode cX0_gives 12 = .ok (.if_icmp .ge 162, 3) := by decide +kernel
theorem dX0_gives_15 : decode cX0_gives 15 = .ok (.aload_n 0, 1) := by decide +kernel
theorem dX0_gives_16 : decode cX0_gives 16 = .ok (.getfield 9, 3) := by decide +kernel
theorem dX0_gives_19 : decode cX0_gives 19 = .ok (.iload 5, 2) := by decide +kernel
theorem dX0_gives_21 : decode cX0_gives 21 = .ok (.iaload, 1) := by decide +kernel
theorem dX0_gives_22 : decode cX0_gives 22 = .ok (.istore 6, 2) := by decide +kernel
theorem dX0_gives_24 : decode cX0_gives 24 = .ok (.iload 6, 2) := by decide +kernel
theorem dX0_gives_26 : decode cX0_gives 26 = .ok (.ifCond .lt 61, 3) := by decide +kernel
theorem dX0_gives_29 : decode cX0_gives 29 = .ok (.iload 4, 2) := by decide +kernel
theorem dX0_gives_31 : decode cX0_gives 31 = .ok (.bipush 60, 2) := by decide +kernel
theorem dX0_gives_33 : decode cX0_gives 33 = .ok (.if_icmp .ge 54, 3) := by decide +kernel
theorem dX0_gives_36 : decode cX0_gives 36 = .ok (.aload_n 0, 1) := by decide +kernel
theorem dX0_gives_37 : decode cX0_gives 37 = .ok (.getfield 15, 3) := by decide +kernel
theorem dX0_gives_40 : decode cX0_gives 40 = .ok (.iload 4, 2) := by decide +kernel
theorem dX0_gives_42 : decode cX0_gives 42 = .ok (.iload 6, 2) := by decide +kernel
theorem dX0_gives_44 : decode cX0_gives 44 = .ok (.sipush 10000, 3) := by decide +kernel
theorem dX0_gives_47 : decode cX0_gives 47 = .ok (.if_icmp .ge 8, 3) := by decide +kernel
theorem dX0_gives_50 : decode cX0_gives 50 = .ok (.iload 6, 2) := by decide +kernel
theorem dX0_gives_52 : decode cX0_gives 52 = .ok (.goto 28, 3) := by decide +kernel
theorem dX0_gives_55 : decode cX0_gives 55 = .ok (.iload 6, 2) := by decide +kernel
theorem dX0_gives_57 : decode cX0_gives 57 = .ok (.sipush 10000, 3) := by decide +kernel
theorem dX0_gives_60 : decode cX0_gives 60 = .ok (.if_icmp .ne 7, 3) := by decide +kernel
theorem dX0_gives_63 : decode cX0_gives 63 = .ok (.iload_n 1, 1) := by decide +kernel
theorem dX0_gives_64 : decode cX0_gives 64 = .ok (.goto 16, 3) := by decide +kernel
theorem dX0_gives_67 : decode cX0_gives 67 = .ok (.iload 6, 2) := by decide +kernel
theorem dX0_gives_69 : decode cX0_gives 69 = .ok (.sipush 10001, 3) := by decide +kernel
theorem dX0_gives_72 : decode cX0_gives 72 = .ok (.if_icmp .ne 7, 3) := by decide +kernel
theorem dX0_gives_75 : decode cX0_gives 75 = .ok (.iload_n 2, 1) := by decide +kernel
theorem dX0_gives_76 : decode cX0_gives 76 = .ok (.goto 4, 3) := by decide +kernel
theorem dX0_gives_79 : decode cX0_gives 79 = .ok (.iload_n 3, 1) := by decide +kernel
theorem dX0_gives_80 : decode cX0_gives 80 = .ok (.iastore, 1) := by decide +kernel
theorem dX0_gives_81 : decode cX0_gives 81 = .ok (.iinc 4 1, 3) := by decide +kernel
theorem dX0_gives_84 : decode cX0_gives 84 = .ok (.goto 84, 3) := by decide +kernel
theorem dX0_gives_87 : decode cX0_gives 87 = .ok (.iload 6, 2) := by decide +kernel
theorem dX0_gives_89 : decode cX0_gives 89 = .ok (.bipush (-33), 2) := by decide +kernel
theorem dX0_gives_91 : decode cX0_gives 91 = .ok (.if_icmp .ne 37, 3) := by decide +kernel
theorem dX0_gives_94 : decode cX0_gives 94 = .ok (.iload 4, 2) := by decide +kernel
theorem dX0_gives_96 : decode cX0_gives 96 = .ok (.ifCond .le 32, 3) := by decide +kernel
theorem dX0_gives_99 : decode cX0_gives 99 = .ok (.aload_n 0, 1) := by decide +kernel
theorem dX0_gives_100 : decode cX0_gives 100 = .ok (.getfield 15, 3) := by decide +kernel
theorem dX0_gives_103 : decode cX0_gives 103 = .ok (.iload 4, 2) := by decide +kernel
theorem dX0_gives_105 : decode cX0_gives 105 = .ok (.iconst 1, 1) := by decide +kernel
theorem dX0_gives_106 : decode cX0_gives 106 = .ok (.isub, 1) := by decide +kernel
theorem dX0_gives_107 : decode cX0_gives 107 = .ok (.aload_n 0, 1) := by decide +kernel
theorem dX0_gives_108 : decode cX0_gives 108 = .ok (.getfield 15, 3) := by decide +kernel
theorem dX0_gives_111 : decode cX0_gives 111 = .ok (.iload 4, 2) := by decide +kernel
theorem dX0_gives_113 : decode cX0_gives 113 = .ok (.iconst 1, 1) := by decide +kernel
theorem dX0_gives_114 : decode cX0_gives 114 = .ok (.isub, 1) := by decide +kernel
theorem dX0_gives_115 : decode cX0_gives 115 = .ok (.iaload, 1) := by decide +kernel
theorem dX0_gives_116 : decode cX0_gives 116 = .ok (.ifCond .ne 7, 3) := by decide +kernel
theorem dX0_gives_119 : decode cX0_gives 119 = .ok (.iconst 1, 1) := by decide +kernel
theorem dX0_gives_120 : decode cX0_gives 120 = .ok (.goto 4, 3) := by decide +kernel
theorem dX0_gives_123 : decode cX0_gives 123 = .ok (.iconst 0, 1) := by decide +kernel
theorem dX0_gives_124 : decode cX0_gives 124 = .ok (.iastore, 1) := by decide +kernel
theorem dX0_gives_125 : decode cX0_gives 125 = .ok (.goto 43, 3) := by decide +kernel
theorem dX0_gives_128 : decode cX0_gives 128 = .ok (.iload 4, 2) := by decide +kernel
theorem dX0_gives_130 : decode cX0_gives 130 = .ok (.iconst 1, 1) := by decide +kernel
theorem dX0_gives_131 : decode cX0_gives 131 = .ok (.if_icmp .le 37, 3) := by decide +kernel
theorem dX0_gives_134 : decode cX0_gives 134 = .ok (.iinc 4 (-1), 3) := by decide +kernel
theorem dX0_gives_137 : decode cX0_gives 137 = .ok (.aload_n 0, 1) := by decide +kernel
theorem dX0_gives_138 : decode cX0_gives 138 = .ok (.getfield 15, 3) := by decide +kernel
theorem dX0_gives_141 : decode cX0_gives 141 = .ok (.iload 4, 2) := by decide +kernel
theorem dX0_gives_143 : decode cX0_gives 143 = .ok (.iconst 1, 1) := by decide +kernel
theorem dX0_gives_144 : decode cX0_gives 144 = .ok (.isub, 1) := by decide +kernel
theorem dX0_gives_145 : decode cX0_gives 145 = .ok (.iload 6, 2) := by decide +kernel
theorem dX0_gives_147 : decode cX0_gives 147 = .ok (.ineg, 1) := by decide +kernel
theorem dX0_gives_148 : decode cX0_gives 148 = .ok (.aload_n 0, 1) := by decide +kernel
theorem dX0_gives_149 : decode cX0_gives 149 = .ok (.getfield 15, 3) := by decide +kernel
theorem dX0_gives_152 : decode cX0_gives 152 = .ok (.iload 4, 2) := by decide +kernel
theorem dX0_gives_154 : decode cX0_gives 154 = .ok (.iconst 1, 1) := by decide +kernel
theorem dX0_gives_155 : decode cX0_gives 155 = .ok (.isub, 1) := by decide +kernel
theorem dX0_gives_156 : decode cX0_gives 156 = .ok (.iaload, 1) := by decide +kernel
theorem dX0_gives_157 : decode cX0_gives 157 = .ok (.aload_n 0, 1) := by decide +kernel
theorem dX0_gives_158 : decode cX0_gives 158 = .ok (.getfield 15, 3) := by decide +kernel
theorem dX0_gives_161 : decode cX0_gives 161 = .ok (.iload 4, 2) := by decide +kernel
theorem dX0_gives_163 : decode cX0_gives 163 = .ok (.iaload, 1) := by decide +kernel
theorem dX0_gives_164 : decode cX0_gives 164 = .ok (.invokestatic 35, 3) := by decide +kernel
theorem dX0_gives_167 : decode cX0_gives 167 = .ok (.iastore, 1) := by decide +kernel
theorem dX0_gives_168 : decode cX0_gives 168 = .ok (.iinc 5 1, 3) := by decide +kernel
theorem dX0_gives_171 : decode cX0_gives 171 = .ok (.goto (-165), 3) := by decide +kernel
theorem dX0_gives_174 : decode cX0_gives 174 = .ok (.iload 4, 2) := by decide +kernel
theorem dX0_gives_176 : decode cX0_gives 176 = .ok (.ifCond .le 12, 3) := by decide +kernel
theorem dX0_gives_179 : decode cX0_gives 179 = .ok (.aload_n 0, 1) := by decide +kernel
theorem dX0_gives_180 : decode cX0_gives 180 = .ok (.getfield 15, 3) := by decide +kernel
theorem dX0_gives_183 : decode cX0_gives 183 = .ok (.iconst 0, 1) := by decide +kernel
theorem dX0_gives_184 : decode cX0_gives 184 = .ok (.iaload, 1) := by decide +kernel
theorem dX0_gives_185 : decode cX0_gives 185 = .ok (.goto 8, 3) := by decide +kernel
theorem dX0_gives_188 : decode cX0_gives 188 = .ok (.aload_n 0, 1) := by decide +kernel
theorem dX0_gives_189 : decode cX0_gives 189 = .ok (.iload_n 1, 1) := by decide +kernel
theorem dX0_gives_190 : decode cX0_gives 190 = .ok (.invokevirtual 39, 3) := by decide +kernel
theorem dX0_gives_193 : decode cX0_gives 193 = .ok (.istore 5, 2) := by decide +kernel
theorem dX0_gives_195 : decode cX0_gives 195 = .ok (.aload_n 0, 1) := by decide +kernel
theorem dX0_gives_196 : decode cX0_gives 196 = .ok (.getfield 22, 3) := by decide +kernel
theorem dX0_gives_199 : decode cX0_gives 199 = .ok (.ifCond .ne 8, 3) := by decide +kernel
theorem dX0_gives_202 : decode cX0_gives 202 = .ok (.bipush 20, 2) := by decide +kernel
theorem dX0_gives_204 : decode cX0_gives 204 = .ok (.goto 4, 3) := by decide +kernel
theorem dX0_gives_207 : decode cX0_gives 207 = .ok (.iconst 3, 1) := by decide +kernel
theorem dX0_gives_208 : decode cX0_gives 208 = .ok (.istore 6, 2) := by decide +kernel
theorem dX0_gives_210 : decode cX0_gives 210 = .ok (.iload 5, 2) := by decide +kernel
theorem dX0_gives_212 : decode cX0_gives 212 = .ok (.ifCond .ge 7, 3) := by decide +kernel
theorem dX0_gives_215 : decode cX0_gives 215 = .ok (.iconst 0, 1) := by decide +kernel
theorem dX0_gives_216 : decode cX0_gives 216 = .ok (.goto 17, 3) := by decide +kernel
theorem dX0_gives_219 : decode cX0_gives 219 = .ok (.iload 5, 2) := by decide +kernel
theorem dX0_gives_221 : decode cX0_gives 221 = .ok (.iload 6, 2) := by decide +kernel
theorem dX0_gives_223 : decode cX0_gives 223 = .ok (.if_icmp .le 8, 3) := by decide +kernel
theorem dX0_gives_226 : decode cX0_gives 226 = .ok (.iload 6, 2) := by decide +kernel
theorem dX0_gives_228 : decode cX0_gives 228 = .ok (.goto 5, 3) := by decide +kernel
theorem dX0_gives_231 : decode cX0_gives 231 = .ok (.iload 5, 2) := by decide +kernel
theorem dX0_gives_233 : decode cX0_gives 233 = .ok (.ireturn, 1) := by decide +kernel
theorem dX0_without_0 : decode cX0_without 0 = .ok (.aload_n 0, 1) := by decide +kernel
theorem dX0_without_1 : decode cX0_without 1 = .ok (.getfield 22, 3) := by decide +kernel
theorem dX0_without_4 : decode cX0_without 4 = .ok (.ifCond .ne 5, 3) := by decide +kernel
theorem dX0_without_7 : decode cX0_without 7 = .ok (.iload_n 1, 1) := by decide +kernel
theorem dX0_without_8 : decode cX0_without 8 = .ok (.ireturn, 1) := by decide +kernel
theorem dX0_without_9 : decode cX0_without 9 = .ok (.iload_n 1, 1) := by decide +kernel
theorem dX0_without_10 : decode cX0_without 10 = .ok (.iconst 3, 1) := by decide +kernel
theorem dX0_without_11 : decode cX0_without 11 = .ok (.if_icmp .le 7, 3) := by decide +kernel
theorem dX0_without_14 : decode cX0_without 14 = .ok (.iconst 2, 1) := by decide +kernel
theorem dX0_without_15 : decode cX0_without 15 = .ok (.goto 4, 3) := by decide +kernel
theorem dX0_without_18 : decode cX0_without 18 = .ok (.iconst 1, 1) := by decide +kernel
theorem dX0_without_19 : decode cX0_without 19 = .ok (.ireturn, 1) := by decide +kernel
theorem dX0_joined_0 : decode cX0_joined 0 = .ok (.iload_n 0, 1) := by decide +kernel
theorem dX0_joined_1 : decode cX0_joined 1 = .ok (.lookupswitch 188 #[(37, 176), (38, 105), (42, 160), (43, 152), (45, 156), (47, 164), (60, 119), (61, 130), (62, 141), (124, 91)], 91) := by decide +kernel
theorem dX0_joined_92 : decode cX0_joined 92 = .ok (.iload_n 1, 1) := by decide +kernel
theorem dX0_joined_93 : decode cX0_joined 93 = .ok (.ifCond .ne 7, 3) := by decide +kernel
theorem dX0_joined_96 : decode cX0_joined 96 = .ok (.iload_n 2, 1) := by decide +kernel
theorem dX0_joined_97 : decode cX0_joined 97 = .ok (.ifCond .eq 7, 3) := by decide +kernel
theorem dX0_joined_100 : decode cX0_joined 100 = .ok (.iconst 1, 1) := by decide +kernel
theorem dX0_joined_101 : decode cX0_joined 101 = .ok (.goto 4, 3) := by decide +kernel
theorem dX0_joined_104 : decode cX0_joined 104 = .ok (.iconst 0, 1) := by decide +kernel
theorem dX0_joined_105 : decode cX0_joined 105 = .ok (.ireturn, 1) := by decide +kernel
theorem dX0_joined_106 : decode cX0_joined 106 = .ok (.iload_n 1, 1) := by decide +kernel
theorem dX0_joined_107 : decode cX0_joined 107 = .ok (.ifCond .eq 11, 3) := by decide +kernel
theorem dX0_joined_110 : decode cX0_joined 110 = .ok (.iload_n 2, 1) := by decide +kernel
theorem dX0_joined_111 : decode cX0_joined 111 = .ok (.ifCond .eq 7, 3) := by decide +kernel
theorem dX0_joined_114 : decode cX0_joined 114 = .ok (.iconst 1, 1) := by decide +kernel
theorem dX0_joined_115 : decode cX0_joined 115 = .ok (.goto 4, 3) := by decide +kernel
theorem dX0_joined_118 : decode cX0_joined 118 = .ok (.iconst 0, 1) := by decide +kernel
theorem dX0_joined_119 : decode cX0_joined 119 = .ok (.ireturn, 1) := by decide +kernel
theorem dX0_joined_120 : decode cX0_joined 120 = .ok (.iload_n 1, 1) := by decide +kernel
theorem dX0_joined_121 : decode cX0_joined 121 = .ok (.iload_n 2, 1) := by decide +kernel
theorem dX0_joined_122 : decode cX0_joined 122 = .ok (.if_icmp .ge 7, 3) := by decide +kernel
theorem dX0_joined_125 : decode cX0_joined 125 = .ok (.iconst 1, 1) := by decide +kernel
theorem dX0_joined_126 : decode cX0_joined 126 = .ok (.goto 4, 3) := by decide +kernel
theorem dX0_joined_129 : decode cX0_joined 129 = .ok (.iconst 0, 1) := by decide +kernel
theorem dX0_joined_130 : decode cX0_joined 130 = .ok (.ireturn, 1) := by decide +kernel
theorem dX0_joined_131 : decode cX0_joined 131 = .ok (.iload_n 1, 1) := by decide +kernel
theorem dX0_joined_132 : decode cX0_joined 132 = .ok (.iload_n 2, 1) := by decide +kernel
theorem dX0_joined_133 : decode cX0_joined 133 = .ok (.if_icmp .ne 7, 3) := by decide +kernel
theorem dX0_joined_136 : decode cX0_joined 136 = .ok (.iconst 1, 1) := by decide +kernel
theorem dX0_joined_137 : decode cX0_joined 137 = .ok (.goto 4, 3) := by decide +kernel
theorem dX0_joined_140 : decode cX0_joined 140 = .ok (.iconst 0, 1) := by decide +kernel
theorem dX0_joined_141 : decode cX0_joined 141 = .ok (.ireturn, 1) := by decide +kernel
theorem dX0_joined_142 : decode cX0_joined 142 = .ok (.iload_n 1, 1) := by decide +kernel
theorem dX0_joined_143 : decode cX0_joined 143 = .ok (.iload_n 2, 1) := by decide +kernel
theorem dX0_joined_144 : decode cX0_joined 144 = .ok (.if_icmp .le 7, 3) := by decide +kernel
theorem dX0_joined_147 : decode cX0_joined 147 = .ok (.iconst 1, 1) := by decide +kernel
theorem dX0_joined_148 : decode cX0_joined 148 = .ok (.goto 4, 3) := by decide +kernel
theorem dX0_joined_151 : decode cX0_joined 151 = .ok (.iconst 0, 1) := by decide +kernel
theorem dX0_joined_152 : decode cX0_joined 152 = .ok (.ireturn, 1) := by decide +kernel
theorem dX0_joined_153 : decode cX0_joined 153 = .ok (.iload_n 1, 1) := by decide +kernel
theorem dX0_joined_154 : decode cX0_joined 154 = .ok (.iload_n 2, 1) := by decide +kernel
theorem dX0_joined_155 : decode cX0_joined 155 = .ok (.iadd, 1) := by decide +kernel
theorem dX0_joined_156 : decode cX0_joined 156 = .ok (.ireturn, 1) := by decide +kernel
theorem dX0_joined_157 : decode cX0_joined 157 = .ok (.iload_n 1, 1) := by decide +kernel
theorem dX0_joined_158 : decode cX0_joined 158 = .ok (.iload_n 2, 1) := by decide +kernel
theorem dX0_joined_159 : decode cX0_joined 159 = .ok (.isub, 1) := by decide +kernel
theorem dX0_joined_160 : decode cX0_joined 160 = .ok (.ireturn, 1) := by decide +kernel
theorem dX0_joined_161 : decode cX0_joined 161 = .ok (.iload_n 1, 1) := by decide +kernel
theorem dX0_joined_162 : decode cX0_joined 162 = .ok (.iload_n 2, 1) := by decide +kernel
theorem dX0_joined_163 : decode cX0_joined 163 = .ok (.imul, 1) := by decide +kernel
theorem dX0_joined_164 : decode cX0_joined 164 = .ok (.ireturn, 1) := by decide +kernel
theorem dX0_joined_165 : decode cX0_joined 165 = .ok (.iload_n 2, 1) := by decide +kernel
theorem dX0_joined_166 : decode cX0_joined 166 = .ok (.ifCond .ne 7, 3) := by decide +kernel
theorem dX0_joined_169 : decode cX0_joined 169 = .ok (.iconst 0, 1) := by decide +kernel
theorem dX0_joined_170 : decode cX0_joined 170 = .ok (.goto 6, 3) := by decide +kernel
theorem dX0_joined_173 : decode cX0_joined 173 = .ok (.iload_n 1, 1) := by decide +kernel
theorem dX0_joined_174 : decode cX0_joined 174 = .ok (.iload_n 2, 1) := by decide +kernel
theorem dX0_joined_175 : decode cX0_joined 175 = .ok (.idiv, 1) := by decide +kernel
theorem dX0_joined_176 : decode cX0_joined 176 = .ok (.ireturn, 1) := by decide +kernel
theorem dX0_joined_177 : decode cX0_joined 177 = .ok (.iload_n 2, 1) := by decide +kernel
theorem dX0_joined_178 : decode cX0_joined 178 = .ok (.ifCond .ne 7, 3) := by decide +kernel
theorem dX0_joined_181 : decode cX0_joined 181 = .ok (.iconst 0, 1) := by decide +kernel
theorem dX0_joined_182 : decode cX0_joined 182 = .ok (.goto 6, 3) := by decide +kernel
theorem dX0_joined_185 : decode cX0_joined 185 = .ok (.iload_n 1, 1) := by decide +kernel
theorem dX0_joined_186 : decode cX0_joined 186 = .ok (.iload_n 2, 1) := by decide +kernel
theorem dX0_joined_187 : decode cX0_joined 187 = .ok (.irem, 1) := by decide +kernel
theorem dX0_joined_188 : decode cX0_joined 188 = .ok (.ireturn, 1) := by decide +kernel
theorem dX0_joined_189 : decode cX0_joined 189 = .ok (.iconst 0, 1) := by decide +kernel
theorem dX0_joined_190 : decode cX0_joined 190 = .ok (.ireturn, 1) := by decide +kernel
theorem dX1_init_0 : decode cX1_init 0 = .ok (.aload_n 0, 1) := by decide +kernel
theorem dX1_init_1 : decode cX1_init 1 = .ok (.invokespecial 3, 3) := by decide +kernel
theorem dX1_init_4 : decode cX1_init 4 = .ok (.aload_n 0, 1) := by decide +kernel
theorem dX1_init_5 : decode cX1_init 5 = .ok (.bipush 6, 2) := by decide +kernel
theorem dX1_init_7 : decode cX1_init 7 = .ok (.newarray .int, 2) := by decide +kernel
theorem dX1_init_9 : decode cX1_init 9 = .ok (.putfield 9, 3) := by decide +kernel
theorem dX1_init_12 : decode cX1_init 12 = .ok (.aload_n 0, 1) := by decide +kernel
theorem dX1_init_13 : decode cX1_init 13 = .ok (.bipush 6, 2) := by decide +kernel
theorem dX1_init_15 : decode cX1_init 15 = .ok (.newarray .int, 2) := by decide +kernel
theorem dX1_init_17 : decode cX1_init 17 = .ok (.putfield 15, 3) := by decide +kernel
theorem dX1_init_20 : decode cX1_init 20 = .ok (.aload_n 0, 1) := by decide +kernel
theorem dX1_init_21 : decode cX1_init 21 = .ok (.bipush 6, 2) := by decide +kernel
theorem dX1_init_23 : decode cX1_init 23 = .ok (.newarray .int, 2) := by decide +kernel
theorem dX1_init_25 : decode cX1_init 25 = .ok (.putfield 18, 3) := by decide +kernel
theorem dX1_init_28 : decode cX1_init 28 = .ok (.aload_n 0, 1) := by decide +kernel
theorem dX1_init_29 : decode cX1_init 29 = .ok (.bipush 6, 2) := by decide +kernel
theorem dX1_init_31 : decode cX1_init 31 = .ok (.newarray .int, 2) := by decide +kernel
theorem dX1_init_33 : decode cX1_init 33 = .ok (.putfield 21, 3) := by decide +kernel
theorem dX1_init_36 : decode cX1_init 36 = .ok (.aload_n 0, 1) := by decide +kernel
theorem dX1_init_37 : decode cX1_init 37 = .ok (.bipush 6, 2) := by decide +kernel
theorem dX1_init_39 : decode cX1_init 39 = .ok (.newarray .boolean, 2) := by decide +kernel
theorem dX1_init_41 : decode cX1_init 41 = .ok (.putfield 24, 3) := by decide +kernel
theorem dX1_init_44 : decode cX1_init 44 = .ok (.aload_n 0, 1) := by decide +kernel
theorem dX1_init_45 : decode cX1_init 45 = .ok (.iconst 0, 1) := by decide +kernel
theorem dX1_init_46 : decode cX1_init 46 = .ok (.putfield 28, 3) := by decide +kernel
theorem dX1_init_49 : decode cX1_init 49 = .ok (.aload_n 0, 1) := by decide +kernel
theorem dX1_init_50 : decode cX1_init 50 = .ok (.iconst 0, 1) := by decide +kernel
theorem dX1_init_51 : decode cX1_init 51 = .ok (.putfield 32, 3) := by decide +kernel
theorem dX1_init_54 : decode cX1_init 54 = .ok (.aload_n 0, 1) := by decide +kernel
theorem dX1_init_55 : decode cX1_init 55 = .ok (.iconst 0, 1) := by decide +kernel
theorem dX1_init_56 : decode cX1_init 56 = .ok (.putfield 35, 3) := by decide +kernel
theorem dX1_init_59 : decode cX1_init 59 = .ok (.aload_n 0, 1) := by decide +kernel
theorem dX1_init_60 : decode cX1_init 60 = .ok (.aload_n 1, 1) := by decide +kernel
theorem dX1_init_61 : decode cX1_init 61 = .ok (.putfield 38, 3) := by decide +kernel
theorem dX1_init_64 : decode cX1_init 64 = .ok (.aload_n 0, 1) := by decide +kernel
theorem dX1_init_65 : decode cX1_init 65 = .ok (.aload_n 2, 1) := by decide +kernel
theorem dX1_init_66 : decode cX1_init 66 = .ok (.putfield 42, 3) := by decide +kernel
theorem dX1_init_69 : decode cX1_init 69 = .ok (.return_, 1) := by decide +kernel
theorem dX1_copies_0 : decode cX1_copies 0 = .ok (.aload_n 0, 1) := by decide +kernel
theorem dX1_copies_1 : decode cX1_copies 1 = .ok (.aload_n 1, 1) := by decide +kernel
theorem dX1_copies_2 : decode cX1_copies 2 = .ok (.getfield 28, 3) := by decide +kernel
theorem dX1_copies_5 : decode cX1_copies 5 = .ok (.putfield 28, 3) := by decide +kernel
theorem dX1_copies_8 : decode cX1_copies 8 = .ok (.aload_n 0, 1) := by decide +kernel
theorem dX1_copies_9 : decode cX1_copies 9 = .ok (.aload_n 1, 1) := by decide +kernel
theorem dX1_copies_10 : decode cX1_copies 10 = .ok (.getfield 32, 3) := by decide +kernel
theorem dX1_copies_13 : decode cX1_copies 13 = .ok (.putfield 32, 3) := by decide +kernel
theorem dX1_copies_16 : decode cX1_copies 16 = .ok (.aload_n 0, 1) := by decide +kernel
theorem dX1_copies_17 : decode cX1_copies 17 = .ok (.aload_n 1, 1) := by decide +kernel
theorem dX1_copies_18 : decode cX1_copies 18 = .ok (.getfield 35, 3) := by decide +kernel
theorem dX1_copies_21 : decode cX1_copies 21 = .ok (.putfield 35, 3) := by decide +kernel
theorem dX1_copies_24 : decode cX1_copies 24 = .ok (.iconst 0, 1) := by decide +kernel
theorem dX1_copies_25 : decode cX1_copies 25 = .ok (.istore_n 2, 1) := by decide +kernel
theorem dX1_copies_26 : decode cX1_copies 26 = .ok (.iload_n 2, 1) := by decide +kernel
theorem dX1_copies_27 : decode cX1_copies 27 = .ok (.aload_n 0, 1) := by decide +kernel
theorem dX1_copies_28 : decode cX1_copies 28 = .ok (.getfield 28, 3) := by decide +kernel
theorem dX1_copies_31 : decode cX1_copies 31 = .ok (.if_icmp .ge 69, 3) := by decide +kernel
theorem dX1_copies_34 : decode cX1_copies 34 = .ok (.aload_n 0, 1) := by decide +kernel
theorem dX1_copies_35 : decode cX1_copies 35 = .ok (.getfield 9, 3) := by decide +kernel
theorem dX1_copies_38 : decode cX1_copies 38 = .ok (.iload_n 2, 1) := by decide +kernel
theorem dX1_copies_39 : decode cX1_copies 39 = .ok (.aload_n 1, 1) := by decide +kernel
theorem dX1_copies_40 : decode cX1_copies 40 = .ok (.getfield 9, 3) := by decide +kernel
theorem dX1_copies_43 : decode cX1_copies 43 = .ok (.iload_n 2, 1) := by decide +kernel
theorem dX1_copies_44 : decode cX1_copies 44 = .ok (.iaload, 1) := by decide +kernel
theorem dX1_copies_45 : decode cX1_copies 45 = .ok (.iastore, 1) := by decide +kernel
theorem dX1_copies_46 : decode cX1_copies 46 = .ok (.aload_n 0, 1) := by decide +kernel
theorem dX1_copies_47 : decode cX1_copies 47 = .ok (.getfield 15, 3) := by decide +kernel
theorem dX1_copies_50 : decode cX1_copies 50 = .ok (.iload_n 2, 1) := by decide +kernel
theorem dX1_copies_51 : decode cX1_copies 51 = .ok (.aload_n 1, 1) := by decide +kernel
theorem dX1_copies_52 : decode cX1_copies 52 = .ok (.getfield 15, 3) := by decide +kernel
theorem dX1_copies_55 : decode cX1_copies 55 = .ok (.iload_n 2, 1) := by decide +kernel
theorem dX1_copies_56 : decode cX1_copies 56 = .ok (.iaload, 1) := by decide +kernel
theorem dX1_copies_57 : decode cX1_copies 57 = .ok (.iastore, 1) := by decide +kernel
theorem dX1_copies_58 : decode cX1_copies 58 = .ok (.aload_n 0, 1) := by decide +kernel
theorem dX1_copies_59 : decode cX1_copies 59 = .ok (.getfield 18, 3) := by decide +kernel
theorem dX1_copies_62 : decode cX1_copies 62 = .ok (.iload_n 2, 1) := by decide +kernel
theorem dX1_copies_63 : decode cX1_copies 63 = .ok (.aload_n 1, 1) := by decide +kernel
theorem dX1_copies_64 : decode cX1_copies 64 = .ok (.getfield 18, 3) := by decide +kernel
theorem dX1_copies_67 : decode cX1_copies 67 = .ok (.iload_n 2, 1) := by decide +kernel
theorem dX1_copies_68 : decode cX1_copies 68 = .ok (.iaload, 1) := by decide +kernel
theorem dX1_copies_69 : decode cX1_copies 69 = .ok (.iastore, 1) := by decide +kernel
theorem dX1_copies_70 : decode cX1_copies 70 = .ok (.aload_n 0, 1) := by decide +kernel
theorem dX1_copies_71 : decode cX1_copies 71 = .ok (.getfield 21, 3) := by decide +kernel
theorem dX1_copies_74 : decode cX1_copies 74 = .ok (.iload_n 2, 1) := by decide +kernel
theorem dX1_copies_75 : decode cX1_copies 75 = .ok (.aload_n 1, 1) := by decide +kernel
theorem dX1_copies_76 : decode cX1_copies 76 = .ok (.getfield 21, 3) := by decide +kernel
theorem dX1_copies_79 : decode cX1_copies 79 = .ok (.iload_n 2, 1) := by decide +kernel
theorem dX1_copies_80 : decode cX1_copies 80 = .ok (.iaload, 1) := by decide +kernel
theorem dX1_copies_81 : decode cX1_copies 81 = .ok (.iastore, 1) := by decide +kernel
theorem dX1_copies_82 : decode cX1_copies 82 = .ok (.aload_n 0, 1) := by decide +kernel
theorem dX1_copies_83 : decode cX1_copies 83 = .ok (.getfield 24, 3) := by decide +kernel
theorem dX1_copies_86 : decode cX1_copies 86 = .ok (.iload_n 2, 1) := by decide +kernel
theorem dX1_copies_87 : decode cX1_copies 87 = .ok (.aload_n 1, 1) := by decide +kernel
theorem dX1_copies_88 : decode cX1_copies 88 = .ok (.getfield 24, 3) := by decide +kernel
theorem dX1_copies_91 : decode cX1_copies 91 = .ok (.iload_n 2, 1) := by decide +kernel
theorem dX1_copies_92 : decode cX1_copies 92 = .ok (.baload, 1) := by decide +kernel
theorem dX1_copies_93 : decode cX1_copies 93 = .ok (.bastore, 1) := by decide +kernel
theorem dX1_copies_94 : decode cX1_copies 94 = .ok (.iinc 2 1, 3) := by decide +kernel
theorem dX1_copies_97 : decode cX1_copies 97 = .ok (.goto (-71), 3) := by decide +kernel
theorem dX1_copies_100 : decode cX1_copies 100 = .ok (.return_, 1) := by decide +kernel
theorem dX1_takesIn_0 : decode cX1_takesIn 0 = .ok (.aload_n 0, 1) := by decide +kernel
theorem dX1_takesIn_1 : decode cX1_takesIn 1 = .ok (.getfield 28, 3) := by decide +kernel
theorem dX1_takesIn_4 : decode cX1_takesIn 4 = .ok (.istore 4, 2) := by decide +kernel
theorem dX1_takesIn_6 : decode cX1_takesIn 6 = .ok (.aload_n 0, 1) := by decide +kernel
theorem dX1_takesIn_7 : decode cX1_takesIn 7 = .ok (.getfield 9, 3) := by decide +kernel
theorem dX1_takesIn_10 : decode cX1_takesIn 10 = .ok (.iload 4, 2) := by decide +kernel
theorem dX1_takesIn_12 : decode cX1_takesIn 12 = .ok (.iload_n 1, 1) := by decide +kernel
theorem dX1_takesIn_13 : decode cX1_takesIn 13 = .ok (.iastore, 1) := by decide +kernel
theorem dX1_takesIn_14 : decode cX1_takesIn 14 = .ok (.aload_n 0, 1) := by decide +kernel
theorem dX1_takesIn_15 : decode cX1_takesIn 15 = .ok (.getfield 15, 3) := by decide +kernel
theorem dX1_takesIn_18 : decode cX1_takesIn 18 = .ok (.iload 4, 2) := by decide +kernel
theorem dX1_takesIn_20 : decode cX1_takesIn 20 = .ok (.iload_n 2, 1) := by decide +kernel
theorem dX1_takesIn_21 : decode cX1_takesIn 21 = .ok (.iastore, 1) := by decide +kernel
theorem dX1_takesIn_22 : decode cX1_takesIn 22 = .ok (.aload_n 0, 1) := by decide +kernel
theorem dX1_takesIn_23 : decode cX1_takesIn 23 = .ok (.getfield 18, 3) := by decide +kernel
theorem dX1_takesIn_26 : decode cX1_takesIn 26 = .ok (.iload 4, 2) := by decide +kernel
theorem dX1_takesIn_28 : decode cX1_takesIn 28 = .ok (.iload_n 3, 1) := by decide +kernel
theorem dX1_takesIn_29 : decode cX1_takesIn 29 = .ok (.iastore, 1) := by decide +kernel
theorem dX1_takesIn_30 : decode cX1_takesIn 30 = .ok (.aload_n 0, 1) := by decide +kernel
theorem dX1_takesIn_31 : decode cX1_takesIn 31 = .ok (.iload 4, 2) := by decide +kernel
theorem dX1_takesIn_33 : decode cX1_takesIn 33 = .ok (.iconst 0, 1) := by decide +kernel
theorem dX1_takesIn_34 : decode cX1_takesIn 34 = .ok (.invokevirtual 45, 3) := by decide +kernel
theorem dX1_takesIn_37 : decode cX1_takesIn 37 = .ok (.aload_n 0, 1) := by decide +kernel
theorem dX1_takesIn_38 : decode cX1_takesIn 38 = .ok (.dup, 1) := by decide +kernel
theorem dX1_takesIn_39 : decode cX1_takesIn 39 = .ok (.getfield 28, 3) := by decide +kernel
theorem dX1_takesIn_42 : decode cX1_takesIn 42 = .ok (.iconst 1, 1) := by decide +kernel
theorem dX1_takesIn_43 : decode cX1_takesIn 43 = .ok (.iadd, 1) := by decide +kernel
theorem dX1_takesIn_44 : decode cX1_takesIn 44 = .ok (.putfield 28, 3) := by decide +kernel
theorem dX1_takesIn_47 : decode cX1_takesIn 47 = .ok (.iload 4, 2) := by decide +kernel
theorem dX1_takesIn_49 : decode cX1_takesIn 49 = .ok (.ireturn, 1) := by decide +kernel
theorem dX1_stands_0 : decode cX1_stands 0 = .ok (.aload_n 0, 1) := by decide +kernel
theorem dX1_stands_1 : decode cX1_stands 1 = .ok (.getfield 21, 3) := by decide +kernel
theorem dX1_stands_4 : decode cX1_stands 4 = .ok (.iload_n 1, 1) := by decide +kernel
theorem dX1_stands_5 : decode cX1_stands 5 = .ok (.iload_n 2, 1) := by decide +kernel
theorem dX1_stands_6 : decode cX1_stands 6 = .ok (.iastore, 1) := by decide +kernel
theorem dX1_stands_7 : decode cX1_stands 7 = .ok (.aload_n 0, 1) := by decide +kernel
theorem dX1_stands_8 : decode cX1_stands 8 = .ok (.getfield 24, 3) := by decide +kernel
theorem dX1_stands_11 : decode cX1_stands 11 = .ok (.iload_n 1, 1) := by decide +kernel
theorem dX1_stands_12 : decode cX1_stands 12 = .ok (.iconst 0, 1) := by decide +kernel
theorem dX1_stands_13 : decode cX1_stands 13 = .ok (.bastore, 1) := by decide +kernel
theorem dX1_stands_14 : decode cX1_stands 14 = .ok (.return_, 1) := by decide +kernel
theorem dX1_clearFor_0 : decode cX1_clearFor 0 = .ok (.aload_n 0, 1) := by decide +kernel
theorem dX1_clearFor_1 : decode cX1_clearFor 1 = .ok (.getfield 38, 3) := by decide +kernel
theorem dX1_clearFor_4 : decode cX1_clearFor 4 = .ok (.aload_n 0, 1) := by decide +kernel
theorem dX1_clearFor_5 : decode cX1_clearFor 5 = .ok (.iload_n 1, 1) := by decide +kernel
theorem dX1_clearFor_6 : decode cX1_clearFor 6 = .ok (.invokevirtual 49, 3) := by decide +kernel
theorem dX1_clearFor_9 : decode cX1_clearFor 9 = .ok (.aload_n 0, 1) := by decide +kernel
theorem dX1_clearFor_10 : decode cX1_clearFor 10 = .ok (.getfield 18, 3) := by decide +kernel
theorem dX1_clearFor_13 : decode cX1_clearFor 13 = .ok (.iload_n 1, 1) := by decide +kernel
theorem dX1_clearFor_14 : decode cX1_clearFor 14 = .ok (.iaload, 1) := by decide +kernel
theorem dX1_clearFor_15 : decode cX1_clearFor 15 = .ok (.aload_n 0, 1) := by decide +kernel
theorem dX1_clearFor_16 : decode cX1_clearFor 16 = .ok (.getfield 35, 3) := by decide +kernel
theorem dX1_clearFor_19 : decode cX1_clearFor 19 = .ok (.bipush 24, 2) := by decide +kernel
theorem dX1_clearFor_21 : decode cX1_clearFor 21 = .ok (.irem, 1) := by decide +kernel
theorem dX1_clearFor_22 : decode cX1_clearFor 22 = .ok (.invokevirtual 53, 3) := by decide +kernel
theorem dX1_clearFor_25 : decode cX1_clearFor 25 = .ok (.ireturn, 1) := by decide +kernel
theorem dX1_paceOf_0 : decode cX1_paceOf 0 = .ok (.aload_n 0, 1) := by decide +kernel
theorem dX1_paceOf_1 : decode cX1_paceOf 1 = .ok (.getfield 42, 3) := by decide +kernel
theorem dX1_paceOf_4 : decode cX1_paceOf 4 = .ok (.iload_n 2, 1) := by decide +kernel
theorem dX1_paceOf_5 : decode cX1_paceOf 5 = .ok (.aload_n 0, 1) := by decide +kernel
theorem dX1_paceOf_6 : decode cX1_paceOf 6 = .ok (.getfield 15, 3) := by decide +kernel
theorem dX1_paceOf_9 : decode cX1_paceOf 9 = .ok (.iload_n 1, 1) := by decide +kernel
theorem dX1_paceOf_10 : decode cX1_paceOf 10 = .ok (.iaload, 1) := by decide +kernel
theorem dX1_paceOf_11 : decode cX1_paceOf 11 = .ok (.aload_n 0, 1) := by decide +kernel
theorem dX1_paceOf_12 : decode cX1_paceOf 12 = .ok (.getfield 9, 3) := by decide +kernel
theorem dX1_paceOf_15 : decode cX1_paceOf 15 = .ok (.iload_n 1, 1) := by decide +kernel
theorem dX1_paceOf_16 : decode cX1_paceOf 16 = .ok (.iaload, 1) := by decide +kernel
theorem dX1_paceOf_17 : decode cX1_paceOf 17 = .ok (.invokevirtual 53, 3) := by decide +kernel
theorem dX1_paceOf_20 : decode cX1_paceOf 20 = .ok (.ireturn, 1) := by decide +kernel
theorem dX1_sees_0 : decode cX1_sees 0 = .ok (.aload_n 0, 1) := by decide +kernel
theorem dX1_sees_1 : decode cX1_sees 1 = .ok (.getfield 18, 3) := by decide +kernel
theorem dX1_sees_4 : decode cX1_sees 4 = .ok (.iload_n 1, 1) := by decide +kernel
theorem dX1_sees_5 : decode cX1_sees 5 = .ok (.iaload, 1) := by decide +kernel
theorem dX1_sees_6 : decode cX1_sees 6 = .ok (.bipush 10, 2) := by decide +kernel
theorem dX1_sees_8 : decode cX1_sees 8 = .ok (.idiv, 1) := by decide +kernel
theorem dX1_sees_9 : decode cX1_sees 9 = .ok (.istore_n 2, 1) := by decide +kernel
theorem dX1_sees_10 : decode cX1_sees 10 = .ok (.aload_n 0, 1) := by decide +kernel
theorem dX1_sees_11 : decode cX1_sees 11 = .ok (.getfield 15, 3) := by decide +kernel
theorem dX1_sees_14 : decode cX1_sees 14 = .ok (.iload_n 1, 1) := by decide +kernel
theorem dX1_sees_15 : decode cX1_sees 15 = .ok (.iaload, 1) := by decide +kernel
theorem dX1_sees_16 : decode cX1_sees 16 = .ok (.istore_n 3, 1) := by decide +kernel
theorem dX1_sees_17 : decode cX1_sees 17 = .ok (.aload_n 0, 1) := by decide +kernel
theorem dX1_sees_18 : decode cX1_sees 18 = .ok (.getfield 9, 3) := by decide +kernel
theorem dX1_sees_21 : decode cX1_sees 21 = .ok (.iload_n 1, 1) := by decide +kernel
theorem dX1_sees_22 : decode cX1_sees 22 = .ok (.iaload, 1) := by decide +kernel
theorem dX1_sees_23 : decode cX1_sees 23 = .ok (.tableswitch 84 1 6 #[37, 41, 54, 59, 69, 75], 37) := by decide +kernel
theorem dX1_sees_60 : decode cX1_sees 60 = .ok (.iload_n 2, 1) := by decide +kernel
theorem dX1_sees_61 : decode cX1_sees 61 = .ok (.iconst 2, 1) := by decide +kernel
theorem dX1_sees_62 : decode cX1_sees 62 = .ok (.idiv, 1) := by decide +kernel
theorem dX1_sees_63 : decode cX1_sees 63 = .ok (.ireturn, 1) := by decide +kernel
theorem dX1_sees_64 : decode cX1_sees 64 = .ok (.iload_n 2, 1) := by decide +kernel
theorem dX1_sees_65 : decode cX1_sees 65 = .ok (.iconst 3, 1) := by decide +kernel
theorem dX1_sees_66 : decode cX1_sees 66 = .ok (.if_icmp .ge 7, 3) := by decide +kernel
theorem dX1_sees_69 : decode cX1_sees 69 = .ok (.iconst 0, 1) := by decide +kernel
theorem dX1_sees_70 : decode cX1_sees 70 = .ok (.goto 6, 3) := by decide +kernel
theorem dX1_sees_73 : decode cX1_sees 73 = .ok (.iload_n 2, 1) := by decide +kernel
theorem dX1_sees_74 : decode cX1_sees 74 = .ok (.iconst 3, 1) := by decide +kernel
theorem dX1_sees_75 : decode cX1_sees 75 = .ok (.isub, 1) := by decide +kernel
theorem dX1_sees_76 : decode cX1_sees 76 = .ok (.ireturn, 1) := by decide +kernel
theorem dX1_sees_77 : decode cX1_sees 77 = .ok (.bipush 9, 2) := by decide +kernel
theorem dX1_sees_79 : decode cX1_sees 79 = .ok (.iload_n 3, 1) := by decide +kernel
theorem dX1_sees_80 : decode cX1_sees 80 = .ok (.iadd, 1) := by decide +kernel
theorem dX1_sees_81 : decode cX1_sees 81 = .ok (.ireturn, 1) := by decide +kernel
theorem dX1_sees_82 : decode cX1_sees 82 = .ok (.iload_n 2, 1) := by decide +kernel
theorem dX1_sees_83 : decode cX1_sees 83 = .ok (.iconst 2, 1) := by decide +kernel
theorem dX1_sees_84 : decode cX1_sees 84 = .ok (.idiv, 1) := by decide +kernel
theorem dX1_sees_85 : decode cX1_sees 85 = .ok (.aload_n 0, 1) := by decide +kernel
theorem dX1_sees_86 : decode cX1_sees 86 = .ok (.iload_n 1, 1) := by decide +kernel
theorem dX1_sees_87 : decode cX1_sees 87 = .ok (.invokevirtual 59, 3) := by decide +kernel
theorem dX1_sees_90 : decode cX1_sees 90 = .ok (.iadd, 1) := by decide +kernel
theorem dX1_sees_91 : decode cX1_sees 91 = .ok (.ireturn, 1) := by decide +kernel
theorem dX1_sees_92 : decode cX1_sees 92 = .ok (.iconst 1, 1) := by decide +kernel
theorem dX1_sees_93 : decode cX1_sees 93 = .ok (.iload_n 3, 1) := by decide +kernel
theorem dX1_sees_94 : decode cX1_sees 94 = .ok (.iconst 2, 1) := by decide +kernel
theorem dX1_sees_95 : decode cX1_sees 95 = .ok (.irem, 1) := by decide +kernel
theorem dX1_sees_96 : decode cX1_sees 96 = .ok (.iadd, 1) := by decide +kernel
theorem dX1_sees_97 : decode cX1_sees 97 = .ok (.ireturn, 1) := by decide +kernel
theorem dX1_sees_98 : decode cX1_sees 98 = .ok (.iload_n 2, 1) := by decide +kernel
theorem dX1_sees_99 : decode cX1_sees 99 = .ok (.aload_n 0, 1) := by decide +kernel
theorem dX1_sees_100 : decode cX1_sees 100 = .ok (.getfield 35, 3) := by decide +kernel
theorem dX1_sees_103 : decode cX1_sees 103 = .ok (.iconst 5, 1) := by decide +kernel
theorem dX1_sees_104 : decode cX1_sees 104 = .ok (.irem, 1) := by decide +kernel
theorem dX1_sees_105 : decode cX1_sees 105 = .ok (.iadd, 1) := by decide +kernel
theorem dX1_sees_106 : decode cX1_sees 106 = .ok (.ireturn, 1) := by decide +kernel
theorem dX1_sees_107 : decode cX1_sees 107 = .ok (.iload_n 2, 1) := by decide +kernel
theorem dX1_sees_108 : decode cX1_sees 108 = .ok (.ireturn, 1) := by decide +kernel
theorem dX1_together_0 : decode cX1_together 0 = .ok (.iconst 0, 1) := by decide +kernel
theorem dX1_together_1 : decode cX1_together 1 = .ok (.istore_n 2, 1) := by decide +kernel
theorem dX1_together_2 : decode cX1_together 2 = .ok (.iconst 0, 1) := by decide +kernel
theorem dX1_together_3 : decode cX1_together 3 = .ok (.istore_n 3, 1) := by decide +kernel
theorem dX1_together_4 : decode cX1_together 4 = .ok (.iload_n 3, 1) := by decide +kernel
theorem dX1_together_5 : decode cX1_together 5 = .ok (.aload_n 0, 1) := by decide +kernel
theorem dX1_together_6 : decode cX1_together 6 = .ok (.getfield 28, 3) := by decide +kernel
theorem dX1_together_9 : decode cX1_together 9 = .ok (.if_icmp .ge 41, 3) := by decide +kernel
theorem dX1_together_12 : decode cX1_together 12 = .ok (.iload_n 3, 1) := by decide +kernel
theorem dX1_together_13 : decode cX1_together 13 = .ok (.iload_n 1, 1) := by decide +kernel
theorem dX1_together_14 : decode cX1_together 14 = .ok (.if_icmp .eq 30, 3) := by decide +kernel
theorem dX1_together_17 : decode cX1_together 17 = .ok (.aload_n 0, 1) := by decide +kernel
theorem dX1_together_18 : decode cX1_together 18 = .ok (.getfield 21, 3) := by decide +kernel
theorem dX1_together_21 : decode cX1_together 21 = .ok (.iload_n 3, 1) := by decide +kernel
theorem dX1_together_22 : decode cX1_together 22 = .ok (.iaload, 1) := by decide +kernel
theorem dX1_together_23 : decode cX1_together 23 = .ok (.aload_n 0, 1) := by decide +kernel
theorem dX1_together_24 : decode cX1_together 24 = .ok (.getfield 21, 3) := by decide +kernel
theorem dX1_together_27 : decode cX1_together 27 = .ok (.iload_n 1, 1) := by decide +kernel
theorem dX1_together_28 : decode cX1_together 28 = .ok (.iaload, 1) := by decide +kernel
theorem dX1_together_29 : decode cX1_together 29 = .ok (.if_icmp .ne 15, 3) := by decide +kernel
theorem dX1_together_32 : decode cX1_together 32 = .ok (.aload_n 0, 1) := by decide +kernel
theorem dX1_together_33 : decode cX1_together 33 = .ok (.getfield 24, 3) := by decide +kernel
theorem dX1_together_36 : decode cX1_together 36 = .ok (.iload_n 3, 1) := by decide +kernel
theorem dX1_together_37 : decode cX1_together 37 = .ok (.baload, 1) := by decide +kernel
theorem dX1_together_38 : decode cX1_together 38 = .ok (.ifCond .ne 6, 3) := by decide +kernel
theorem dX1_together_41 : decode cX1_together 41 = .ok (.iinc 2 1, 3) := by decide +kernel
theorem dX1_together_44 : decode cX1_together 44 = .ok (.iinc 3 1, 3) := by decide +kernel
theorem dX1_together_47 : decode cX1_together 47 = .ok (.goto (-43), 3) := by decide +kernel
theorem dX1_together_50 : decode cX1_together 50 = .ok (.iload_n 2, 1) := by decide +kernel
theorem dX1_together_51 : decode cX1_together 51 = .ok (.ireturn, 1) := by decide +kernel
theorem dX1_falls_0 : decode cX1_falls 0 = .ok (.aload_n 0, 1) := by decide +kernel
theorem dX1_falls_1 : decode cX1_falls 1 = .ok (.getfield 15, 3) := by decide +kernel
theorem dX1_falls_4 : decode cX1_falls 4 = .ok (.iload_n 1, 1) := by decide +kernel
theorem dX1_falls_5 : decode cX1_falls 5 = .ok (.iaload, 1) := by decide +kernel
theorem dX1_falls_6 : decode cX1_falls 6 = .ok (.istore_n 2, 1) := by decide +kernel
theorem dX1_falls_7 : decode cX1_falls 7 = .ok (.aload_n 0, 1) := by decide +kernel
theorem dX1_falls_8 : decode cX1_falls 8 = .ok (.getfield 9, 3) := by decide +kernel
theorem dX1_falls_11 : decode cX1_falls 11 = .ok (.iload_n 1, 1) := by decide +kernel
theorem dX1_falls_12 : decode cX1_falls 12 = .ok (.iaload, 1) := by decide +kernel
theorem dX1_falls_13 : decode cX1_falls 13 = .ok (.tableswitch 76 2 6 #[35, 54, 76, 76, 56], 35) := by decide +kernel
theorem dX1_falls_48 : decode cX1_falls 48 = .ok (.aload_n 0, 1) := by decide +kernel
theorem dX1_falls_49 : decode cX1_falls 49 = .ok (.getfield 18, 3) := by decide +kernel
theorem dX1_falls_52 : decode cX1_falls 52 = .ok (.iload_n 1, 1) := by decide +kernel
theorem dX1_falls_53 : decode cX1_falls 53 = .ok (.iaload, 1) := by decide +kernel
theorem dX1_falls_54 : decode cX1_falls 54 = .ok (.bipush 10, 2) := by decide +kernel
theorem dX1_falls_56 : decode cX1_falls 56 = .ok (.iload_n 2, 1) := by decide +kernel
theorem dX1_falls_57 : decode cX1_falls 57 = .ok (.iadd, 1) := by decide +kernel
theorem dX1_falls_58 : decode cX1_falls 58 = .ok (.if_icmp .ge 7, 3) := by decide +kernel
theorem dX1_falls_61 : decode cX1_falls 61 = .ok (.iconst 1, 1) := by decide +kernel
theorem dX1_falls_62 : decode cX1_falls 62 = .ok (.goto 4, 3) := by decide +kernel
theorem dX1_falls_65 : decode cX1_falls 65 = .ok (.iconst 0, 1) := by decide +kernel
theorem dX1_falls_66 : decode cX1_falls 66 = .ok (.ireturn, 1) := by decide +kernel
theorem dX1_falls_67 : decode cX1_falls 67 = .ok (.iconst 1, 1) := by decide +kernel
theorem dX1_falls_68 : decode cX1_falls 68 = .ok (.ireturn, 1) := by decide +kernel
theorem dX1_falls_69 : decode cX1_falls 69 = .ok (.aload_n 0, 1) := by decide +kernel
theorem dX1_falls_70 : decode cX1_falls 70 = .ok (.getfield 35, 3) := by decide +kernel
theorem dX1_falls_73 : decode cX1_falls 73 = .ok (.bipush 24, 2) := by decide +kernel
theorem dX1_falls_75 : decode cX1_falls 75 = .ok (.irem, 1) := by decide +kernel
theorem dX1_falls_76 : decode cX1_falls 76 = .ok (.bipush 20, 2) := by decide +kernel
theorem dX1_falls_78 : decode cX1_falls 78 = .ok (.iload_n 2, 1) := by decide +kernel
theorem dX1_falls_79 : decode cX1_falls 79 = .ok (.isub, 1) := by decide +kernel
theorem dX1_falls_80 : decode cX1_falls 80 = .ok (.if_icmp .le 7, 3) := by decide +kernel
theorem dX1_falls_83 : decode cX1_falls 83 = .ok (.iconst 1, 1) := by decide +kernel
theorem dX1_falls_84 : decode cX1_falls 84 = .ok (.goto 4, 3) := by decide +kernel
theorem dX1_falls_87 : decode cX1_falls 87 = .ok (.iconst 0, 1) := by decide +kernel
theorem dX1_falls_88 : decode cX1_falls 88 = .ok (.ireturn, 1) := by decide +kernel
theorem dX1_falls_89 : decode cX1_falls 89 = .ok (.iconst 0, 1) := by decide +kernel
theorem dX1_falls_90 : decode cX1_falls 90 = .ok (.ireturn, 1) := by decide +kernel
theorem dX1_anHourGoes_0 : decode cX1_anHourGoes 0 = .ok (.iload_n 1, 1) := by decide +kernel
theorem dX1_anHourGoes_1 : decode cX1_anHourGoes 1 = .ok (.iconst (-1), 1) := by decide +kernel
theorem dX1_anHourGoes_2 : decode cX1_anHourGoes 2 = .ok (.if_icmp .eq 13, 3) := by decide +kernel
theorem dX1_anHourGoes_5 : decode cX1_anHourGoes 5 = .ok (.aload_n 0, 1) := by decide +kernel
theorem dX1_anHourGoes_6 : decode cX1_anHourGoes 6 = .ok (.getfield 9, 3) := by decide +kernel
theorem dX1_anHourGoes_9 : decode cX1_anHourGoes 9 = .ok (.iload_n 1, 1) := by decide +kernel
theorem dX1_anHourGoes_10 : decode cX1_anHourGoes 10 = .ok (.iaload, 1) := by decide +kernel
theorem dX1_anHourGoes_11 : decode cX1_anHourGoes 11 = .ok (.iconst 4, 1) := by decide +kernel
theorem dX1_anHourGoes_12 : decode cX1_anHourGoes 12 = .ok (.if_icmp .ne 7, 3) := by decide +kernel
theorem dX1_anHourGoes_15 : decode cX1_anHourGoes 15 = .ok (.iconst 1, 1) := by decide +kernel
theorem dX1_anHourGoes_16 : decode cX1_anHourGoes 16 = .ok (.goto 4, 3) := by decide +kernel
theorem dX1_anHourGoes_19 : decode cX1_anHourGoes 19 = .ok (.iconst 0, 1) := by decide +kernel
theorem dX1_anHourGoes_20 : decode cX1_anHourGoes 20 = .ok (.istore_n 2, 1) := by decide +kernel
theorem dX1_anHourGoes_21 : decode cX1_anHourGoes 21 = .ok (.iconst 0, 1) := by decide +kernel
theorem dX1_anHourGoes_22 : decode cX1_anHourGoes 22 = .ok (.istore_n 3, 1) := by decide +kernel
theorem dX1_anHourGoes_23 : decode cX1_anHourGoes 23 = .ok (.iload_n 3, 1) := by decide +kernel
theorem dX1_anHourGoes_24 : decode cX1_anHourGoes 24 = .ok (.aload_n 0, 1) := by decide +kernel
theorem dX1_anHourGoes_25 : decode cX1_anHourGoes 25 = .ok (.getfield 28, 3) := by decide +kernel
theorem dX1_anHourGoes_28 : decode cX1_anHourGoes 28 = .ok (.if_icmp .ge 67, 3) := by decide +kernel
theorem dX1_anHourGoes_31 : decode cX1_anHourGoes 31 = .ok (.aload_n 0, 1) := by decide +kernel
theorem dX1_anHourGoes_32 : decode cX1_anHourGoes 32 = .ok (.getfield 24, 3) := by decide +kernel
theorem dX1_anHourGoes_35 : decode cX1_anHourGoes 35 = .ok (.iload_n 3, 1) := by decide +kernel
theorem dX1_anHourGoes_36 : decode cX1_anHourGoes 36 = .ok (.baload, 1) := by decide +kernel
theorem dX1_anHourGoes_37 : decode cX1_anHourGoes 37 = .ok (.ifCond .ne 52, 3) := by decide +kernel
theorem dX1_anHourGoes_40 : decode cX1_anHourGoes 40 = .ok (.aload_n 0, 1) := by decide +kernel
theorem dX1_anHourGoes_41 : decode cX1_anHourGoes 41 = .ok (.getfield 21, 3) := by decide +kernel
theorem dX1_anHourGoes_44 : decode cX1_anHourGoes 44 = .ok (.iload_n 3, 1) := by decide +kernel
theorem dX1_anHourGoes_45 : decode cX1_anHourGoes 45 = .ok (.iaload, 1) := by decide +kernel
theorem dX1_anHourGoes_46 : decode cX1_anHourGoes 46 = .ok (.bipush 15, 2) := by decide +kernel
theorem dX1_anHourGoes_48 : decode cX1_anHourGoes 48 = .ok (.if_icmp .ge 41, 3) := by decide +kernel
theorem dX1_anHourGoes_51 : decode cX1_anHourGoes 51 = .ok (.iload_n 2, 1) := by decide +kernel
theorem dX1_anHourGoes_52 : decode cX1_anHourGoes 52 = .ok (.ifCond .ne 8, 3) := by decide +kernel
theorem dX1_anHourGoes_55 : decode cX1_anHourGoes 55 = .ok (.iload_n 3, 1) := by decide +kernel
theorem dX1_anHourGoes_56 : decode cX1_anHourGoes 56 = .ok (.iload_n 1, 1) := by decide +kernel
theorem dX1_anHourGoes_57 : decode cX1_anHourGoes 57 = .ok (.if_icmp .ne 32, 3) := by decide +kernel
theorem dX1_anHourGoes_60 : decode cX1_anHourGoes 60 = .ok (.aload_n 0, 1) := by decide +kernel
theorem dX1_anHourGoes_61 : decode cX1_anHourGoes 61 = .ok (.iload_n 3, 1) := by decide +kernel
theorem dX1_anHourGoes_62 : decode cX1_anHourGoes 62 = .ok (.invokevirtual 62, 3) := by decide +kernel
theorem dX1_anHourGoes_65 : decode cX1_anHourGoes 65 = .ok (.istore 4, 2) := by decide +kernel
theorem dX1_anHourGoes_67 : decode cX1_anHourGoes 67 = .ok (.aload_n 0, 1) := by decide +kernel
theorem dX1_anHourGoes_68 : decode cX1_anHourGoes 68 = .ok (.iload_n 3, 1) := by decide +kernel
theorem dX1_anHourGoes_69 : decode cX1_anHourGoes 69 = .ok (.aload_n 0, 1) := by decide +kernel
theorem dX1_anHourGoes_70 : decode cX1_anHourGoes 70 = .ok (.iload_n 3, 1) := by decide +kernel
theorem dX1_anHourGoes_71 : decode cX1_anHourGoes 71 = .ok (.iload 4, 2) := by decide +kernel
theorem dX1_anHourGoes_73 : decode cX1_anHourGoes 73 = .ok (.invokevirtual 65, 3) := by decide +kernel
theorem dX1_anHourGoes_76 : decode cX1_anHourGoes 76 = .ok (.iload 4, 2) := by decide +kernel
theorem dX1_anHourGoes_78 : decode cX1_anHourGoes 78 = .ok (.invokestatic 69, 3) := by decide +kernel
theorem dX1_anHourGoes_81 : decode cX1_anHourGoes 81 = .ok (.aload_n 0, 1) := by decide +kernel
theorem dX1_anHourGoes_82 : decode cX1_anHourGoes 82 = .ok (.iload_n 3, 1) := by decide +kernel
theorem dX1_anHourGoes_83 : decode cX1_anHourGoes 83 = .ok (.invokevirtual 74, 3) := by decide +kernel
theorem dX1_anHourGoes_86 : decode cX1_anHourGoes 86 = .ok (.invokevirtual 78, 3) := by decide +kernel
theorem dX1_anHourGoes_89 : decode cX1_anHourGoes 89 = .ok (.iinc 3 1, 3) := by decide +kernel
theorem dX1_anHourGoes_92 : decode cX1_anHourGoes 92 = .ok (.goto (-69), 3) := by decide +kernel
theorem dX1_anHourGoes_95 : decode cX1_anHourGoes 95 = .ok (.aload_n 0, 1) := by decide +kernel
theorem dX1_anHourGoes_96 : decode cX1_anHourGoes 96 = .ok (.dup, 1) := by decide +kernel
theorem dX1_anHourGoes_97 : decode cX1_anHourGoes 97 = .ok (.getfield 35, 3) := by decide +kernel
theorem dX1_anHourGoes_100 : decode cX1_anHourGoes 100 = .ok (.iconst 1, 1) := by decide +kernel
theorem dX1_anHourGoes_101 : decode cX1_anHourGoes 101 = .ok (.iadd, 1) := by decide +kernel
theorem dX1_anHourGoes_102 : decode cX1_anHourGoes 102 = .ok (.putfield 35, 3) := by decide +kernel
theorem dX1_anHourGoes_105 : decode cX1_anHourGoes 105 = .ok (.return_, 1) := by decide +kernel
theorem dX1_goes_0 : decode cX1_goes 0 = .ok (.iconst 0, 1) := by decide +kernel
theorem dX1_goes_1 : decode cX1_goes 1 = .ok (.istore 4, 2) := by decide +kernel
theorem dX1_goes_3 : decode cX1_goes 3 = .ok (.iload 4, 2) := by decide +kernel
theorem dX1_goes_5 : decode cX1_goes 5 = .ok (.iload_n 2, 1) := by decide +kernel
theorem dX1_goes_6 : decode cX1_goes 6 = .ok (.if_icmp .ge 78, 3) := by decide +kernel
theorem dX1_goes_9 : decode cX1_goes 9 = .ok (.aload_n 0, 1) := by decide +kernel
theorem dX1_goes_10 : decode cX1_goes 10 = .ok (.getfield 21, 3) := by decide +kernel
theorem dX1_goes_13 : decode cX1_goes 13 = .ok (.iload_n 1, 1) := by decide +kernel
theorem dX1_goes_14 : decode cX1_goes 14 = .ok (.iaload, 1) := by decide +kernel
theorem dX1_goes_15 : decode cX1_goes 15 = .ok (.bipush 15, 2) := by decide +kernel
theorem dX1_goes_17 : decode cX1_goes 17 = .ok (.if_icmp .ge 67, 3) := by decide +kernel
theorem dX1_goes_20 : decode cX1_goes 20 = .ok (.aload_n 0, 1) := by decide +kernel
theorem dX1_goes_21 : decode cX1_goes 21 = .ok (.getfield 32, 3) := by decide +kernel
theorem dX1_goes_24 : decode cX1_goes 24 = .ok (.aload_n 0, 1) := by decide +kernel
theorem dX1_goes_25 : decode cX1_goes 25 = .ok (.getfield 21, 3) := by decide +kernel
theorem dX1_goes_28 : decode cX1_goes 28 = .ok (.iload_n 1, 1) := by decide +kernel
theorem dX1_goes_29 : decode cX1_goes 29 = .ok (.iaload, 1) := by decide +kernel
theorem dX1_goes_30 : decode cX1_goes 30 = .ok (.iconst 1, 1) := by decide +kernel
theorem dX1_goes_31 : decode cX1_goes 31 = .ok (.iadd, 1) := by decide +kernel
theorem dX1_goes_32 : decode cX1_goes 32 = .ok (.ishr, 1) := by decide +kernel
theorem dX1_goes_33 : decode cX1_goes 33 = .ok (.iconst 1, 1) := by decide +kernel
theorem dX1_goes_34 : decode cX1_goes 34 = .ok (.iand, 1) := by decide +kernel
theorem dX1_goes_35 : decode cX1_goes 35 = .ok (.ifCond .eq 7, 3) := by decide +kernel
theorem dX1_goes_38 : decode cX1_goes 38 = .ok (.iconst 1, 1) := by decide +kernel
theorem dX1_goes_39 : decode cX1_goes 39 = .ok (.goto 4, 3) := by decide +kernel
theorem dX1_goes_42 : decode cX1_goes 42 = .ok (.iconst 0, 1) := by decide +kernel
theorem dX1_goes_43 : decode cX1_goes 43 = .ok (.istore 5, 2) := by decide +kernel
theorem dX1_goes_45 : decode cX1_goes 45 = .ok (.iload 5, 2) := by decide +kernel
theorem dX1_goes_47 : decode cX1_goes 47 = .ok (.ifCond .eq 8, 3) := by decide +kernel
theorem dX1_goes_50 : decode cX1_goes 50 = .ok (.iload_n 3, 1) := by decide +kernel
theorem dX1_goes_51 : decode cX1_goes 51 = .ok (.ifCond .ne 4, 3) := by decide +kernel
theorem dX1_goes_54 : decode cX1_goes 54 = .ok (.return_, 1) := by decide +kernel
theorem dX1_goes_55 : decode cX1_goes 55 = .ok (.aload_n 0, 1) := by decide +kernel
theorem dX1_goes_56 : decode cX1_goes 56 = .ok (.getfield 21, 3) := by decide +kernel
theorem dX1_goes_59 : decode cX1_goes 59 = .ok (.iload_n 1, 1) := by decide +kernel
theorem dX1_goes_60 : decode cX1_goes 60 = .ok (.dup2, 1) := by decide +kernel
theorem dX1_goes_61 : decode cX1_goes 61 = .ok (.iaload, 1) := by decide +kernel
theorem dX1_goes_62 : decode cX1_goes 62 = .ok (.iconst 1, 1) := by decide +kernel
theorem dX1_goes_63 : decode cX1_goes 63 = .ok (.iadd, 1) := by decide +kernel
theorem dX1_goes_64 : decode cX1_goes 64 = .ok (.iastore, 1) := by decide +kernel
theorem dX1_goes_65 : decode cX1_goes 65 = .ok (.iload 5, 2) := by decide +kernel
theorem dX1_goes_67 : decode cX1_goes 67 = .ok (.ifCond .eq 11, 3) := by decide +kernel
theorem dX1_goes_70 : decode cX1_goes 70 = .ok (.aload_n 0, 1) := by decide +kernel
theorem dX1_goes_71 : decode cX1_goes 71 = .ok (.getfield 24, 3) := by decide +kernel
theorem dX1_goes_74 : decode cX1_goes 74 = .ok (.iload_n 1, 1) := by decide +kernel
theorem dX1_goes_75 : decode cX1_goes 75 = .ok (.iconst 1, 1) := by decide +kernel
theorem dX1_goes_76 : decode cX1_goes 76 = .ok (.bastore, 1) := by decide +kernel
theorem dX1_goes_77 : decode cX1_goes 77 = .ok (.return_, 1) := by decide +kernel
theorem dX1_goes_78 : decode cX1_goes 78 = .ok (.iinc 4 1, 3) := by decide +kernel
theorem dX1_goes_81 : decode cX1_goes 81 = .ok (.goto (-78), 3) := by decide +kernel
theorem dX1_goes_84 : decode cX1_goes 84 = .ok (.return_, 1) := by decide +kernel
theorem dX1_through_0 : decode cX1_through 0 = .ok (.iconst 0, 1) := by decide +kernel
theorem dX1_through_1 : decode cX1_through 1 = .ok (.istore_n 1, 1) := by decide +kernel
theorem dX1_through_2 : decode cX1_through 2 = .ok (.iconst 0, 1) := by decide +kernel
theorem dX1_through_3 : decode cX1_through 3 = .ok (.istore_n 2, 1) := by decide +kernel
theorem dX1_through_4 : decode cX1_through 4 = .ok (.iload_n 2, 1) := by decide +kernel
theorem dX1_through_5 : decode cX1_through 5 = .ok (.aload_n 0, 1) := by decide +kernel
theorem dX1_through_6 : decode cX1_through 6 = .ok (.getfield 28, 3) := by decide +kernel
theorem dX1_through_9 : decode cX1_through 9 = .ok (.if_icmp .ge 26, 3) := by decide +kernel
theorem dX1_through_12 : decode cX1_through 12 = .ok (.aload_n 0, 1) := by decide +kernel
theorem dX1_through_13 : decode cX1_through 13 = .ok (.getfield 21, 3) := by decide +kernel
theorem dX1_through_16 : decode cX1_through 16 = .ok (.iload_n 2, 1) := by decide +kernel
theorem dX1_through_17 : decode cX1_through 17 = .ok (.iaload, 1) := by decide +kernel
theorem dX1_through_18 : decode cX1_through 18 = .ok (.bipush 15, 2) := by decide +kernel
theorem dX1_through_20 : decode cX1_through 20 = .ok (.if_icmp .ne 9, 3) := by decide +kernel
theorem dX1_through_23 : decode cX1_through 23 = .ok (.iload_n 1, 1) := by decide +kernel
theorem dX1_through_24 : decode cX1_through 24 = .ok (.iconst 1, 1) := by decide +kernel
theorem dX1_through_25 : decode cX1_through 25 = .ok (.iload_n 2, 1) := by decide +kernel
theorem dX1_through_26 : decode cX1_through 26 = .ok (.ishl, 1) := by decide +kernel
theorem dX1_through_27 : decode cX1_through 27 = .ok (.ior, 1) := by decide +kernel
theorem dX1_through_28 : decode cX1_through 28 = .ok (.istore_n 1, 1) := by decide +kernel
theorem dX1_through_29 : decode cX1_through 29 = .ok (.iinc 2 1, 3) := by decide +kernel
theorem dX1_through_32 : decode cX1_through 32 = .ok (.goto (-28), 3) := by decide +kernel
theorem dX1_through_35 : decode cX1_through 35 = .ok (.iload_n 1, 1) := by decide +kernel
theorem dX1_through_36 : decode cX1_through 36 = .ok (.ireturn, 1) := by decide +kernel
theorem dX1_howManyAre_0 : decode cX1_howManyAre 0 = .ok (.iconst 0, 1) := by decide +kernel
theorem dX1_howManyAre_1 : decode cX1_howManyAre 1 = .ok (.istore 4, 2) := by decide +kernel
theorem dX1_howManyAre_3 : decode cX1_howManyAre 3 = .ok (.iload 4, 2) := by decide +kernel
theorem dX1_howManyAre_5 : decode cX1_howManyAre 5 = .ok (.iload_n 3, 1) := by decide +kernel
theorem dX1_howManyAre_6 : decode cX1_howManyAre 6 = .ok (.if_icmp .ge 29, 3) := by decide +kernel
theorem dX1_howManyAre_9 : decode cX1_howManyAre 9 = .ok (.iload 4, 2) := by decide +kernel
theorem dX1_howManyAre_11 : decode cX1_howManyAre 11 = .ok (.aload_n 0, 1) := by decide +kernel
theorem dX1_howManyAre_12 : decode cX1_howManyAre 12 = .ok (.getfield 28, 3) := by decide +kernel
theorem dX1_howManyAre_15 : decode cX1_howManyAre 15 = .ok (.if_icmp .ge 20, 3) := by decide +kernel
theorem dX1_howManyAre_18 : decode cX1_howManyAre 18 = .ok (.aload_n 2, 1) := by decide +kernel
theorem dX1_howManyAre_19 : decode cX1_howManyAre 19 = .ok (.iload 4, 2) := by decide +kernel
theorem dX1_howManyAre_21 : decode cX1_howManyAre 21 = .ok (.iaload, 1) := by decide +kernel
theorem dX1_howManyAre_22 : decode cX1_howManyAre 22 = .ok (.aload_n 1, 1) := by decide +kernel
theorem dX1_howManyAre_23 : decode cX1_howManyAre 23 = .ok (.iload 4, 2) := by decide +kernel
theorem dX1_howManyAre_25 : decode cX1_howManyAre 25 = .ok (.iaload, 1) := by decide +kernel
theorem dX1_howManyAre_26 : decode cX1_howManyAre 26 = .ok (.if_icmp .ne 9, 3) := by decide +kernel
theorem dX1_howManyAre_29 : decode cX1_howManyAre 29 = .ok (.iinc 4 1, 3) := by decide +kernel
theorem dX1_howManyAre_32 : decode cX1_howManyAre 32 = .ok (.goto (-29), 3) := by decide +kernel
theorem dX1_howManyAre_35 : decode cX1_howManyAre 35 = .ok (.iload 4, 2) := by decide +kernel
theorem dX1_howManyAre_37 : decode cX1_howManyAre 37 = .ok (.ireturn, 1) := by decide +kernel
theorem dX2_init_0 : decode cX2_init 0 = .ok (.aload_n 0, 1) := by decide +kernel
theorem dX2_init_1 : decode cX2_init 1 = .ok (.invokespecial 3, 3) := by decide +kernel
theorem dX2_init_4 : decode cX2_init 4 = .ok (.aload_n 0, 1) := by decide +kernel
theorem dX2_init_5 : decode cX2_init 5 = .ok (.bipush 60, 2) := by decide +kernel
theorem dX2_init_7 : decode cX2_init 7 = .ok (.newarray .int, 2) := by decide +kernel
theorem dX2_init_9 : decode cX2_init 9 = .ok (.putfield 9, 3) := by decide +kernel
theorem dX2_init_12 : decode cX2_init 12 = .ok (.aload_n 0, 1) := by decide +kernel
theorem dX2_init_13 : decode cX2_init 13 = .ok (.iconst 0, 1) := by decide +kernel
theorem dX2_init_14 : decode cX2_init 14 = .ok (.putfield 15, 3) := by decide +kernel
theorem dX2_init_17 : decode cX2_init 17 = .ok (.aload_n 0, 1) := by decide +kernel
theorem dX2_init_18 : decode cX2_init 18 = .ok (.iconst 0, 1) := by decide +kernel
theorem dX2_init_19 : decode cX2_init 19 = .ok (.putfield 19, 3) := by decide +kernel
theorem dX2_init_22 : decode cX2_init 22 = .ok (.aload_n 0, 1) := by decide +kernel
theorem dX2_init_23 : decode cX2_init 23 = .ok (.iconst 0, 1) := by decide +kernel
theorem dX2_init_24 : decode cX2_init 24 = .ok (.putfield 22, 3) := by decide +kernel
theorem dX2_init_27 : decode cX2_init 27 = .ok (.aload_n 0, 1) := by decide +kernel
theorem dX2_init_28 : decode cX2_init 28 = .ok (.ldc 25, 2) := by decide +kernel
theorem dX2_init_30 : decode cX2_init 30 = .ok (.putfield 27, 3) := by decide +kernel
theorem dX2_init_33 : decode cX2_init 33 = .ok (.aload_n 0, 1) := by decide +kernel
theorem dX2_init_34 : decode cX2_init 34 = .ok (.aload_n 1, 1) := by decide +kernel
theorem dX2_init_35 : decode cX2_init 35 = .ok (.putfield 31, 3) := by decide +kernel
theorem dX2_init_38 : decode cX2_init 38 = .ok (.return_, 1) := by decide +kernel
theorem dX2_faultOf_0 : decode cX2_faultOf 0 = .ok (.aload_n 0, 1) := by decide +kernel
theorem dX2_faultOf_1 : decode cX2_faultOf 1 = .ok (.iload_n 1, 1) := by decide +kernel
theorem dX2_faultOf_2 : decode cX2_faultOf 2 = .ok (.putfield 19, 3) := by decide +kernel
theorem dX2_faultOf_5 : decode cX2_faultOf 5 = .ok (.aload_n 0, 1) := by decide +kernel
theorem dX2_faultOf_6 : decode cX2_faultOf 6 = .ok (.iload_n 2, 1) := by decide +kernel
theorem dX2_faultOf_7 : decode cX2_faultOf 7 = .ok (.ifCond .ne 8, 3) := by decide +kernel
theorem dX2_faultOf_10 : decode cX2_faultOf 10 = .ok (.ldc 34, 2) := by decide +kernel
theorem dX2_faultOf_12 : decode cX2_faultOf 12 = .ok (.goto 5, 3) := by decide +kernel
theorem dX2_faultOf_15 : decode cX2_faultOf 15 = .ok (.ldc 36, 2) := by decide +kernel
theorem dX2_faultOf_17 : decode cX2_faultOf 17 = .ok (.putfield 27, 3) := by decide +kernel
theorem dX2_faultOf_20 : decode cX2_faultOf 20 = .ok (.aload_n 0, 1) := by decide +kernel
theorem dX2_faultOf_21 : decode cX2_faultOf 21 = .ok (.iconst 0, 1) := by decide +kernel
theorem dX2_faultOf_22 : decode cX2_faultOf 22 = .ok (.putfield 22, 3) := by decide +kernel
theorem dX2_faultOf_25 : decode cX2_faultOf 25 = .ok (.aload_n 0, 1) := by decide +kernel
theorem dX2_faultOf_26 : decode cX2_faultOf 26 = .ok (.iconst 0, 1) := by decide +kernel
theorem dX2_faultOf_27 : decode cX2_faultOf 27 = .ok (.putfield 15, 3) := by decide +kernel
theorem dX2_faultOf_30 : decode cX2_faultOf 30 = .ok (.aload_n 0, 1) := by decide +kernel
theorem dX2_faultOf_31 : decode cX2_faultOf 31 = .ok (.iconst 0, 1) := by decide +kernel
theorem dX2_faultOf_32 : decode cX2_faultOf 32 = .ok (.iconst 0, 1) := by decide +kernel
theorem dX2_faultOf_33 : decode cX2_faultOf 33 = .ok (.invokevirtual 38, 3) := by decide +kernel
theorem dX2_faultOf_36 : decode cX2_faultOf 36 = .ok (.ifCond .eq 18, 3) := by decide +kernel
theorem dX2_faultOf_39 : decode cX2_faultOf 39 = .ok (.aload_n 0, 1) := by decide +kernel
theorem dX2_faultOf_40 : decode cX2_faultOf 40 = .ok (.getfield 22, 3) := by decide +kernel
theorem dX2_faultOf_43 : decode cX2_faultOf 43 = .ok (.aload_n 0, 1) := by decide +kernel
theorem dX2_faultOf_44 : decode cX2_faultOf 44 = .ok (.getfield 19, 3) := by decide +kernel
theorem dX2_faultOf_47 : decode cX2_faultOf 47 = .ok (.if_icmp .ne 7, 3) := by decide +kernel
theorem dX2_faultOf_50 : decode cX2_faultOf 50 = .ok (.iconst (-1), 1) := by decide +kernel
theorem dX2_faultOf_51 : decode cX2_faultOf 51 = .ok (.goto 7, 3) := by decide +kernel
theorem dX2_faultOf_54 : decode cX2_faultOf 54 = .ok (.aload_n 0, 1) := by decide +kernel
theorem dX2_faultOf_55 : decode cX2_faultOf 55 = .ok (.getfield 22, 3) := by decide +kernel
theorem dX2_faultOf_58 : decode cX2_faultOf 58 = .ok (.ireturn, 1) := by decide +kernel
theorem dX2_reads_0 : decode cX2_reads 0 = .ok (.iload_n 1, 1) := by decide +kernel
theorem dX2_reads_1 : decode cX2_reads 1 = .ok (.iconst 5, 1) := by decide +kernel
theorem dX2_reads_2 : decode cX2_reads 2 = .ok (.if_icmp .lt 9, 3) := by decide +kernel
theorem dX2_reads_5 : decode cX2_reads 5 = .ok (.aload_n 0, 1) := by decide +kernel
theorem dX2_reads_6 : decode cX2_reads 6 = .ok (.iload_n 2, 1) := by decide +kernel
theorem dX2_reads_7 : decode cX2_reads 7 = .ok (.invokevirtual 42, 3) := by decide +kernel
theorem dX2_reads_10 : decode cX2_reads 10 = .ok (.ireturn, 1) := by decide +kernel
theorem dX2_reads_11 : decode cX2_reads 11 = .ok (.aload_n 0, 1) := by decide +kernel
theorem dX2_reads_12 : decode cX2_reads 12 = .ok (.iload_n 1, 1) := by decide +kernel
theorem dX2_reads_13 : decode cX2_reads 13 = .ok (.iconst 1, 1) := by decide +kernel
theorem dX2_reads_14 : decode cX2_reads 14 = .ok (.iadd, 1) := by decide +kernel
theorem dX2_reads_15 : decode cX2_reads 15 = .ok (.iload_n 2, 1) := by decide +kernel
theorem dX2_reads_16 : decode cX2_reads 16 = .ok (.invokevirtual 38, 3) := by decide +kernel
theorem dX2_reads_19 : decode cX2_reads 19 = .ok (.ifCond .ne 5, 3) := by decide +kernel
theorem dX2_reads_22 : decode cX2_reads 22 = .ok (.iconst 0, 1) := by decide +kernel
theorem dX2_reads_23 : decode cX2_reads 23 = .ok (.ireturn, 1) := by decide +kernel
theorem dX2_reads_24 : decode cX2_reads 24 = .ok (.iconst 0, 1) := by decide +kernel
theorem dX2_reads_25 : decode cX2_reads 25 = .ok (.istore_n 3, 1) := by decide +kernel
theorem dX2_reads_26 : decode cX2_reads 26 = .ok (.iload_n 3, 1) := by decide +kernel
theorem dX2_reads_27 : decode cX2_reads 27 = .ok (.bipush 60, 2) := by decide +kernel
theorem dX2_reads_29 : decode cX2_reads 29 = .ok (.if_icmp .ge 63, 3) := by decide +kernel
theorem dX2_reads_32 : decode cX2_reads 32 = .ok (.aload_n 0, 1) := by decide +kernel
theorem dX2_reads_33 : decode cX2_reads 33 = .ok (.invokevirtual 46, 3) := by decide +kernel
theorem dX2_reads_36 : decode cX2_reads 36 = .ok (.invokestatic 50, 3) := by decide +kernel
theorem dX2_reads_39 : decode cX2_reads 39 = .ok (.iload_n 1, 1) := by decide +kernel
theorem dX2_reads_40 : decode cX2_reads 40 = .ok (.if_icmp .ne 52, 3) := by decide +kernel
theorem dX2_reads_43 : decode cX2_reads 43 = .ok (.aload_n 0, 1) := by decide +kernel
theorem dX2_reads_44 : decode cX2_reads 44 = .ok (.invokevirtual 46, 3) := by decide +kernel
theorem dX2_reads_47 : decode cX2_reads 47 = .ok (.istore 4, 2) := by decide +kernel
theorem dX2_reads_49 : decode cX2_reads 49 = .ok (.aload_n 0, 1) := by decide +kernel
theorem dX2_reads_50 : decode cX2_reads 50 = .ok (.dup, 1) := by decide +kernel
theorem dX2_reads_51 : decode cX2_reads 51 = .ok (.getfield 22, 3) := by decide +kernel
theorem dX2_reads_54 : decode cX2_reads 54 = .ok (.iconst 1, 1) := by decide +kernel
theorem dX2_reads_55 : decode cX2_reads 55 = .ok (.iadd, 1) := by decide +kernel
theorem dX2_reads_56 : decode cX2_reads 56 = .ok (.putfield 22, 3) := by decide +kernel
theorem dX2_reads_59 : decode cX2_reads 59 = .ok (.aload_n 0, 1) := by decide +kernel
theorem dX2_reads_60 : decode cX2_reads 60 = .ok (.iload_n 1, 1) := by decide +kernel
theorem dX2_reads_61 : decode cX2_reads 61 = .ok (.iconst 1, 1) := by decide +kernel
theorem dX2_reads_62 : decode cX2_reads 62 = .ok (.iadd, 1) := by decide +kernel
theorem dX2_reads_63 : decode cX2_reads 63 = .ok (.iload_n 2, 1) := by decide +kernel
theorem dX2_reads_64 : decode cX2_reads 64 = .ok (.invokevirtual 38, 3) := by decide +kernel
theorem dX2_reads_67 : decode cX2_reads 67 = .ok (.ifCond .ne 5, 3) := by decide +kernel
theorem dX2_reads_70 : decode cX2_reads 70 = .ok (.iconst 0, 1) := by decide +kernel
theorem dX2_reads_71 : decode cX2_reads 71 = .ok (.ireturn, 1) := by decide +kernel
theorem dX2_reads_72 : decode cX2_reads 72 = .ok (.aload_n 0, 1) := by decide +kernel
theorem dX2_reads_73 : decode cX2_reads 73 = .ok (.iload 4, 2) := by decide +kernel
theorem dX2_reads_75 : decode cX2_reads 75 = .ok (.ineg, 1) := by decide +kernel
theorem dX2_reads_76 : decode cX2_reads 76 = .ok (.invokevirtual 54, 3) := by decide +kernel
theorem dX2_reads_79 : decode cX2_reads 79 = .ok (.iload_n 1, 1) := by decide +kernel
theorem dX2_reads_80 : decode cX2_reads 80 = .ok (.iconst 2, 1) := by decide +kernel
theorem dX2_reads_81 : decode cX2_reads 81 = .ok (.if_icmp .ne 5, 3) := by decide +kernel
theorem dX2_reads_84 : decode cX2_reads 84 = .ok (.iconst 1, 1) := by decide +kernel
theorem dX2_reads_85 : decode cX2_reads 85 = .ok (.ireturn, 1) := by decide +kernel
theorem dX2_reads_86 : decode cX2_reads 86 = .ok (.iinc 3 1, 3) := by decide +kernel
theorem dX2_reads_89 : decode cX2_reads 89 = .ok (.goto (-63), 3) := by decide +kernel
theorem dX2_reads_92 : decode cX2_reads 92 = .ok (.iconst 1, 1) := by decide +kernel
theorem dX2_reads_93 : decode cX2_reads 93 = .ok (.ireturn, 1) := by decide +kernel
theorem dX2_readsUnit_0 : decode cX2_readsUnit 0 = .ok (.aload_n 0, 1) := by decide +kernel
theorem dX2_readsUnit_1 : decode cX2_readsUnit 1 = .ok (.invokevirtual 46, 3) := by decide +kernel
theorem dX2_readsUnit_4 : decode cX2_readsUnit 4 = .ok (.istore_n 2, 1) := by decide +kernel
theorem dX2_readsUnit_5 : decode cX2_readsUnit 5 = .ok (.iload_n 2, 1) := by decide +kernel
theorem dX2_readsUnit_6 : decode cX2_readsUnit 6 = .ok (.invokestatic 58, 3) := by decide +kernel
theorem dX2_readsUnit_9 : decode cX2_readsUnit 9 = .ok (.ifCond .eq 8, 3) := by decide +kernel
theorem dX2_readsUnit_12 : decode cX2_readsUnit 12 = .ok (.aload_n 0, 1) := by decide +kernel
theorem dX2_readsUnit_13 : decode cX2_readsUnit 13 = .ok (.invokevirtual 61, 3) := by decide +kernel
theorem dX2_readsUnit_16 : decode cX2_readsUnit 16 = .ok (.ireturn, 1) := by decide +kernel
theorem dX2_readsUnit_17 : decode cX2_readsUnit 17 = .ok (.iload_n 2, 1) := by decide +kernel
theorem dX2_readsUnit_18 : decode cX2_readsUnit 18 = .ok (.ifCond .ge 7, 3) := by decide +kernel
theorem dX2_readsUnit_21 : decode cX2_readsUnit 21 = .ok (.iconst (-1), 1) := by decide +kernel
theorem dX2_readsUnit_22 : decode cX2_readsUnit 22 = .ok (.goto 12, 3) := by decide +kernel
theorem dX2_readsUnit_25 : decode cX2_readsUnit 25 = .ok (.aload_n 0, 1) := by decide +kernel
theorem dX2_readsUnit_26 : decode cX2_readsUnit 26 = .ok (.getfield 27, 3) := by decide +kernel
theorem dX2_readsUnit_29 : decode cX2_readsUnit 29 = .ok (.iload_n 2, 1) := by decide +kernel
theorem dX2_readsUnit_30 : decode cX2_readsUnit 30 = .ok (.i2c, 1) := by decide +kernel
theorem dX2_readsUnit_31 : decode cX2_readsUnit 31 = .ok (.invokevirtual 65, 3) := by decide +kernel
theorem dX2_readsUnit_34 : decode cX2_readsUnit 34 = .ok (.istore_n 3, 1) := by decide +kernel
theorem dX2_readsUnit_35 : decode cX2_readsUnit 35 = .ok (.iload_n 3, 1) := by decide +kernel
theorem dX2_readsUnit_36 : decode cX2_readsUnit 36 = .ok (.ifCond .lt 24, 3) := by decide +kernel
theorem dX2_readsUnit_39 : decode cX2_readsUnit 39 = .ok (.aload_n 0, 1) := by decide +kernel
theorem dX2_readsUnit_40 : decode cX2_readsUnit 40 = .ok (.dup, 1) := by decide +kernel
theorem dX2_readsUnit_41 : decode cX2_readsUnit 41 = .ok (.getfield 22, 3) := by decide +kernel
theorem dX2_readsUnit_44 : decode cX2_readsUnit 44 = .ok (.iconst 1, 1) := by decide +kernel
theorem dX2_readsUnit_45 : decode cX2_readsUnit 45 = .ok (.iadd, 1) := by decide +kernel
theorem dX2_readsUnit_46 : decode cX2_readsUnit 46 = .ok (.putfield 22, 3) := by decide +kernel
theorem dX2_readsUnit_49 : decode cX2_readsUnit 49 = .ok (.aload_n 0, 1) := by decide +kernel
theorem dX2_readsUnit_50 : decode cX2_readsUnit 50 = .ok (.sipush 10000, 3) := by decide +kernel
theorem dX2_readsUnit_53 : decode cX2_readsUnit 53 = .ok (.iload_n 3, 1) := by decide +kernel
theorem dX2_readsUnit_54 : decode cX2_readsUnit 54 = .ok (.iadd, 1) := by decide +kernel
theorem dX2_readsUnit_55 : decode cX2_readsUnit 55 = .ok (.invokevirtual 54, 3) := by decide +kernel
theorem dX2_readsUnit_58 : decode cX2_readsUnit 58 = .ok (.iconst 1, 1) := by decide +kernel
theorem dX2_readsUnit_59 : decode cX2_readsUnit 59 = .ok (.ireturn, 1) := by decide +kernel
theorem dX2_readsUnit_60 : decode cX2_readsUnit 60 = .ok (.iload_n 2, 1) := by decide +kernel
theorem dX2_readsUnit_61 : decode cX2_readsUnit 61 = .ok (.bipush 33, 2) := by decide +kernel
theorem dX2_readsUnit_63 : decode cX2_readsUnit 63 = .ok (.if_icmp .eq 9, 3) := by decide +kernel
theorem dX2_readsUnit_66 : decode cX2_readsUnit 66 = .ok (.iload_n 2, 1) := by decide +kernel
theorem dX2_readsUnit_67 : decode cX2_readsUnit 67 = .ok (.bipush 40, 2) := by decide +kernel
theorem dX2_readsUnit_69 : decode cX2_readsUnit 69 = .ok (.if_icmp .ne 8, 3) := by decide +kernel
theorem dX2_readsUnit_72 : decode cX2_readsUnit 72 = .ok (.iload_n 1, 1) := by decide +kernel
theorem dX2_readsUnit_73 : decode cX2_readsUnit 73 = .ok (.iconst 5, 1) := by decide +kernel
theorem dX2_readsUnit_74 : decode cX2_readsUnit 74 = .ok (.if_icmp .lt 5, 3) := by decide +kernel
theorem dX2_readsUnit_77 : decode cX2_readsUnit 77 = .ok (.iconst 0, 1) := by decide +kernel
theorem dX2_readsUnit_78 : decode cX2_readsUnit 78 = .ok (.ireturn, 1) := by decide +kernel
theorem dX2_readsUnit_79 : decode cX2_readsUnit 79 = .ok (.aload_n 0, 1) := by decide +kernel
theorem dX2_readsUnit_80 : decode cX2_readsUnit 80 = .ok (.dup, 1) := by decide +kernel
theorem dX2_readsUnit_81 : decode cX2_readsUnit 81 = .ok (.getfield 22, 3) := by decide +kernel
theorem dX2_readsUnit_84 : decode cX2_readsUnit 84 = .ok (.iconst 1, 1) := by decide +kernel
theorem dX2_readsUnit_85 : decode cX2_readsUnit 85 = .ok (.iadd, 1) := by decide +kernel
theorem dX2_readsUnit_86 : decode cX2_readsUnit 86 = .ok (.putfield 22, 3) := by decide +kernel
theorem dX2_readsUnit_89 : decode cX2_readsUnit 89 = .ok (.iload_n 2, 1) := by decide +kernel
theorem dX2_readsUnit_90 : decode cX2_readsUnit 90 = .ok (.bipush 33, 2) := by decide +kernel
theorem dX2_readsUnit_92 : decode cX2_readsUnit 92 = .ok (.if_icmp .ne 13, 3) := by decide +kernel
theorem dX2_readsUnit_95 : decode cX2_readsUnit 95 = .ok (.aload_n 0, 1) := by decide +kernel
theorem dX2_readsUnit_96 : decode cX2_readsUnit 96 = .ok (.iload_n 1, 1) := by decide +kernel
theorem dX2_readsUnit_97 : decode cX2_readsUnit 97 = .ok (.iconst 1, 1) := by decide +kernel
theorem dX2_readsUnit_98 : decode cX2_readsUnit 98 = .ok (.iadd, 1) := by decide +kernel
theorem dX2_readsUnit_99 : decode cX2_readsUnit 99 = .ok (.invokevirtual 72, 3) := by decide +kernel
theorem dX2_readsUnit_102 : decode cX2_readsUnit 102 = .ok (.goto 10, 3) := by decide +kernel
theorem dX2_readsUnit_105 : decode cX2_readsUnit 105 = .ok (.aload_n 0, 1) := by decide +kernel
theorem dX2_readsUnit_106 : decode cX2_readsUnit 106 = .ok (.iload_n 1, 1) := by decide +kernel
theorem dX2_readsUnit_107 : decode cX2_readsUnit 107 = .ok (.iconst 1, 1) := by decide +kernel
theorem dX2_readsUnit_108 : decode cX2_readsUnit 108 = .ok (.iadd, 1) := by decide +kernel
theorem dX2_readsUnit_109 : decode cX2_readsUnit 109 = .ok (.invokevirtual 75, 3) := by decide +kernel
theorem dX2_readsUnit_112 : decode cX2_readsUnit 112 = .ok (.ireturn, 1) := by decide +kernel
theorem dX2_readsNumber_0 : decode cX2_readsNumber 0 = .ok (.iconst 0, 1) := by decide +kernel
theorem dX2_readsNumber_1 : decode cX2_readsNumber 1 = .ok (.istore_n 1, 1) := by decide +kernel
theorem dX2_readsNumber_2 : decode cX2_readsNumber 2 = .ok (.iconst 0, 1) := by decide +kernel
theorem dX2_readsNumber_3 : decode cX2_readsNumber 3 = .ok (.istore_n 2, 1) := by decide +kernel
theorem dX2_readsNumber_4 : decode cX2_readsNumber 4 = .ok (.iload_n 2, 1) := by decide +kernel
theorem dX2_readsNumber_5 : decode cX2_readsNumber 5 = .ok (.iconst 4, 1) := by decide +kernel
theorem dX2_readsNumber_6 : decode cX2_readsNumber 6 = .ok (.if_icmp .ge 42, 3) := by decide +kernel
theorem dX2_readsNumber_9 : decode cX2_readsNumber 9 = .ok (.aload_n 0, 1) := by decide +kernel
theorem dX2_readsNumber_10 : decode cX2_readsNumber 10 = .ok (.invokevirtual 46, 3) := by decide +kernel
theorem dX2_readsNumber_13 : decode cX2_readsNumber 13 = .ok (.invokestatic 58, 3) := by decide +kernel
theorem dX2_readsNumber_16 : decode cX2_readsNumber 16 = .ok (.ifCond .eq 32, 3) := by decide +kernel
theorem dX2_readsNumber_19 : decode cX2_readsNumber 19 = .ok (.iload_n 1, 1) := by decide +kernel
theorem dX2_readsNumber_20 : decode cX2_readsNumber 20 = .ok (.bipush 10, 2) := by decide +kernel
theorem dX2_readsNumber_22 : decode cX2_readsNumber 22 = .ok (.imul, 1) := by decide +kernel
theorem dX2_readsNumber_23 : decode cX2_readsNumber 23 = .ok (.aload_n 0, 1) := by decide +kernel
theorem dX2_readsNumber_24 : decode cX2_readsNumber 24 = .ok (.invokevirtual 46, 3) := by decide +kernel
theorem dX2_readsNumber_27 : decode cX2_readsNumber 27 = .ok (.iadd, 1) := by decide +kernel
theorem dX2_readsNumber_28 : decode cX2_readsNumber 28 = .ok (.bipush 48, 2) := by decide +kernel
theorem dX2_readsNumber_30 : decode cX2_readsNumber 30 = .ok (.isub, 1) := by decide +kernel
theorem dX2_readsNumber_31 : decode cX2_readsNumber 31 = .ok (.istore_n 1, 1) := by decide +kernel
theorem dX2_readsNumber_32 : decode cX2_readsNumber 32 = .ok (.aload_n 0, 1) := by decide +kernel
theorem dX2_readsNumber_33 : decode cX2_readsNumber 33 = .ok (.dup, 1) := by decide +kernel
theorem dX2_readsNumber_34 : decode cX2_readsNumber 34 = .ok (.getfield 22, 3) := by decide +kernel
theorem dX2_readsNumber_37 : decode cX2_readsNumber 37 = .ok (.iconst 1, 1) := by decide +kernel
theorem dX2_readsNumber_38 : decode cX2_readsNumber 38 = .ok (.iadd, 1) := by decide +kernel
theorem dX2_readsNumber_39 : decode cX2_readsNumber 39 = .ok (.putfield 22, 3) := by decide +kernel
theorem dX2_readsNumber_42 : decode cX2_readsNumber 42 = .ok (.iinc 2 1, 3) := by decide +kernel
theorem dX2_readsNumber_45 : decode cX2_readsNumber 45 = .ok (.goto (-41), 3) := by decide +kernel
theorem dX2_readsNumber_48 : decode cX2_readsNumber 48 = .ok (.aload_n 0, 1) := by decide +kernel
theorem dX2_readsNumber_49 : decode cX2_readsNumber 49 = .ok (.iload_n 1, 1) := by decide +kernel
theorem dX2_readsNumber_50 : decode cX2_readsNumber 50 = .ok (.invokevirtual 54, 3) := by decide +kernel
theorem dX2_readsNumber_53 : decode cX2_readsNumber 53 = .ok (.iconst 1, 1) := by decide +kernel
theorem dX2_readsNumber_54 : decode cX2_readsNumber 54 = .ok (.ireturn, 1) := by decide +kernel
theorem dX2_readsNot_0 : decode cX2_readsNot 0 = .ok (.aload_n 0, 1) := by decide +kernel
theorem dX2_readsNot_1 : decode cX2_readsNot 1 = .ok (.iload_n 1, 1) := by decide +kernel
theorem dX2_readsNot_2 : decode cX2_readsNot 2 = .ok (.invokevirtual 42, 3) := by decide +kernel
theorem dX2_readsNot_5 : decode cX2_readsNot 5 = .ok (.ifCond .ne 5, 3) := by decide +kernel
theorem dX2_readsNot_8 : decode cX2_readsNot 8 = .ok (.iconst 0, 1) := by decide +kernel
theorem dX2_readsNot_9 : decode cX2_readsNot 9 = .ok (.ireturn, 1) := by decide +kernel
theorem dX2_readsNot_10 : decode cX2_readsNot 10 = .ok (.aload_n 0, 1) := by decide +kernel
theorem dX2_readsNot_11 : decode cX2_readsNot 11 = .ok (.bipush (-33), 2) := by decide +kernel
theorem dX2_readsNot_13 : decode cX2_readsNot 13 = .ok (.invokevirtual 54, 3) := by decide +kernel
theorem dX2_readsNot_16 : decode cX2_readsNot 16 = .ok (.iconst 1, 1) := by decide +kernel
theorem dX2_readsNot_17 : decode cX2_readsNot 17 = .ok (.ireturn, 1) := by decide +kernel
theorem dX2_readsInner_0 : decode cX2_readsInner 0 = .ok (.aload_n 0, 1) := by decide +kernel
theorem dX2_readsInner_1 : decode cX2_readsInner 1 = .ok (.iconst 0, 1) := by decide +kernel
theorem dX2_readsInner_2 : decode cX2_readsInner 2 = .ok (.iload_n 1, 1) := by decide +kernel
theorem dX2_readsInner_3 : decode cX2_readsInner 3 = .ok (.invokevirtual 38, 3) := by decide +kernel
theorem dX2_readsInner_6 : decode cX2_readsInner 6 = .ok (.ifCond .eq 12, 3) := by decide +kernel
theorem dX2_readsInner_9 : decode cX2_readsInner 9 = .ok (.aload_n 0, 1) := by decide +kernel
theorem dX2_readsInner_10 : decode cX2_readsInner 10 = .ok (.invokevirtual 46, 3) := by decide +kernel
theorem dX2_readsInner_13 : decode cX2_readsInner 13 = .ok (.bipush 41, 2) := by decide +kernel
theorem dX2_readsInner_15 : decode cX2_readsInner 15 = .ok (.if_icmp .eq 5, 3) := by decide +kernel
theorem dX2_readsInner_18 : decode cX2_readsInner 18 = .ok (.iconst 0, 1) := by decide +kernel
theorem dX2_readsInner_19 : decode cX2_readsInner 19 = .ok (.ireturn, 1) := by decide +kernel
theorem dX2_readsInner_20 : decode cX2_readsInner 20 = .ok (.aload_n 0, 1) := by decide +kernel
theorem dX2_readsInner_21 : decode cX2_readsInner 21 = .ok (.dup, 1) := by decide +kernel
theorem dX2_readsInner_22 : decode cX2_readsInner 22 = .ok (.getfield 22, 3) := by decide +kernel
theorem dX2_readsInner_25 : decode cX2_readsInner 25 = .ok (.iconst 1, 1) := by decide +kernel
theorem dX2_readsInner_26 : decode cX2_readsInner 26 = .ok (.iadd, 1) := by decide +kernel
theorem dX2_readsInner_27 : decode cX2_readsInner 27 = .ok (.putfield 22, 3) := by decide +kernel
theorem dX2_readsInner_30 : decode cX2_readsInner 30 = .ok (.iconst 1, 1) := by decide +kernel
theorem dX2_readsInner_31 : decode cX2_readsInner 31 = .ok (.ireturn, 1) := by decide +kernel
theorem dX2_next_0 : decode cX2_next 0 = .ok (.aload_n 0, 1) := by decide +kernel
theorem dX2_next_1 : decode cX2_next 1 = .ok (.getfield 22, 3) := by decide +kernel
theorem dX2_next_4 : decode cX2_next 4 = .ok (.aload_n 0, 1) := by decide +kernel
theorem dX2_next_5 : decode cX2_next 5 = .ok (.getfield 19, 3) := by decide +kernel
theorem dX2_next_8 : decode cX2_next 8 = .ok (.if_icmp .ge 15, 3) := by decide +kernel
theorem dX2_next_11 : decode cX2_next 11 = .ok (.aload_n 0, 1) := by decide +kernel
theorem dX2_next_12 : decode cX2_next 12 = .ok (.getfield 31, 3) := by decide +kernel
theorem dX2_next_15 : decode cX2_next 15 = .ok (.aload_n 0, 1) := by decide +kernel
theorem dX2_next_16 : decode cX2_next 16 = .ok (.getfield 22, 3) := by decide +kernel
theorem dX2_next_19 : decode cX2_next 19 = .ok (.iaload, 1) := by decide +kernel
theorem dX2_next_20 : decode cX2_next 20 = .ok (.goto 4, 3) := by decide +kernel
theorem dX2_next_23 : decode cX2_next 23 = .ok (.iconst (-1), 1) := by decide +kernel
theorem dX2_next_24 : decode cX2_next 24 = .ok (.ireturn, 1) := by decide +kernel
theorem dX2_writes_0 : decode cX2_writes 0 = .ok (.aload_n 0, 1) := by decide +kernel
theorem dX2_writes_1 : decode cX2_writes 1 = .ok (.getfield 15, 3) := by decide +kernel
theorem dX2_writes_4 : decode cX2_writes 4 = .ok (.bipush 60, 2) := by decide +kernel
theorem dX2_writes_6 : decode cX2_writes 6 = .ok (.if_icmp .ge 23, 3) := by decide +kernel
theorem dX2_writes_9 : decode cX2_writes 9 = .ok (.aload_n 0, 1) := by decide +kernel
theorem dX2_writes_10 : decode cX2_writes 10 = .ok (.getfield 9, 3) := by decide +kernel
theorem dX2_writes_13 : decode cX2_writes 13 = .ok (.aload_n 0, 1) := by decide +kernel
theorem dX2_writes_14 : decode cX2_writes 14 = .ok (.getfield 15, 3) := by decide +kernel
theorem dX2_writes_17 : decode cX2_writes 17 = .ok (.iload_n 1, 1) := by decide +kernel
theorem dX2_writes_18 : decode cX2_writes 18 = .ok (.iastore, 1) := by decide +kernel
theorem dX2_writes_19 : decode cX2_writes 19 = .ok (.aload_n 0, 1) := by decide +kernel
theorem dX2_writes_20 : decode cX2_writes 20 = .ok (.dup, 1) := by decide +kernel
theorem dX2_writes_21 : decode cX2_writes 21 = .ok (.getfield 15, 3) := by decide +kernel
theorem dX2_writes_24 : decode cX2_writes 24 = .ok (.iconst 1, 1) := by decide +kernel
theorem dX2_writes_25 : decode cX2_writes 25 = .ok (.iadd, 1) := by decide +kernel
theorem dX2_writes_26 : decode cX2_writes 26 = .ok (.putfield 15, 3) := by decide +kernel
theorem dX2_writes_29 : decode cX2_writes 29 = .ok (.return_, 1) := by decide +kernel
theorem dX2_isDigit_0 : decode cX2_isDigit 0 = .ok (.iload_n 0, 1) := by decide +kernel
theorem dX2_isDigit_1 : decode cX2_isDigit 1 = .ok (.bipush 48, 2) := by decide +kernel
theorem dX2_isDigit_3 : decode cX2_isDigit 3 = .ok (.if_icmp .lt 13, 3) := by decide +kernel
theorem dX2_isDigit_6 : decode cX2_isDigit 6 = .ok (.iload_n 0, 1) := by decide +kernel
theorem dX2_isDigit_7 : decode cX2_isDigit 7 = .ok (.bipush 57, 2) := by decide +kernel
theorem dX2_isDigit_9 : decode cX2_isDigit 9 = .ok (.if_icmp .gt 7, 3) := by decide +kernel
theorem dX2_isDigit_12 : decode cX2_isDigit 12 = .ok (.iconst 1, 1) := by decide +kernel
theorem dX2_isDigit_13 : decode cX2_isDigit 13 = .ok (.goto 4, 3) := by decide +kernel
theorem dX2_isDigit_16 : decode cX2_isDigit 16 = .ok (.iconst 0, 1) := by decide +kernel
theorem dX2_isDigit_17 : decode cX2_isDigit 17 = .ok (.ireturn, 1) := by decide +kernel
theorem dX2_rankOf_0 : decode cX2_rankOf 0 = .ok (.iload_n 0, 1) := by decide +kernel
theorem dX2_rankOf_1 : decode cX2_rankOf 1 = .ok (.lookupswitch 101 #[(37, 99), (38, 93), (42, 99), (43, 97), (45, 97), (47, 99), (60, 95), (61, 95), (62, 95), (124, 91)], 91) := by decide +kernel
theorem dX2_rankOf_92 : decode cX2_rankOf 92 = .ok (.iconst 0, 1) := by decide +kernel
theorem dX2_rankOf_93 : decode cX2_rankOf 93 = .ok (.ireturn, 1) := by decide +kernel
theorem dX2_rankOf_94 : decode cX2_rankOf 94 = .ok (.iconst 1, 1) := by decide +kernel
theorem dX2_rankOf_95 : decode cX2_rankOf 95 = .ok (.ireturn, 1) := by decide +kernel
theorem dX2_rankOf_96 : decode cX2_rankOf 96 = .ok (.iconst 2, 1) := by decide +kernel
theorem dX2_rankOf_97 : decode cX2_rankOf 97 = .ok (.ireturn, 1) := by decide +kernel
theorem dX2_rankOf_98 : decode cX2_rankOf 98 = .ok (.iconst 3, 1) := by decide +kernel
theorem dX2_rankOf_99 : decode cX2_rankOf 99 = .ok (.ireturn, 1) := by decide +kernel
theorem dX2_rankOf_100 : decode cX2_rankOf 100 = .ok (.iconst 4, 1) := by decide +kernel
theorem dX2_rankOf_101 : decode cX2_rankOf 101 = .ok (.ireturn, 1) := by decide +kernel
theorem dX2_rankOf_102 : decode cX2_rankOf 102 = .ok (.iconst (-1), 1) := by decide +kernel
theorem dX2_rankOf_103 : decode cX2_rankOf 103 = .ok (.ireturn, 1) := by decide +kernel
theorem dX3_init_0 : decode cX3_init 0 = .ok (.aload_n 0, 1) := by decide +kernel
theorem dX3_init_1 : decode cX3_init 1 = .ok (.invokespecial 1, 3) := by decide +kernel
theorem dX3_init_4 : decode cX3_init 4 = .ok (.aload_n 0, 1) := by decide +kernel
theorem dX3_init_5 : decode cX3_init 5 = .ok (.iconst 4, 1) := by decide +kernel
theorem dX3_init_6 : decode cX3_init 6 = .ok (.newarray .int, 2) := by decide +kernel
theorem dX3_init_8 : decode cX3_init 8 = .ok (.putfield 9, 3) := by decide +kernel
theorem dX3_init_11 : decode cX3_init 11 = .ok (.aload_n 0, 1) := by decide +kernel
theorem dX3_init_12 : decode cX3_init 12 = .ok (.iconst 4, 1) := by decide +kernel
theorem dX3_init_13 : decode cX3_init 13 = .ok (.newarray .int, 2) := by decide +kernel
theorem dX3_init_15 : decode cX3_init 15 = .ok (.putfield 13, 3) := by decide +kernel
theorem dX3_init_18 : decode cX3_init 18 = .ok (.aload_n 0, 1) := by decide +kernel
theorem dX3_init_19 : decode cX3_init 19 = .ok (.iconst 4, 1) := by decide +kernel
theorem dX3_init_20 : decode cX3_init 20 = .ok (.bipush 24, 2) := by decide +kernel
theorem dX3_init_22 : decode cX3_init 22 = .ok (.multianewarray 16 2, 4) := by decide +kernel
theorem dX3_init_26 : decode cX3_init 26 = .ok (.putfield 18, 3) := by decide +kernel
theorem dX3_init_29 : decode cX3_init 29 = .ok (.return_, 1) := by decide +kernel
theorem dX3_isMissing_0 : decode cX3_isMissing 0 = .ok (.aload_n 0, 1) := by decide +kernel
theorem dX3_isMissing_1 : decode cX3_isMissing 1 = .ok (.getfield 9, 3) := by decide +kernel
theorem dX3_isMissing_4 : decode cX3_isMissing 4 = .ok (.iload_n 1, 1) := by decide +kernel
theorem dX3_isMissing_5 : decode cX3_isMissing 5 = .ok (.iaload, 1) := by decide +kernel
theorem dX3_isMissing_6 : decode cX3_isMissing 6 = .ok (.ifCond .ne 7, 3) := by decide +kernel
theorem dX3_isMissing_9 : decode cX3_isMissing 9 = .ok (.iconst 1, 1) := by decide +kernel
theorem dX3_isMissing_10 : decode cX3_isMissing 10 = .ok (.goto 4, 3) := by decide +kernel
theorem dX3_isMissing_13 : decode cX3_isMissing 13 = .ok (.iconst 0, 1) := by decide +kernel
theorem dX3_isMissing_14 : decode cX3_isMissing 14 = .ok (.ireturn, 1) := by decide +kernel
theorem dX3_lays_0 : decode cX3_lays 0 = .ok (.aload_n 0, 1) := by decide +kernel
theorem dX3_lays_1 : decode cX3_lays 1 = .ok (.getfield 9, 3) := by decide +kernel
theorem dX3_lays_4 : decode cX3_lays 4 = .ok (.iload_n 1, 1) := by decide +kernel
theorem dX3_lays_5 : decode cX3_lays 5 = .ok (.iload_n 2, 1) := by decide +kernel
theorem dX3_lays_6 : decode cX3_lays 6 = .ok (.iastore, 1) := by decide +kernel
theorem dX3_lays_7 : decode cX3_lays 7 = .ok (.aload_n 0, 1) := by decide +kernel
theorem dX3_lays_8 : decode cX3_lays 8 = .ok (.getfield 13, 3) := by decide +kernel
theorem dX3_lays_11 : decode cX3_lays 11 = .ok (.iload_n 1, 1) := by decide +kernel
theorem dX3_lays_12 : decode cX3_lays 12 = .ok (.iload_n 3, 1) := by decide +kernel
theorem dX3_lays_13 : decode cX3_lays 13 = .ok (.iastore, 1) := by decide +kernel
theorem dX3_lays_14 : decode cX3_lays 14 = .ok (.iconst 0, 1) := by decide +kernel
theorem dX3_lays_15 : decode cX3_lays 15 = .ok (.istore 4, 2) := by decide +kernel
theorem dX3_lays_17 : decode cX3_lays 17 = .ok (.iload 4, 2) := by decide +kernel
theorem dX3_lays_19 : decode cX3_lays 19 = .ok (.iload_n 3, 1) := by decide +kernel
theorem dX3_lays_20 : decode cX3_lays 20 = .ok (.if_icmp .ge 19, 3) := by decide +kernel
theorem dX3_lays_23 : decode cX3_lays 23 = .ok (.aload_n 0, 1) := by decide +kernel
theorem dX3_lays_24 : decode cX3_lays 24 = .ok (.getfield 18, 3) := by decide +kernel
theorem dX3_lays_27 : decode cX3_lays 27 = .ok (.iload_n 1, 1) := by decide +kernel
theorem dX3_lays_28 : decode cX3_lays 28 = .ok (.aaload, 1) := by decide +kernel
theorem dX3_lays_29 : decode cX3_lays 29 = .ok (.iload 4, 2) := by decide +kernel
theorem dX3_lays_31 : decode cX3_lays 31 = .ok (.iconst 0, 1) := by decide +kernel
theorem dX3_lays_32 : decode cX3_lays 32 = .ok (.iastore, 1) := by decide +kernel
theorem dX3_lays_33 : decode cX3_lays 33 = .ok (.iinc 4 1, 3) := by decide +kernel
theorem dX3_lays_36 : decode cX3_lays 36 = .ok (.goto (-19), 3) := by decide +kernel
theorem dX3_lays_39 : decode cX3_lays 39 = .ok (.return_, 1) := by decide +kernel
theorem dX3_lowest_0 : decode cX3_lowest 0 = .ok (.aload_n 0, 1) := by decide +kernel
theorem dX3_lowest_1 : decode cX3_lowest 1 = .ok (.getfield 9, 3) := by decide +kernel
theorem dX3_lowest_4 : decode cX3_lowest 4 = .ok (.iload_n 1, 1) := by decide +kernel
theorem dX3_lowest_5 : decode cX3_lowest 5 = .ok (.iaload, 1) := by decide +kernel
theorem dX3_lowest_6 : decode cX3_lowest 6 = .ok (.lookupswitch 32 #[(8, 26), (16, 29)], 26) := by decide +kernel
theorem dX3_lowest_32 : decode cX3_lowest 32 = .ok (.iload_n 2, 1) := by decide +kernel
theorem dX3_lowest_33 : decode cX3_lowest 33 = .ok (.i2b, 1) := by decide +kernel
theorem dX3_lowest_34 : decode cX3_lowest 34 = .ok (.ireturn, 1) := by decide +kernel
theorem dX3_lowest_35 : decode cX3_lowest 35 = .ok (.iload_n 2, 1) := by decide +kernel
theorem dX3_lowest_36 : decode cX3_lowest 36 = .ok (.i2s, 1) := by decide +kernel
theorem dX3_lowest_37 : decode cX3_lowest 37 = .ok (.ireturn, 1) := by decide +kernel
theorem dX3_lowest_38 : decode cX3_lowest 38 = .ok (.iload_n 2, 1) := by decide +kernel
theorem dX3_lowest_39 : decode cX3_lowest 39 = .ok (.ireturn, 1) := by decide +kernel
theorem dX3_holds_0 : decode cX3_holds 0 = .ok (.iload_n 3, 1) := by decide +kernel
theorem dX3_holds_1 : decode cX3_holds 1 = .ok (.ifCond .lt 23, 3) := by decide +kernel
theorem dX3_holds_4 : decode cX3_holds 4 = .ok (.iload_n 2, 1) := by decide +kernel
theorem dX3_holds_5 : decode cX3_holds 5 = .ok (.ifCond .lt 19, 3) := by decide +kernel
theorem dX3_holds_8 : decode cX3_holds 8 = .ok (.iload_n 2, 1) := by decide +kernel
theorem dX3_holds_9 : decode cX3_holds 9 = .ok (.aload_n 0, 1) := by decide +kernel
theorem dX3_holds_10 : decode cX3_holds 10 = .ok (.getfield 13, 3) := by decide +kernel
theorem dX3_holds_13 : decode cX3_holds 13 = .ok (.iload_n 1, 1) := by decide +kernel
theorem dX3_holds_14 : decode cX3_holds 14 = .ok (.iaload, 1) := by decide +kernel
theorem dX3_holds_15 : decode cX3_holds 15 = .ok (.iload_n 3, 1) := by decide +kernel
theorem dX3_holds_16 : decode cX3_holds 16 = .ok (.isub, 1) := by decide +kernel
theorem dX3_holds_17 : decode cX3_holds 17 = .ok (.if_icmp .gt 7, 3) := by decide +kernel
theorem dX3_holds_20 : decode cX3_holds 20 = .ok (.iconst 1, 1) := by decide +kernel
theorem dX3_holds_21 : decode cX3_holds 21 = .ok (.goto 4, 3) := by decide +kernel
theorem dX3_holds_24 : decode cX3_holds 24 = .ok (.iconst 0, 1) := by decide +kernel
theorem dX3_holds_25 : decode cX3_holds 25 = .ok (.ireturn, 1) := by decide +kernel
theorem dX4_init_0 : decode cX4_init 0 = .ok (.aload_n 0, 1) := by decide +kernel
theorem dX4_init_1 : decode cX4_init 1 = .ok (.invokespecial 3, 3) := by decide +kernel
theorem dX4_init_4 : decode cX4_init 4 = .ok (.aload_n 0, 1) := by decide +kernel
theorem dX4_init_5 : decode cX4_init 5 = .ok (.new 9, 3) := by decide +kernel
theorem dX4_init_8 : decode cX4_init 8 = .ok (.dup, 1) := by decide +kernel
theorem dX4_init_9 : decode cX4_init 9 = .ok (.iconst 0, 1) := by decide +kernel
theorem dX4_init_10 : decode cX4_init 10 = .ok (.invokespecial 11, 3) := by decide +kernel
theorem dX4_init_13 : decode cX4_init 13 = .ok (.putfield 14, 3) := by decide +kernel
theorem dX4_init_16 : decode cX4_init 16 = .ok (.aload_n 0, 1) := by decide +kernel
theorem dX4_init_17 : decode cX4_init 17 = .ok (.new 9, 3) := by decide +kernel
theorem dX4_init_20 : decode cX4_init 20 = .ok (.dup, 1) := by decide +kernel
theorem dX4_init_21 : decode cX4_init 21 = .ok (.iconst 1, 1) := by decide +kernel
theorem dX4_init_22 : decode cX4_init 22 = .ok (.invokespecial 11, 3) := by decide +kernel
theorem dX4_init_25 : decode cX4_init 25 = .ok (.putfield 20, 3) := by decide +kernel
theorem dX4_init_28 : decode cX4_init 28 = .ok (.aload_n 0, 1) := by decide +kernel
theorem dX4_init_29 : decode cX4_init 29 = .ok (.new 23, 3) := by decide +kernel
theorem dX4_init_32 : decode cX4_init 32 = .ok (.dup, 1) := by decide +kernel
theorem dX4_init_33 : decode cX4_init 33 = .ok (.aload_n 0, 1) := by decide +kernel
theorem dX4_init_34 : decode cX4_init 34 = .ok (.getfield 14, 3) := by decide +kernel
theorem dX4_init_37 : decode cX4_init 37 = .ok (.aload_n 0, 1) := by decide +kernel
theorem dX4_init_38 : decode cX4_init 38 = .ok (.getfield 20, 3) := by decide +kernel
theorem dX4_init_41 : decode cX4_init 41 = .ok (.invokespecial 25, 3) := by decide +kernel
theorem dX4_init_44 : decode cX4_init 44 = .ok (.putfield 28, 3) := by decide +kernel
theorem dX4_init_47 : decode cX4_init 47 = .ok (.aload_n 0, 1) := by decide +kernel
theorem dX4_init_48 : decode cX4_init 48 = .ok (.bipush 60, 2) := by decide +kernel
theorem dX4_init_50 : decode cX4_init 50 = .ok (.newarray .int, 2) := by decide +kernel
theorem dX4_init_52 : decode cX4_init 52 = .ok (.putfield 32, 3) := by decide +kernel
theorem dX4_init_55 : decode cX4_init 55 = .ok (.aload_n 0, 1) := by decide +kernel
theorem dX4_init_56 : decode cX4_init 56 = .ok (.iconst 0, 1) := by decide +kernel
theorem dX4_init_57 : decode cX4_init 57 = .ok (.putfield 36, 3) := by decide +kernel
theorem dX4_init_60 : decode cX4_init 60 = .ok (.aload_n 0, 1) := by decide +kernel
theorem dX4_init_61 : decode cX4_init 61 = .ok (.bipush 24, 2) := by decide +kernel
theorem dX4_init_63 : decode cX4_init 63 = .ok (.newarray .int, 2) := by decide +kernel
theorem dX4_init_65 : decode cX4_init 65 = .ok (.putfield 40, 3) := by decide +kernel
theorem dX4_init_68 : decode cX4_init 68 = .ok (.aload_n 0, 1) := by decide +kernel
theorem dX4_init_69 : decode cX4_init 69 = .ok (.iconst 0, 1) := by decide +kernel
theorem dX4_init_70 : decode cX4_init 70 = .ok (.putfield 43, 3) := by decide +kernel
theorem dX4_init_73 : decode cX4_init 73 = .ok (.aload_n 0, 1) := by decide +kernel
theorem dX4_init_74 : decode cX4_init 74 = .ok (.iconst 1, 1) := by decide +kernel
theorem dX4_init_75 : decode cX4_init 75 = .ok (.putfield 46, 3) := by decide +kernel
theorem dX4_init_78 : decode cX4_init 78 = .ok (.return_, 1) := by decide +kernel
theorem dX4_copies_0 : decode cX4_copies 0 = .ok (.aload_n 0, 1) := by decide +kernel
theorem dX4_copies_1 : decode cX4_copies 1 = .ok (.getfield 14, 3) := by decide +kernel
theorem dX4_copies_4 : decode cX4_copies 4 = .ok (.aload_n 1, 1) := by decide +kernel
theorem dX4_copies_5 : decode cX4_copies 5 = .ok (.getfield 14, 3) := by decide +kernel
theorem dX4_copies_8 : decode cX4_copies 8 = .ok (.invokevirtual 49, 3) := by decide +kernel
theorem dX4_copies_11 : decode cX4_copies 11 = .ok (.aload_n 0, 1) := by decide +kernel
theorem dX4_copies_12 : decode cX4_copies 12 = .ok (.getfield 20, 3) := by decide +kernel
theorem dX4_copies_15 : decode cX4_copies 15 = .ok (.aload_n 1, 1) := by decide +kernel
theorem dX4_copies_16 : decode cX4_copies 16 = .ok (.getfield 20, 3) := by decide +kernel
theorem dX4_copies_19 : decode cX4_copies 19 = .ok (.invokevirtual 49, 3) := by decide +kernel
theorem dX4_copies_22 : decode cX4_copies 22 = .ok (.aload_n 0, 1) := by decide +kernel
theorem dX4_copies_23 : decode cX4_copies 23 = .ok (.getfield 28, 3) := by decide +kernel
theorem dX4_copies_26 : decode cX4_copies 26 = .ok (.aload_n 1, 1) := by decide +kernel
theorem dX4_copies_27 : decode cX4_copies 27 = .ok (.getfield 28, 3) := by decide +kernel
theorem dX4_copies_30 : decode cX4_copies 30 = .ok (.invokevirtual 53, 3) := by decide +kernel
theorem dX4_copies_33 : decode cX4_copies 33 = .ok (.aload_n 1, 1) := by decide +kernel
theorem dX4_copies_34 : decode cX4_copies 34 = .ok (.getfield 32, 3) := by decide +kernel
theorem dX4_copies_37 : decode cX4_copies 37 = .ok (.iconst 0, 1) := by decide +kernel
theorem dX4_copies_38 : decode cX4_copies 38 = .ok (.aload_n 0, 1) := by decide +kernel
theorem dX4_copies_39 : decode cX4_copies 39 = .ok (.getfield 32, 3) := by decide +kernel
theorem dX4_copies_42 : decode cX4_copies 42 = .ok (.iconst 0, 1) := by decide +kernel
theorem dX4_copies_43 : decode cX4_copies 43 = .ok (.bipush 60, 2) := by decide +kernel
theorem dX4_copies_45 : decode cX4_copies 45 = .ok (.invokestatic 56, 3) := by decide +kernel
theorem dX4_copies_48 : decode cX4_copies 48 = .ok (.aload_n 0, 1) := by decide +kernel
theorem dX4_copies_49 : decode cX4_copies 49 = .ok (.aload_n 1, 1) := by decide +kernel
theorem dX4_copies_50 : decode cX4_copies 50 = .ok (.getfield 36, 3) := by decide +kernel
theorem dX4_copies_53 : decode cX4_copies 53 = .ok (.putfield 36, 3) := by decide +kernel
theorem dX4_copies_56 : decode cX4_copies 56 = .ok (.aload_n 1, 1) := by decide +kernel
theorem dX4_copies_57 : decode cX4_copies 57 = .ok (.getfield 40, 3) := by decide +kernel
theorem dX4_copies_60 : decode cX4_copies 60 = .ok (.iconst 0, 1) := by decide +kernel
theorem dX4_copies_61 : decode cX4_copies 61 = .ok (.aload_n 0, 1) := by decide +kernel
theorem dX4_copies_62 : decode cX4_copies 62 = .ok (.getfield 40, 3) := by decide +kernel
theorem dX4_copies_65 : decode cX4_copies 65 = .ok (.iconst 0, 1) := by decide +kernel
theorem dX4_copies_66 : decode cX4_copies 66 = .ok (.bipush 24, 2) := by decide +kernel
theorem dX4_copies_68 : decode cX4_copies 68 = .ok (.invokestatic 56, 3) := by decide +kernel
theorem dX4_copies_71 : decode cX4_copies 71 = .ok (.aload_n 0, 1) := by decide +kernel
theorem dX4_copies_72 : decode cX4_copies 72 = .ok (.aload_n 1, 1) := by decide +kernel
theorem dX4_copies_73 : decode cX4_copies 73 = .ok (.getfield 43, 3) := by decide +kernel
theorem dX4_copies_76 : decode cX4_copies 76 = .ok (.putfield 43, 3) := by decide +kernel
theorem dX4_copies_79 : decode cX4_copies 79 = .ok (.aload_n 0, 1) := by decide +kernel
theorem dX4_copies_80 : decode cX4_copies 80 = .ok (.aload_n 1, 1) := by decide +kernel
theorem dX4_copies_81 : decode cX4_copies 81 = .ok (.getfield 46, 3) := by decide +kernel
theorem dX4_copies_84 : decode cX4_copies 84 = .ok (.putfield 46, 3) := by decide +kernel
theorem dX4_copies_87 : decode cX4_copies 87 = .ok (.return_, 1) := by decide +kernel
theorem dX4_lawOf_0 : decode cX4_lawOf 0 = .ok (.iload_n 1, 1) := by decide +kernel
theorem dX4_lawOf_1 : decode cX4_lawOf 1 = .ok (.ifCond .ne 10, 3) := by decide +kernel
theorem dX4_lawOf_4 : decode cX4_lawOf 4 = .ok (.aload_n 0, 1) := by decide +kernel
theorem dX4_lawOf_5 : decode cX4_lawOf 5 = .ok (.getfield 14, 3) := by decide +kernel
theorem dX4_lawOf_8 : decode cX4_lawOf 8 = .ok (.goto 7, 3) := by decide +kernel
theorem dX4_lawOf_11 : decode cX4_lawOf 11 = .ok (.aload_n 0, 1) := by decide +kernel
theorem dX4_lawOf_12 : decode cX4_lawOf 12 = .ok (.getfield 20, 3) := by decide +kernel
theorem dX4_lawOf_15 : decode cX4_lawOf 15 = .ok (.areturn, 1) := by decide +kernel
theorem dX4_takesBytes_0 : decode cX4_takesBytes 0 = .ok (.iconst 0, 1) := by decide +kernel
theorem dX4_takesBytes_1 : decode cX4_takesBytes 1 = .ok (.istore 4, 2) := by decide +kernel
theorem dX4_takesBytes_3 : decode cX4_takesBytes 3 = .ok (.iload 4, 2) := by decide +kernel
theorem dX4_takesBytes_5 : decode cX4_takesBytes 5 = .ok (.iload_n 3, 1) := by decide +kernel
theorem dX4_takesBytes_6 : decode cX4_takesBytes 6 = .ok (.if_icmp .ge 49, 3) := by decide +kernel
theorem dX4_takesBytes_9 : decode cX4_takesBytes 9 = .ok (.aload_n 0, 1) := by decide +kernel
theorem dX4_takesBytes_10 : decode cX4_takesBytes 10 = .ok (.getfield 36, 3) := by decide +kernel
theorem dX4_takesBytes_13 : decode cX4_takesBytes 13 = .ok (.bipush 60, 2) := by decide +kernel
theorem dX4_takesBytes_15 : decode cX4_takesBytes 15 = .ok (.if_icmp .ge 40, 3) := by decide +kernel
theorem dX4_takesBytes_18 : decode cX4_takesBytes 18 = .ok (.aload_n 0, 1) := by decide +kernel
theorem dX4_takesBytes_19 : decode cX4_takesBytes 19 = .ok (.getfield 32, 3) := by decide +kernel
theorem dX4_takesBytes_22 : decode cX4_takesBytes 22 = .ok (.aload_n 0, 1) := by decide +kernel
theorem dX4_takesBytes_23 : decode cX4_takesBytes 23 = .ok (.getfield 36, 3) := by decide +kernel
theorem dX4_takesBytes_26 : decode cX4_takesBytes 26 = .ok (.lload_n 1, 1) := by decide +kernel
theorem dX4_takesBytes_27 : decode cX4_takesBytes 27 = .ok (.bipush 8, 2) := by decide +kernel
theorem dX4_takesBytes_29 : decode cX4_takesBytes 29 = .ok (.iload 4, 2) := by decide +kernel
theorem dX4_takesBytes_31 : decode cX4_takesBytes 31 = .ok (.imul, 1) := by decide +kernel
theorem dX4_takesBytes_32 : decode cX4_takesBytes 32 = .ok (.lushr, 1) := by decide +kernel
theorem dX4_takesBytes_33 : decode cX4_takesBytes 33 = .ok (.l2i, 1) := by decide +kernel
theorem dX4_takesBytes_34 : decode cX4_takesBytes 34 = .ok (.sipush 255, 3) := by decide +kernel
theorem dX4_takesBytes_37 : decode cX4_takesBytes 37 = .ok (.iand, 1) := by decide +kernel
theorem dX4_takesBytes_38 : decode cX4_takesBytes 38 = .ok (.iastore, 1) := by decide +kernel
theorem dX4_takesBytes_39 : decode cX4_takesBytes 39 = .ok (.aload_n 0, 1) := by decide +kernel
theorem dX4_takesBytes_40 : decode cX4_takesBytes 40 = .ok (.dup, 1) := by decide +kernel
theorem dX4_takesBytes_41 : decode cX4_takesBytes 41 = .ok (.getfield 36, 3) := by decide +kernel
theorem dX4_takesBytes_44 : decode cX4_takesBytes 44 = .ok (.iconst 1, 1) := by decide +kernel
theorem dX4_takesBytes_45 : decode cX4_takesBytes 45 = .ok (.iadd, 1) := by decide +kernel
theorem dX4_takesBytes_46 : decode cX4_takesBytes 46 = .ok (.putfield 36, 3) := by decide +kernel
theorem dX4_takesBytes_49 : decode cX4_takesBytes 49 = .ok (.iinc 4 1, 3) := by decide +kernel
theorem dX4_takesBytes_52 : decode cX4_takesBytes 52 = .ok (.goto (-49), 3) := by decide +kernel
theorem dX4_takesBytes_55 : decode cX4_takesBytes 55 = .ok (.return_, 1) := by decide +kernel
theorem dX4_draws_0 : decode cX4_draws 0 = .ok (.aload_n 0, 1) := by decide +kernel
theorem dX4_draws_1 : decode cX4_draws 1 = .ok (.aload_n 0, 1) := by decide +kernel
theorem dX4_draws_2 : decode cX4_draws 2 = .ok (.getfield 46, 3) := by decide +kernel
theorem dX4_draws_5 : decode cX4_draws 5 = .ok (.ldc 62, 2) := by decide +kernel
theorem dX4_draws_7 : decode cX4_draws 7 = .ok (.imul, 1) := by decide +kernel
theorem dX4_draws_8 : decode cX4_draws 8 = .ok (.sipush 12345, 3) := by decide +kernel
theorem dX4_draws_11 : decode cX4_draws 11 = .ok (.iadd, 1) := by decide +kernel
theorem dX4_draws_12 : decode cX4_draws 12 = .ok (.putfield 46, 3) := by decide +kernel
theorem dX4_draws_15 : decode cX4_draws 15 = .ok (.aload_n 0, 1) := by decide +kernel
theorem dX4_draws_16 : decode cX4_draws 16 = .ok (.getfield 46, 3) := by decide +kernel
theorem dX4_draws_19 : decode cX4_draws 19 = .ok (.bipush 8, 2) := by decide +kernel
theorem dX4_draws_21 : decode cX4_draws 21 = .ok (.iushr, 1) := by decide +kernel
theorem dX4_draws_22 : decode cX4_draws 22 = .ok (.ireturn, 1) := by decide +kernel
theorem dX4_drawsAnHour_0 : decode cX4_drawsAnHour 0 = .ok (.aload_n 0, 1) := by decide +kernel
theorem dX4_drawsAnHour_1 : decode cX4_drawsAnHour 1 = .ok (.getfield 28, 3) := by decide +kernel
theorem dX4_drawsAnHour_4 : decode cX4_drawsAnHour 4 = .ok (.getfield 63, 3) := by decide +kernel
theorem dX4_drawsAnHour_7 : decode cX4_drawsAnHour 7 = .ok (.ifCond .le 56, 3) := by decide +kernel
theorem dX4_drawsAnHour_10 : decode cX4_drawsAnHour 10 = .ok (.aload_n 0, 1) := by decide +kernel
theorem dX4_drawsAnHour_11 : decode cX4_drawsAnHour 11 = .ok (.invokevirtual 66, 3) := by decide +kernel
theorem dX4_drawsAnHour_14 : decode cX4_drawsAnHour 14 = .ok (.aload_n 0, 1) := by decide +kernel
theorem dX4_drawsAnHour_15 : decode cX4_drawsAnHour 15 = .ok (.getfield 28, 3) := by decide +kernel
theorem dX4_drawsAnHour_18 : decode cX4_drawsAnHour 18 = .ok (.getfield 63, 3) := by decide +kernel
theorem dX4_drawsAnHour_21 : decode cX4_drawsAnHour 21 = .ok (.irem, 1) := by decide +kernel
theorem dX4_drawsAnHour_22 : decode cX4_drawsAnHour 22 = .ok (.istore_n 1, 1) := by decide +kernel
theorem dX4_drawsAnHour_23 : decode cX4_drawsAnHour 23 = .ok (.aload_n 0, 1) := by decide +kernel
theorem dX4_drawsAnHour_24 : decode cX4_drawsAnHour 24 = .ok (.invokevirtual 66, 3) := by decide +kernel
theorem dX4_drawsAnHour_27 : decode cX4_drawsAnHour 27 = .ok (.bipush 21, 2) := by decide +kernel
theorem dX4_drawsAnHour_29 : decode cX4_drawsAnHour 29 = .ok (.irem, 1) := by decide +kernel
theorem dX4_drawsAnHour_30 : decode cX4_drawsAnHour 30 = .ok (.bipush 10, 2) := by decide +kernel
theorem dX4_drawsAnHour_32 : decode cX4_drawsAnHour 32 = .ok (.isub, 1) := by decide +kernel
theorem dX4_drawsAnHour_33 : decode cX4_drawsAnHour 33 = .ok (.istore_n 2, 1) := by decide +kernel
theorem dX4_drawsAnHour_34 : decode cX4_drawsAnHour 34 = .ok (.aload_n 0, 1) := by decide +kernel
theorem dX4_drawsAnHour_35 : decode cX4_drawsAnHour 35 = .ok (.getfield 28, 3) := by decide +kernel
theorem dX4_drawsAnHour_38 : decode cX4_drawsAnHour 38 = .ok (.getfield 70, 3) := by decide +kernel
theorem dX4_drawsAnHour_41 : decode cX4_drawsAnHour 41 = .ok (.iload_n 1, 1) := by decide +kernel
theorem dX4_drawsAnHour_42 : decode cX4_drawsAnHour 42 = .ok (.iconst 0, 1) := by decide +kernel
theorem dX4_drawsAnHour_43 : decode cX4_drawsAnHour 43 = .ok (.bipush 99, 2) := by decide +kernel
theorem dX4_drawsAnHour_45 : decode cX4_drawsAnHour 45 = .ok (.aload_n 0, 1) := by decide +kernel
theorem dX4_drawsAnHour_46 : decode cX4_drawsAnHour 46 = .ok (.getfield 28, 3) := by decide +kernel
theorem dX4_drawsAnHour_49 : decode cX4_drawsAnHour 49 = .ok (.getfield 70, 3) := by decide +kernel
theorem dX4_drawsAnHour_52 : decode cX4_drawsAnHour 52 = .ok (.iload_n 1, 1) := by decide +kernel
theorem dX4_drawsAnHour_53 : decode cX4_drawsAnHour 53 = .ok (.iaload, 1) := by decide +kernel
theorem dX4_drawsAnHour_54 : decode cX4_drawsAnHour 54 = .ok (.iload_n 2, 1) := by decide +kernel
theorem dX4_drawsAnHour_55 : decode cX4_drawsAnHour 55 = .ok (.iadd, 1) := by decide +kernel
theorem dX4_drawsAnHour_56 : decode cX4_drawsAnHour 56 = .ok (.invokestatic 73, 3) := by decide +kernel
theorem dX4_drawsAnHour_59 : decode cX4_drawsAnHour 59 = .ok (.invokestatic 79, 3) := by decide +kernel
theorem dX4_drawsAnHour_62 : decode cX4_drawsAnHour 62 = .ok (.iastore, 1) := by decide +kernel
theorem dX4_drawsAnHour_63 : decode cX4_drawsAnHour 63 = .ok (.iconst 1, 1) := by decide +kernel
theorem dX4_drawsAnHour_64 : decode cX4_drawsAnHour 64 = .ok (.aload_n 0, 1) := by decide +kernel
theorem dX4_drawsAnHour_65 : decode cX4_drawsAnHour 65 = .ok (.invokevirtual 66, 3) := by decide +kernel
theorem dX4_drawsAnHour_68 : decode cX4_drawsAnHour 68 = .ok (.bipush 14, 2) := by decide +kernel
theorem dX4_drawsAnHour_70 : decode cX4_drawsAnHour 70 = .ok (.irem, 1) := by decide +kernel
theorem dX4_drawsAnHour_71 : decode cX4_drawsAnHour 71 = .ok (.iadd, 1) := by decide +kernel
theorem dX4_drawsAnHour_72 : decode cX4_drawsAnHour 72 = .ok (.istore_n 1, 1) := by decide +kernel
theorem dX4_drawsAnHour_73 : decode cX4_drawsAnHour 73 = .ok (.aload_n 0, 1) := by decide +kernel
theorem dX4_drawsAnHour_74 : decode cX4_drawsAnHour 74 = .ok (.invokevirtual 66, 3) := by decide +kernel
theorem dX4_drawsAnHour_77 : decode cX4_drawsAnHour 77 = .ok (.bipush 8, 2) := by decide +kernel
theorem dX4_drawsAnHour_79 : decode cX4_drawsAnHour 79 = .ok (.irem, 1) := by decide +kernel
theorem dX4_drawsAnHour_80 : decode cX4_drawsAnHour 80 = .ok (.ifCond .ne 18, 3) := by decide +kernel
theorem dX4_drawsAnHour_83 : decode cX4_drawsAnHour 83 = .ok (.aload_n 0, 1) := by decide +kernel
theorem dX4_drawsAnHour_84 : decode cX4_drawsAnHour 84 = .ok (.getfield 28, 3) := by decide +kernel
theorem dX4_drawsAnHour_87 : decode cX4_drawsAnHour 87 = .ok (.dup, 1) := by decide +kernel
theorem dX4_drawsAnHour_88 : decode cX4_drawsAnHour 88 = .ok (.getfield 82, 3) := by decide +kernel
theorem dX4_drawsAnHour_91 : decode cX4_drawsAnHour 91 = .ok (.iconst 1, 1) := by decide +kernel
theorem dX4_drawsAnHour_92 : decode cX4_drawsAnHour 92 = .ok (.iload_n 1, 1) := by decide +kernel
theorem dX4_drawsAnHour_93 : decode cX4_drawsAnHour 93 = .ok (.ishl, 1) := by decide +kernel
theorem dX4_drawsAnHour_94 : decode cX4_drawsAnHour 94 = .ok (.ixor, 1) := by decide +kernel
theorem dX4_drawsAnHour_95 : decode cX4_drawsAnHour 95 = .ok (.putfield 82, 3) := by decide +kernel
theorem dX4_drawsAnHour_98 : decode cX4_drawsAnHour 98 = .ok (.aload_n 0, 1) := by decide +kernel
theorem dX4_drawsAnHour_99 : decode cX4_drawsAnHour 99 = .ok (.getfield 28, 3) := by decide +kernel
theorem dX4_drawsAnHour_102 : decode cX4_drawsAnHour 102 = .ok (.iconst (-1), 1) := by decide +kernel
theorem dX4_drawsAnHour_103 : decode cX4_drawsAnHour 103 = .ok (.invokevirtual 85, 3) := by decide +kernel
theorem dX4_drawsAnHour_106 : decode cX4_drawsAnHour 106 = .ok (.return_, 1) := by decide +kernel
theorem dX5_init_0 : decode cX5_init 0 = .ok (.aload_n 0, 1) := by decide +kernel
theorem dX5_init_1 : decode cX5_init 1 = .ok (.invokespecial 3, 3) := by decide +kernel
theorem dX5_init_4 : decode cX5_init 4 = .ok (.aload_n 0, 1) := by decide +kernel
theorem dX5_init_5 : decode cX5_init 5 = .ok (.aload_n 1, 1) := by decide +kernel
theorem dX5_init_6 : decode cX5_init 6 = .ok (.putfield 9, 3) := by decide +kernel
theorem dX5_init_9 : decode cX5_init 9 = .ok (.aload_n 0, 1) := by decide +kernel
theorem dX5_init_10 : decode cX5_init 10 = .ok (.new 15, 3) := by decide +kernel
theorem dX5_init_13 : decode cX5_init 13 = .ok (.dup, 1) := by decide +kernel
theorem dX5_init_14 : decode cX5_init 14 = .ok (.aload_n 1, 1) := by decide +kernel
theorem dX5_init_15 : decode cX5_init 15 = .ok (.getfield 17, 3) := by decide +kernel
theorem dX5_init_18 : decode cX5_init 18 = .ok (.aload_n 1, 1) := by decide +kernel
theorem dX5_init_19 : decode cX5_init 19 = .ok (.getfield 21, 3) := by decide +kernel
theorem dX5_init_22 : decode cX5_init 22 = .ok (.invokespecial 24, 3) := by decide +kernel
theorem dX5_init_25 : decode cX5_init 25 = .ok (.putfield 27, 3) := by decide +kernel
theorem dX5_init_28 : decode cX5_init 28 = .ok (.return_, 1) := by decide +kernel
theorem dX5_starts_0 : decode cX5_starts 0 = .ok (.aload_n 0, 1) := by decide +kernel
theorem dX5_starts_1 : decode cX5_starts 1 = .ok (.getfield 27, 3) := by decide +kernel
theorem dX5_starts_4 : decode cX5_starts 4 = .ok (.aload_n 0, 1) := by decide +kernel
theorem dX5_starts_5 : decode cX5_starts 5 = .ok (.getfield 9, 3) := by decide +kernel
theorem dX5_starts_8 : decode cX5_starts 8 = .ok (.invokevirtual 30, 3) := by decide +kernel
theorem dX5_starts_11 : decode cX5_starts 11 = .ok (.return_, 1) := by decide +kernel
theorem dX5_goesOn_0 : decode cX5_goesOn 0 = .ok (.iconst 0, 1) := by decide +kernel
theorem dX5_goesOn_1 : decode cX5_goesOn 1 = .ok (.istore_n 3, 1) := by decide +kernel
theorem dX5_goesOn_2 : decode cX5_goesOn 2 = .ok (.iload_n 3, 1) := by decide +kernel
theorem dX5_goesOn_3 : decode cX5_goesOn 3 = .ok (.iload_n 2, 1) := by decide +kernel
theorem dX5_goesOn_4 : decode cX5_goesOn 4 = .ok (.if_icmp .ge 17, 3) := by decide +kernel
theorem dX5_goesOn_7 : decode cX5_goesOn 7 = .ok (.aload_n 0, 1) := by decide +kernel
theorem dX5_goesOn_8 : decode cX5_goesOn 8 = .ok (.getfield 27, 3) := by decide +kernel
theorem dX5_goesOn_11 : decode cX5_goesOn 11 = .ok (.iload_n 1, 1) := by decide +kernel
theorem dX5_goesOn_12 : decode cX5_goesOn 12 = .ok (.invokevirtual 34, 3) := by decide +kernel
theorem dX5_goesOn_15 : decode cX5_goesOn 15 = .ok (.iinc 3 1, 3) := by decide +kernel
theorem dX5_goesOn_18 : decode cX5_goesOn 18 = .ok (.goto (-16), 3) := by decide +kernel
theorem dX5_goesOn_21 : decode cX5_goesOn 21 = .ok (.return_, 1) := by decide +kernel
theorem dX5_hoursTo_0 : decode cX5_hoursTo 0 = .ok (.iconst 0, 1) := by decide +kernel
theorem dX5_hoursTo_1 : decode cX5_hoursTo 1 = .ok (.istore 4, 2) := by decide +kernel
theorem dX5_hoursTo_3 : decode cX5_hoursTo 3 = .ok (.iload 4, 2) := by decide +kernel
theorem dX5_hoursTo_5 : decode cX5_hoursTo 5 = .ok (.iload_n 3, 1) := by decide +kernel
theorem dX5_hoursTo_6 : decode cX5_hoursTo 6 = .ok (.if_icmp .gt 45, 3) := by decide +kernel
theorem dX5_hoursTo_9 : decode cX5_hoursTo 9 = .ok (.aload_n 0, 1) := by decide +kernel
theorem dX5_hoursTo_10 : decode cX5_hoursTo 10 = .ok (.getfield 27, 3) := by decide +kernel
theorem dX5_hoursTo_13 : decode cX5_hoursTo 13 = .ok (.getfield 38, 3) := by decide +kernel
theorem dX5_hoursTo_16 : decode cX5_hoursTo 16 = .ok (.iload_n 1, 1) := by decide +kernel
theorem dX5_hoursTo_17 : decode cX5_hoursTo 17 = .ok (.baload, 1) := by decide +kernel
theorem dX5_hoursTo_18 : decode cX5_hoursTo 18 = .ok (.ifCond .ne 33, 3) := by decide +kernel
theorem dX5_hoursTo_21 : decode cX5_hoursTo 21 = .ok (.aload_n 0, 1) := by decide +kernel
theorem dX5_hoursTo_22 : decode cX5_hoursTo 22 = .ok (.getfield 27, 3) := by decide +kernel
theorem dX5_hoursTo_25 : decode cX5_hoursTo 25 = .ok (.getfield 42, 3) := by decide +kernel
theorem dX5_hoursTo_28 : decode cX5_hoursTo 28 = .ok (.iload_n 1, 1) := by decide +kernel
theorem dX5_hoursTo_29 : decode cX5_hoursTo 29 = .ok (.iaload, 1) := by decide +kernel
theorem dX5_hoursTo_30 : decode cX5_hoursTo 30 = .ok (.iload_n 2, 1) := by decide +kernel
theorem dX5_hoursTo_31 : decode cX5_hoursTo 31 = .ok (.if_icmp .lt 6, 3) := by decide +kernel
theorem dX5_hoursTo_34 : decode cX5_hoursTo 34 = .ok (.iload 4, 2) := by decide +kernel
theorem dX5_hoursTo_36 : decode cX5_hoursTo 36 = .ok (.ireturn, 1) := by decide +kernel
theorem dX5_hoursTo_37 : decode cX5_hoursTo 37 = .ok (.aload_n 0, 1) := by decide +kernel
theorem dX5_hoursTo_38 : decode cX5_hoursTo 38 = .ok (.getfield 27, 3) := by decide +kernel
theorem dX5_hoursTo_41 : decode cX5_hoursTo 41 = .ok (.iload_n 1, 1) := by decide +kernel
theorem dX5_hoursTo_42 : decode cX5_hoursTo 42 = .ok (.invokevirtual 34, 3) := by decide +kernel
theorem dX5_hoursTo_45 : decode cX5_hoursTo 45 = .ok (.iinc 4 1, 3) := by decide +kernel
theorem dX5_hoursTo_48 : decode cX5_hoursTo 48 = .ok (.goto (-45), 3) := by decide +kernel
theorem dX5_hoursTo_51 : decode cX5_hoursTo 51 = .ok (.iconst (-1), 1) := by decide +kernel
theorem dX5_hoursTo_52 : decode cX5_hoursTo 52 = .ok (.ireturn, 1) := by decide +kernel
theorem dX5_comesWith_0 : decode cX5_comesWith 0 = .ok (.aload_n 0, 1) := by decide +kernel
theorem dX5_comesWith_1 : decode cX5_comesWith 1 = .ok (.invokevirtual 46, 3) := by decide +kernel
theorem dX5_comesWith_4 : decode cX5_comesWith 4 = .ok (.aload_n 0, 1) := by decide +kernel
theorem dX5_comesWith_5 : decode cX5_comesWith 5 = .ok (.getfield 27, 3) := by decide +kernel
theorem dX5_comesWith_8 : decode cX5_comesWith 8 = .ok (.getfield 49, 3) := by decide +kernel
theorem dX5_comesWith_11 : decode cX5_comesWith 11 = .ok (.iload_n 1, 1) := by decide +kernel
theorem dX5_comesWith_12 : decode cX5_comesWith 12 = .ok (.iload_n 2, 1) := by decide +kernel
theorem dX5_comesWith_13 : decode cX5_comesWith 13 = .ok (.iastore, 1) := by decide +kernel
theorem dX5_comesWith_14 : decode cX5_comesWith 14 = .ok (.aload_n 0, 1) := by decide +kernel
theorem dX5_comesWith_15 : decode cX5_comesWith 15 = .ok (.iload_n 1, 1) := by decide +kernel
theorem dX5_comesWith_16 : decode cX5_comesWith 16 = .ok (.iload_n 3, 1) := by decide +kernel
theorem dX5_comesWith_17 : decode cX5_comesWith 17 = .ok (.iload 4, 2) := by decide +kernel
theorem dX5_comesWith_19 : decode cX5_comesWith 19 = .ok (.invokevirtual 52, 3) := by decide +kernel
theorem dX5_comesWith_22 : decode cX5_comesWith 22 = .ok (.ifCond .lt 7, 3) := by decide +kernel
theorem dX5_comesWith_25 : decode cX5_comesWith 25 = .ok (.iconst 1, 1) := by decide +kernel
theorem dX5_comesWith_26 : decode cX5_comesWith 26 = .ok (.goto 4, 3) := by decide +kernel
theorem dX5_comesWith_29 : decode cX5_comesWith 29 = .ok (.iconst 0, 1) := by decide +kernel
theorem dX5_comesWith_30 : decode cX5_comesWith 30 = .ok (.ireturn, 1) := by decide +kernel
theorem dX5_comesWithout_0 : decode cX5_comesWithout 0 = .ok (.aload_n 0, 1) := by decide +kernel
theorem dX5_comesWithout_1 : decode cX5_comesWithout 1 = .ok (.invokevirtual 46, 3) := by decide +kernel
theorem dX5_comesWithout_4 : decode cX5_comesWithout 4 = .ok (.aload_n 0, 1) := by decide +kernel
theorem dX5_comesWithout_5 : decode cX5_comesWithout 5 = .ok (.getfield 27, 3) := by decide +kernel
theorem dX5_comesWithout_8 : decode cX5_comesWithout 8 = .ok (.dup, 1) := by decide +kernel
theorem dX5_comesWithout_9 : decode cX5_comesWithout 9 = .ok (.getfield 56, 3) := by decide +kernel
theorem dX5_comesWithout_12 : decode cX5_comesWithout 12 = .ok (.iload_n 1, 1) := by decide +kernel
theorem dX5_comesWithout_13 : decode cX5_comesWithout 13 = .ok (.iconst (-1), 1) := by decide +kernel
theorem dX5_comesWithout_14 : decode cX5_comesWithout 14 = .ok (.ixor, 1) := by decide +kernel
theorem dX5_comesWithout_15 : decode cX5_comesWithout 15 = .ok (.iand, 1) := by decide +kernel
theorem dX5_comesWithout_16 : decode cX5_comesWithout 16 = .ok (.putfield 56, 3) := by decide +kernel
theorem dX5_comesWithout_19 : decode cX5_comesWithout 19 = .ok (.aload_n 0, 1) := by decide +kernel
theorem dX5_comesWithout_20 : decode cX5_comesWithout 20 = .ok (.iload_n 2, 1) := by decide +kernel
theorem dX5_comesWithout_21 : decode cX5_comesWithout 21 = .ok (.iload_n 3, 1) := by decide +kernel
theorem dX5_comesWithout_22 : decode cX5_comesWithout 22 = .ok (.iload 4, 2) := by decide +kernel
theorem dX5_comesWithout_24 : decode cX5_comesWithout 24 = .ok (.invokevirtual 52, 3) := by decide +kernel
theorem dX5_comesWithout_27 : decode cX5_comesWithout 27 = .ok (.ifCond .lt 7, 3) := by decide +kernel
theorem dX5_comesWithout_30 : decode cX5_comesWithout 30 = .ok (.iconst 1, 1) := by decide +kernel
theorem dX5_comesWithout_31 : decode cX5_comesWithout 31 = .ok (.goto 4, 3) := by decide +kernel
theorem dX5_comesWithout_34 : decode cX5_comesWithout 34 = .ok (.iconst 0, 1) := by decide +kernel
theorem dX5_comesWithout_35 : decode cX5_comesWithout 35 = .ok (.ireturn, 1) := by decide +kernel
theorem dX5_leastFilled_0 : decode cX5_leastFilled 0 = .ok (.aload_n 0, 1) := by decide +kernel
theorem dX5_leastFilled_1 : decode cX5_leastFilled 1 = .ok (.iconst 0, 1) := by decide +kernel
theorem dX5_leastFilled_2 : decode cX5_leastFilled 2 = .ok (.iload_n 1, 1) := by decide +kernel
theorem dX5_leastFilled_3 : decode cX5_leastFilled 3 = .ok (.iload_n 2, 1) := by decide +kernel
theorem dX5_leastFilled_4 : decode cX5_leastFilled 4 = .ok (.iload_n 3, 1) := by decide +kernel
theorem dX5_leastFilled_5 : decode cX5_leastFilled 5 = .ok (.invokevirtual 60, 3) := by decide +kernel
theorem dX5_leastFilled_8 : decode cX5_leastFilled 8 = .ok (.ifCond .eq 5, 3) := by decide +kernel
theorem dX5_leastFilled_11 : decode cX5_leastFilled 11 = .ok (.iconst 0, 1) := by decide +kernel
theorem dX5_leastFilled_12 : decode cX5_leastFilled 12 = .ok (.ireturn, 1) := by decide +kernel
theorem dX5_leastFilled_13 : decode cX5_leastFilled 13 = .ok (.iconst 1, 1) := by decide +kernel
theorem dX5_leastFilled_14 : decode cX5_leastFilled 14 = .ok (.istore 4, 2) := by decide +kernel
theorem dX5_leastFilled_16 : decode cX5_leastFilled 16 = .ok (.iload 4, 2) := by decide +kernel
theorem dX5_leastFilled_18 : decode cX5_leastFilled 18 = .ok (.bipush 15, 2) := by decide +kernel
theorem dX5_leastFilled_20 : decode cX5_leastFilled 20 = .ok (.if_icmp .ge 37, 3) := by decide +kernel
theorem dX5_leastFilled_23 : decode cX5_leastFilled 23 = .ok (.aload_n 0, 1) := by decide +kernel
theorem dX5_leastFilled_24 : decode cX5_leastFilled 24 = .ok (.iload 4, 2) := by decide +kernel
theorem dX5_leastFilled_26 : decode cX5_leastFilled 26 = .ok (.invokevirtual 64, 3) := by decide +kernel
theorem dX5_leastFilled_29 : decode cX5_leastFilled 29 = .ok (.ifCond .eq 22, 3) := by decide +kernel
theorem dX5_leastFilled_32 : decode cX5_leastFilled 32 = .ok (.aload_n 0, 1) := by decide +kernel
theorem dX5_leastFilled_33 : decode cX5_leastFilled 33 = .ok (.iconst 1, 1) := by decide +kernel
theorem dX5_leastFilled_34 : decode cX5_leastFilled 34 = .ok (.iload 4, 2) := by decide +kernel
theorem dX5_leastFilled_36 : decode cX5_leastFilled 36 = .ok (.ishl, 1) := by decide +kernel
theorem dX5_leastFilled_37 : decode cX5_leastFilled 37 = .ok (.iload_n 1, 1) := by decide +kernel
theorem dX5_leastFilled_38 : decode cX5_leastFilled 38 = .ok (.iload_n 2, 1) := by decide +kernel
theorem dX5_leastFilled_39 : decode cX5_leastFilled 39 = .ok (.iload_n 3, 1) := by decide +kernel
theorem dX5_leastFilled_40 : decode cX5_leastFilled 40 = .ok (.invokevirtual 60, 3) := by decide +kernel
theorem dX5_leastFilled_43 : decode cX5_leastFilled 43 = .ok (.ifCond .eq 8, 3) := by decide +kernel
theorem dX5_leastFilled_46 : decode cX5_leastFilled 46 = .ok (.iconst 1, 1) := by decide +kernel
theorem dX5_leastFilled_47 : decode cX5_leastFilled 47 = .ok (.iload 4, 2) := by decide +kernel
theorem dX5_leastFilled_49 : decode cX5_leastFilled 49 = .ok (.ishl, 1) := by decide +kernel
theorem dX5_leastFilled_50 : decode cX5_leastFilled 50 = .ok (.ireturn, 1) := by decide +kernel
theorem dX5_leastFilled_51 : decode cX5_leastFilled 51 = .ok (.iinc 4 1, 3) := by decide +kernel
theorem dX5_leastFilled_54 : decode cX5_leastFilled 54 = .ok (.goto (-38), 3) := by decide +kernel
theorem dX5_leastFilled_57 : decode cX5_leastFilled 57 = .ok (.iconst 2, 1) := by decide +kernel
theorem dX5_leastFilled_58 : decode cX5_leastFilled 58 = .ok (.istore 4, 2) := by decide +kernel
theorem dX5_leastFilled_60 : decode cX5_leastFilled 60 = .ok (.iload 4, 2) := by decide +kernel
theorem dX5_leastFilled_62 : decode cX5_leastFilled 62 = .ok (.bipush 15, 2) := by decide +kernel
theorem dX5_leastFilled_64 : decode cX5_leastFilled 64 = .ok (.if_icmp .ge 69, 3) := by decide +kernel
theorem dX5_leastFilled_67 : decode cX5_leastFilled 67 = .ok (.iconst 1, 1) := by decide +kernel
theorem dX5_leastFilled_68 : decode cX5_leastFilled 68 = .ok (.istore 5, 2) := by decide +kernel
theorem dX5_leastFilled_70 : decode cX5_leastFilled 70 = .ok (.iload 5, 2) := by decide +kernel
theorem dX5_leastFilled_72 : decode cX5_leastFilled 72 = .ok (.iload 4, 2) := by decide +kernel
theorem dX5_leastFilled_74 : decode cX5_leastFilled 74 = .ok (.if_icmp .ge 53, 3) := by decide +kernel
theorem dX5_leastFilled_77 : decode cX5_leastFilled 77 = .ok (.iconst 1, 1) := by decide +kernel
theorem dX5_leastFilled_78 : decode cX5_leastFilled 78 = .ok (.iload 4, 2) := by decide +kernel
theorem dX5_leastFilled_80 : decode cX5_leastFilled 80 = .ok (.ishl, 1) := by decide +kernel
theorem dX5_leastFilled_81 : decode cX5_leastFilled 81 = .ok (.iconst 1, 1) := by decide +kernel
theorem dX5_leastFilled_82 : decode cX5_leastFilled 82 = .ok (.iload 5, 2) := by decide +kernel
theorem dX5_leastFilled_84 : decode cX5_leastFilled 84 = .ok (.ishl, 1) := by decide +kernel
theorem dX5_leastFilled_85 : decode cX5_leastFilled 85 = .ok (.ior, 1) := by decide +kernel
theorem dX5_leastFilled_86 : decode cX5_leastFilled 86 = .ok (.istore 6, 2) := by decide +kernel
theorem dX5_leastFilled_88 : decode cX5_leastFilled 88 = .ok (.aload_n 0, 1) := by decide +kernel
theorem dX5_leastFilled_89 : decode cX5_leastFilled 89 = .ok (.iload 4, 2) := by decide +kernel
theorem dX5_leastFilled_91 : decode cX5_leastFilled 91 = .ok (.invokevirtual 64, 3) := by decide +kernel
theorem dX5_leastFilled_94 : decode cX5_leastFilled 94 = .ok (.ifCond .eq 27, 3) := by decide +kernel
theorem dX5_leastFilled_97 : decode cX5_leastFilled 97 = .ok (.aload_n 0, 1) := by decide +kernel
theorem dX5_leastFilled_98 : decode cX5_leastFilled 98 = .ok (.iload 5, 2) := by decide +kernel
theorem dX5_leastFilled_100 : decode cX5_leastFilled 100 = .ok (.invokevirtual 64, 3) := by decide +kernel
theorem dX5_leastFilled_103 : decode cX5_leastFilled 103 = .ok (.ifCond .eq 18, 3) := by decide +kernel
theorem dX5_leastFilled_106 : decode cX5_leastFilled 106 = .ok (.aload_n 0, 1) := by decide +kernel
theorem dX5_leastFilled_107 : decode cX5_leastFilled 107 = .ok (.iload 6, 2) := by decide +kernel
theorem dX5_leastFilled_109 : decode cX5_leastFilled 109 = .ok (.iload_n 1, 1) := by decide +kernel
theorem dX5_leastFilled_110 : decode cX5_leastFilled 110 = .ok (.iload_n 2, 1) := by decide +kernel
theorem dX5_leastFilled_111 : decode cX5_leastFilled 111 = .ok (.iload_n 3, 1) := by decide +kernel
theorem dX5_leastFilled_112 : decode cX5_leastFilled 112 = .ok (.invokevirtual 60, 3) := by decide +kernel
theorem dX5_leastFilled_115 : decode cX5_leastFilled 115 = .ok (.ifCond .eq 6, 3) := by decide +kernel
theorem dX5_leastFilled_118 : decode cX5_leastFilled 118 = .ok (.iload 6, 2) := by decide +kernel
theorem dX5_leastFilled_120 : decode cX5_leastFilled 120 = .ok (.ireturn, 1) := by decide +kernel
theorem dX5_leastFilled_121 : decode cX5_leastFilled 121 = .ok (.iinc 5 1, 3) := by decide +kernel
theorem dX5_leastFilled_124 : decode cX5_leastFilled 124 = .ok (.goto (-54), 3) := by decide +kernel
theorem dX5_leastFilled_127 : decode cX5_leastFilled 127 = .ok (.iinc 4 1, 3) := by decide +kernel
theorem dX5_leastFilled_130 : decode cX5_leastFilled 130 = .ok (.goto (-70), 3) := by decide +kernel
theorem dX5_leastFilled_133 : decode cX5_leastFilled 133 = .ok (.iconst (-1), 1) := by decide +kernel
theorem dX5_leastFilled_134 : decode cX5_leastFilled 134 = .ok (.ireturn, 1) := by decide +kernel
theorem dX5_isDrop_0 : decode cX5_isDrop 0 = .ok (.aload_n 0, 1) := by decide +kernel
theorem dX5_isDrop_1 : decode cX5_isDrop 1 = .ok (.getfield 9, 3) := by decide +kernel
theorem dX5_isDrop_4 : decode cX5_isDrop 4 = .ok (.getfield 56, 3) := by decide +kernel
theorem dX5_isDrop_7 : decode cX5_isDrop 7 = .ok (.iload_n 1, 1) := by decide +kernel
theorem dX5_isDrop_8 : decode cX5_isDrop 8 = .ok (.ishr, 1) := by decide +kernel
theorem dX5_isDrop_9 : decode cX5_isDrop 9 = .ok (.iconst 1, 1) := by decide +kernel
theorem dX5_isDrop_10 : decode cX5_isDrop 10 = .ok (.iand, 1) := by decide +kernel
theorem dX5_isDrop_11 : decode cX5_isDrop 11 = .ok (.ifCond .eq 7, 3) := by decide +kernel
theorem dX5_isDrop_14 : decode cX5_isDrop 14 = .ok (.iconst 1, 1) := by decide +kernel
theorem dX5_isDrop_15 : decode cX5_isDrop 15 = .ok (.goto 4, 3) := by decide +kernel
theorem dX5_isDrop_18 : decode cX5_isDrop 18 = .ok (.iconst 0, 1) := by decide +kernel
theorem dX5_isDrop_19 : decode cX5_isDrop 19 = .ok (.ireturn, 1) := by decide +kernel
theorem dX5_howFarWith_0 : decode cX5_howFarWith 0 = .ok (.aload_n 0, 1) := by decide +kernel
theorem dX5_howFarWith_1 : decode cX5_howFarWith 1 = .ok (.invokevirtual 46, 3) := by decide +kernel
theorem dX5_howFarWith_4 : decode cX5_howFarWith 4 = .ok (.aload_n 0, 1) := by decide +kernel
theorem dX5_howFarWith_5 : decode cX5_howFarWith 5 = .ok (.getfield 27, 3) := by decide +kernel
theorem dX5_howFarWith_8 : decode cX5_howFarWith 8 = .ok (.iload_n 1, 1) := by decide +kernel
theorem dX5_howFarWith_9 : decode cX5_howFarWith 9 = .ok (.aload_n 0, 1) := by decide +kernel
theorem dX5_howFarWith_10 : decode cX5_howFarWith 10 = .ok (.getfield 9, 3) := by decide +kernel
theorem dX5_howFarWith_13 : decode cX5_howFarWith 13 = .ok (.getfield 42, 3) := by decide +kernel
theorem dX5_howFarWith_16 : decode cX5_howFarWith 16 = .ok (.iload_n 2, 1) := by decide +kernel
theorem dX5_howFarWith_17 : decode cX5_howFarWith 17 = .ok (.iaload, 1) := by decide +kernel
theorem dX5_howFarWith_18 : decode cX5_howFarWith 18 = .ok (.invokevirtual 68, 3) := by decide +kernel
theorem dX5_howFarWith_21 : decode cX5_howFarWith 21 = .ok (.aload_n 0, 1) := by decide +kernel
theorem dX5_howFarWith_22 : decode cX5_howFarWith 22 = .ok (.iload_n 1, 1) := by decide +kernel
theorem dX5_howFarWith_23 : decode cX5_howFarWith 23 = .ok (.iload_n 3, 1) := by decide +kernel
theorem dX5_howFarWith_24 : decode cX5_howFarWith 24 = .ok (.invokevirtual 72, 3) := by decide +kernel
theorem dX5_howFarWith_27 : decode cX5_howFarWith 27 = .ok (.aload_n 0, 1) := by decide +kernel
theorem dX5_howFarWith_28 : decode cX5_howFarWith 28 = .ok (.getfield 27, 3) := by decide +kernel
theorem dX5_howFarWith_31 : decode cX5_howFarWith 31 = .ok (.getfield 38, 3) := by decide +kernel
theorem dX5_howFarWith_34 : decode cX5_howFarWith 34 = .ok (.iload_n 1, 1) := by decide +kernel
theorem dX5_howFarWith_35 : decode cX5_howFarWith 35 = .ok (.baload, 1) := by decide +kernel
theorem dX5_howFarWith_36 : decode cX5_howFarWith 36 = .ok (.ifCond .eq 7, 3) := by decide +kernel
theorem dX5_howFarWith_39 : decode cX5_howFarWith 39 = .ok (.iconst 0, 1) := by decide +kernel
theorem dX5_howFarWith_40 : decode cX5_howFarWith 40 = .ok (.goto 22, 3) := by decide +kernel
theorem dX5_howFarWith_43 : decode cX5_howFarWith 43 = .ok (.aload_n 0, 1) := by decide +kernel
theorem dX5_howFarWith_44 : decode cX5_howFarWith 44 = .ok (.getfield 27, 3) := by decide +kernel
theorem dX5_howFarWith_47 : decode cX5_howFarWith 47 = .ok (.getfield 42, 3) := by decide +kernel
theorem dX5_howFarWith_50 : decode cX5_howFarWith 50 = .ok (.iload_n 1, 1) := by decide +kernel
theorem dX5_howFarWith_51 : decode cX5_howFarWith 51 = .ok (.iaload, 1) := by decide +kernel
theorem dX5_howFarWith_52 : decode cX5_howFarWith 52 = .ok (.aload_n 0, 1) := by decide +kernel
theorem dX5_howFarWith_53 : decode cX5_howFarWith 53 = .ok (.getfield 9, 3) := by decide +kernel
theorem dX5_howFarWith_56 : decode cX5_howFarWith 56 = .ok (.getfield 42, 3) := by decide +kernel
theorem dX5_howFarWith_59 : decode cX5_howFarWith 59 = .ok (.iload_n 2, 1) := by decide +kernel
theorem dX5_howFarWith_60 : decode cX5_howFarWith 60 = .ok (.iaload, 1) := by decide +kernel
theorem dX5_howFarWith_61 : decode cX5_howFarWith 61 = .ok (.isub, 1) := by decide +kernel
theorem dX5_howFarWith_62 : decode cX5_howFarWith 62 = .ok (.ireturn, 1) := by decide +kernel
theorem dX5_clearsAs_0 : decode cX5_clearsAs 0 = .ok (.aload_n 0, 1) := by decide +kernel
theorem dX5_clearsAs_1 : decode cX5_clearsAs 1 = .ok (.invokevirtual 46, 3) := by decide +kernel
theorem dX5_clearsAs_4 : decode cX5_clearsAs 4 = .ok (.aload_n 0, 1) := by decide +kernel
theorem dX5_clearsAs_5 : decode cX5_clearsAs 5 = .ok (.getfield 27, 3) := by decide +kernel
theorem dX5_clearsAs_8 : decode cX5_clearsAs 8 = .ok (.getfield 49, 3) := by decide +kernel
theorem dX5_clearsAs_11 : decode cX5_clearsAs 11 = .ok (.iload_n 1, 1) := by decide +kernel
theorem dX5_clearsAs_12 : decode cX5_clearsAs 12 = .ok (.iload_n 2, 1) := by decide +kernel
theorem dX5_clearsAs_13 : decode cX5_clearsAs 13 = .ok (.iastore, 1) := by decide +kernel
theorem dX5_clearsAs_14 : decode cX5_clearsAs 14 = .ok (.iconst 0, 1) := by decide +kernel
theorem dX5_clearsAs_15 : decode cX5_clearsAs 15 = .ok (.istore 5, 2) := by decide +kernel
theorem dX5_clearsAs_17 : decode cX5_clearsAs 17 = .ok (.iload 5, 2) := by decide +kernel
theorem dX5_clearsAs_19 : decode cX5_clearsAs 19 = .ok (.iload 4, 2) := by decide +kernel
theorem dX5_clearsAs_21 : decode cX5_clearsAs 21 = .ok (.if_icmp .ge 34, 3) := by decide +kernel
theorem dX5_clearsAs_24 : decode cX5_clearsAs 24 = .ok (.aload_n 0, 1) := by decide +kernel
theorem dX5_clearsAs_25 : decode cX5_clearsAs 25 = .ok (.getfield 27, 3) := by decide +kernel
theorem dX5_clearsAs_28 : decode cX5_clearsAs 28 = .ok (.iload_n 1, 1) := by decide +kernel
theorem dX5_clearsAs_29 : decode cX5_clearsAs 29 = .ok (.invokevirtual 75, 3) := by decide +kernel
theorem dX5_clearsAs_32 : decode cX5_clearsAs 32 = .ok (.aload_n 3, 1) := by decide +kernel
theorem dX5_clearsAs_33 : decode cX5_clearsAs 33 = .ok (.iload 5, 2) := by decide +kernel
theorem dX5_clearsAs_35 : decode cX5_clearsAs 35 = .ok (.iaload, 1) := by decide +kernel
theorem dX5_clearsAs_36 : decode cX5_clearsAs 36 = .ok (.if_icmp .eq 5, 3) := by decide +kernel
theorem dX5_clearsAs_39 : decode cX5_clearsAs 39 = .ok (.iconst 0, 1) := by decide +kernel
theorem dX5_clearsAs_40 : decode cX5_clearsAs 40 = .ok (.ireturn, 1) := by decide +kernel
theorem dX5_clearsAs_41 : decode cX5_clearsAs 41 = .ok (.aload_n 0, 1) := by decide +kernel
theorem dX5_clearsAs_42 : decode cX5_clearsAs 42 = .ok (.getfield 27, 3) := by decide +kernel
theorem dX5_clearsAs_45 : decode cX5_clearsAs 45 = .ok (.iload_n 1, 1) := by decide +kernel
theorem dX5_clearsAs_46 : decode cX5_clearsAs 46 = .ok (.invokevirtual 34, 3) := by decide +kernel
theorem dX5_clearsAs_49 : decode cX5_clearsAs 49 = .ok (.iinc 5 1, 3) := by decide +kernel
theorem dX5_clearsAs_52 : decode cX5_clearsAs 52 = .ok (.goto (-35), 3) := by decide +kernel
theorem dX5_clearsAs_55 : decode cX5_clearsAs 55 = .ok (.iconst 1, 1) := by decide +kernel
theorem dX5_clearsAs_56 : decode cX5_clearsAs 56 = .ok (.ireturn, 1) := by decide +kernel
theorem dX6_init_0 : decode cX6_init 0 = .ok (.aload_n 0, 1) := by decide +kernel
theorem dX6_init_1 : decode cX6_init 1 = .ok (.invokespecial 3, 3) := by decide +kernel
theorem dX6_init_4 : decode cX6_init 4 = .ok (.aload_n 0, 1) := by decide +kernel
theorem dX6_init_5 : decode cX6_init 5 = .ok (.bipush 30, 2) := by decide +kernel
theorem dX6_init_7 : decode cX6_init 7 = .ok (.newarray .int, 2) := by decide +kernel
theorem dX6_init_9 : decode cX6_init 9 = .ok (.putfield 11, 3) := by decide +kernel
theorem dX6_init_12 : decode cX6_init 12 = .ok (.aload_n 0, 1) := by decide +kernel
theorem dX6_init_13 : decode cX6_init 13 = .ok (.iconst 0, 1) := by decide +kernel
theorem dX6_init_14 : decode cX6_init 14 = .ok (.putfield 15, 3) := by decide +kernel
theorem dX6_init_17 : decode cX6_init 17 = .ok (.aload_n 0, 1) := by decide +kernel
theorem dX6_init_18 : decode cX6_init 18 = .ok (.iconst 0, 1) := by decide +kernel
theorem dX6_init_19 : decode cX6_init 19 = .ok (.putfield 19, 3) := by decide +kernel
theorem dX6_init_22 : decode cX6_init 22 = .ok (.return_, 1) := by decide +kernel
theorem dX6_speaks_0 : decode cX6_speaks 0 = .ok (.aload_n 0, 1) := by decide +kernel
theorem dX6_speaks_1 : decode cX6_speaks 1 = .ok (.iload_n 1, 1) := by decide +kernel
theorem dX6_speaks_2 : decode cX6_speaks 2 = .ok (.putfield 23, 3) := by decide +kernel
theorem dX6_speaks_5 : decode cX6_speaks 5 = .ok (.aload_n 0, 1) := by decide +kernel
theorem dX6_speaks_6 : decode cX6_speaks 6 = .ok (.iload_n 2, 1) := by decide +kernel
theorem dX6_speaks_7 : decode cX6_speaks 7 = .ok (.putfield 26, 3) := by decide +kernel
theorem dX6_speaks_10 : decode cX6_speaks 10 = .ok (.aload_n 0, 1) := by decide +kernel
theorem dX6_speaks_11 : decode cX6_speaks 11 = .ok (.iload_n 3, 1) := by decide +kernel
theorem dX6_speaks_12 : decode cX6_speaks 12 = .ok (.putfield 29, 3) := by decide +kernel
theorem dX6_speaks_15 : decode cX6_speaks 15 = .ok (.aload_n 0, 1) := by decide +kernel
theorem dX6_speaks_16 : decode cX6_speaks 16 = .ok (.iconst 0, 1) := by decide +kernel
theorem dX6_speaks_17 : decode cX6_speaks 17 = .ok (.putfield 15, 3) := by decide +kernel
theorem dX6_speaks_20 : decode cX6_speaks 20 = .ok (.aload_n 0, 1) := by decide +kernel
theorem dX6_speaks_21 : decode cX6_speaks 21 = .ok (.iconst 0, 1) := by decide +kernel
theorem dX6_speaks_22 : decode cX6_speaks 22 = .ok (.putfield 19, 3) := by decide +kernel
theorem dX6_speaks_25 : decode cX6_speaks 25 = .ok (.aload_n 0, 1) := by decide +kernel
theorem dX6_speaks_26 : decode cX6_speaks 26 = .ok (.iload_n 1, 1) := by decide +kernel
theorem dX6_speaks_27 : decode cX6_speaks 27 = .ok (.iload 4, 2) := by decide +kernel
theorem dX6_speaks_29 : decode cX6_speaks 29 = .ok (.invokestatic 32, 3) := by decide +kernel
theorem dX6_speaks_32 : decode cX6_speaks 32 = .ok (.iload 5, 2) := by decide +kernel
theorem dX6_speaks_34 : decode cX6_speaks 34 = .ok (.iconst 0, 1) := by decide +kernel
theorem dX6_speaks_35 : decode cX6_speaks 35 = .ok (.invokevirtual 36, 3) := by decide +kernel
theorem dX6_speaks_38 : decode cX6_speaks 38 = .ok (.ireturn, 1) := by decide +kernel
theorem dX6_says_0 : decode cX6_says 0 = .ok (.aload_n 0, 1) := by decide +kernel
theorem dX6_says_1 : decode cX6_says 1 = .ok (.aload_n 0, 1) := by decide +kernel
theorem dX6_says_2 : decode cX6_says 2 = .ok (.getfield 23, 3) := by decide +kernel
theorem dX6_says_5 : decode cX6_says 5 = .ok (.iconst 0, 1) := by decide +kernel
theorem dX6_says_6 : decode cX6_says 6 = .ok (.invokestatic 32, 3) := by decide +kernel
theorem dX6_says_9 : decode cX6_says 9 = .ok (.iload_n 1, 1) := by decide +kernel
theorem dX6_says_10 : decode cX6_says 10 = .ok (.iload_n 2, 1) := by decide +kernel
theorem dX6_says_11 : decode cX6_says 11 = .ok (.invokevirtual 36, 3) := by decide +kernel
theorem dX6_says_14 : decode cX6_says 14 = .ok (.ireturn, 1) := by decide +kernel
theorem dX6_sees_0 : decode cX6_sees 0 = .ok (.aload_n 0, 1) := by decide +kernel
theorem dX6_sees_1 : decode cX6_sees 1 = .ok (.aload_n 0, 1) := by decide +kernel
theorem dX6_sees_2 : decode cX6_sees 2 = .ok (.getfield 23, 3) := by decide +kernel
theorem dX6_sees_5 : decode cX6_sees 5 = .ok (.iconst 1, 1) := by decide +kernel
theorem dX6_sees_6 : decode cX6_sees 6 = .ok (.invokestatic 32, 3) := by decide +kernel
theorem dX6_sees_9 : decode cX6_sees 9 = .ok (.iload_n 1, 1) := by decide +kernel
theorem dX6_sees_10 : decode cX6_sees 10 = .ok (.iload_n 2, 1) := by decide +kernel
theorem dX6_sees_11 : decode cX6_sees 11 = .ok (.invokevirtual 36, 3) := by decide +kernel
theorem dX6_sees_14 : decode cX6_sees 14 = .ok (.ireturn, 1) := by decide +kernel
theorem dX6_above_0 : decode cX6_above 0 = .ok (.aload_n 0, 1) := by decide +kernel
theorem dX6_above_1 : decode cX6_above 1 = .ok (.getstatic 40, 3) := by decide +kernel
theorem dX6_above_4 : decode cX6_above 4 = .ok (.iload_n 1, 1) := by decide +kernel
theorem dX6_above_5 : decode cX6_above 5 = .ok (.bipush 10, 2) := by decide +kernel
theorem dX6_above_7 : decode cX6_above 7 = .ok (.idiv, 1) := by decide +kernel
theorem dX6_above_8 : decode cX6_above 8 = .ok (.iconst 1, 1) := by decide +kernel
theorem dX6_above_9 : decode cX6_above 9 = .ok (.isub, 1) := by decide +kernel
theorem dX6_above_10 : decode cX6_above 10 = .ok (.iaload, 1) := by decide +kernel
theorem dX6_above_11 : decode cX6_above 11 = .ok (.iload_n 2, 1) := by decide +kernel
theorem dX6_above_12 : decode cX6_above 12 = .ok (.invokestatic 32, 3) := by decide +kernel
theorem dX6_above_15 : decode cX6_above 15 = .ok (.iload_n 3, 1) := by decide +kernel
theorem dX6_above_16 : decode cX6_above 16 = .ok (.iload 4, 2) := by decide +kernel
theorem dX6_above_18 : decode cX6_above 18 = .ok (.invokevirtual 36, 3) := by decide +kernel
theorem dX6_above_21 : decode cX6_above 21 = .ok (.ireturn, 1) := by decide +kernel
theorem dX6_partsBy_0 : decode cX6_partsBy 0 = .ok (.iload_n 1, 1) := by decide +kernel
theorem dX6_partsBy_1 : decode cX6_partsBy 1 = .ok (.ifCond .ne 10, 3) := by decide +kernel
theorem dX6_partsBy_4 : decode cX6_partsBy 4 = .ok (.aload_n 0, 1) := by decide +kernel
theorem dX6_partsBy_5 : decode cX6_partsBy 5 = .ok (.iconst 1, 1) := by decide +kernel
theorem dX6_partsBy_6 : decode cX6_partsBy 6 = .ok (.putfield 19, 3) := by decide +kernel
theorem dX6_partsBy_9 : decode cX6_partsBy 9 = .ok (.iconst 0, 1) := by decide +kernel
theorem dX6_partsBy_10 : decode cX6_partsBy 10 = .ok (.ireturn, 1) := by decide +kernel
theorem dX6_partsBy_11 : decode cX6_partsBy 11 = .ok (.iload_n 2, 1) := by decide +kernel
theorem dX6_partsBy_12 : decode cX6_partsBy 12 = .ok (.iload_n 1, 1) := by decide +kernel
theorem dX6_partsBy_13 : decode cX6_partsBy 13 = .ok (.idiv, 1) := by decide +kernel
theorem dX6_partsBy_14 : decode cX6_partsBy 14 = .ok (.ireturn, 1) := by decide +kernel
theorem dX6_worksOut_0 : decode cX6_worksOut 0 = .ok (.aload_n 0, 1) := by decide +kernel
theorem dX6_worksOut_1 : decode cX6_worksOut 1 = .ok (.getfield 19, 3) := by decide +kernel
theorem dX6_worksOut_4 : decode cX6_worksOut 4 = .ok (.ifCond .ne 13, 3) := by decide +kernel
theorem dX6_worksOut_7 : decode cX6_worksOut 7 = .ok (.iload_n 1, 1) := by decide +kernel
theorem dX6_worksOut_8 : decode cX6_worksOut 8 = .ok (.ifCond .eq 9, 3) := by decide +kernel
theorem dX6_worksOut_11 : decode cX6_worksOut 11 = .ok (.iload_n 3, 1) := by decide +kernel
theorem dX6_worksOut_12 : decode cX6_worksOut 12 = .ok (.bipush 20, 2) := by decide +kernel
theorem dX6_worksOut_14 : decode cX6_worksOut 14 = .ok (.if_icmp .le 5, 3) := by decide +kernel
theorem dX6_worksOut_17 : decode cX6_worksOut 17 = .ok (.iconst 0, 1) := by decide +kernel
theorem dX6_worksOut_18 : decode cX6_worksOut 18 = .ok (.ireturn, 1) := by decide +kernel
theorem dX6_worksOut_19 : decode cX6_worksOut 19 = .ok (.aload_n 0, 1) := by decide +kernel
theorem dX6_worksOut_20 : decode cX6_worksOut 20 = .ok (.iload_n 1, 1) := by decide +kernel
theorem dX6_worksOut_21 : decode cX6_worksOut 21 = .ok (.invokevirtual 43, 3) := by decide +kernel
theorem dX6_worksOut_24 : decode cX6_worksOut 24 = .ok (.iload_n 3, 1) := by decide +kernel
theorem dX6_worksOut_25 : decode cX6_worksOut 25 = .ok (.iconst 1, 1) := by decide +kernel
theorem dX6_worksOut_26 : decode cX6_worksOut 26 = .ok (.iadd, 1) := by decide +kernel
theorem dX6_worksOut_27 : decode cX6_worksOut 27 = .ok (.istore 4, 2) := by decide +kernel
theorem dX6_worksOut_29 : decode cX6_worksOut 29 = .ok (.iload_n 1, 1) := by decide +kernel
theorem dX6_worksOut_30 : decode cX6_worksOut 30 = .ok (.lookupswitch 270 #[(10, 114), (11, 121), (12, 131), (13, 144), (20, 159), (21, 171), (30, 189), (40, 201), (50, 213), (51, 225), (60, 240), (70, 252), (71, 255)], 114) := by decide +kernel
theorem dX6_worksOut_144 : decode cX6_worksOut 144 = .ok (.iload_n 2, 1) := by decide +kernel
theorem dX6_worksOut_145 : decode cX6_worksOut 145 = .ok (.aload_n 0, 1) := by decide +kernel
theorem dX6_worksOut_146 : decode cX6_worksOut 146 = .ok (.getfield 26, 3) := by decide +kernel
theorem dX6_worksOut_149 : decode cX6_worksOut 149 = .ok (.iadd, 1) := by decide +kernel
theorem dX6_worksOut_150 : decode cX6_worksOut 150 = .ok (.ireturn, 1) := by decide +kernel
theorem dX6_worksOut_151 : decode cX6_worksOut 151 = .ok (.aload_n 0, 1) := by decide +kernel
theorem dX6_worksOut_152 : decode cX6_worksOut 152 = .ok (.iload_n 2, 1) := by decide +kernel
theorem dX6_worksOut_153 : decode cX6_worksOut 153 = .ok (.iload 4, 2) := by decide +kernel
theorem dX6_worksOut_155 : decode cX6_worksOut 155 = .ok (.invokevirtual 47, 3) := by decide +kernel
theorem dX6_worksOut_158 : decode cX6_worksOut 158 = .ok (.iconst 2, 1) := by decide +kernel
theorem dX6_worksOut_159 : decode cX6_worksOut 159 = .ok (.imul, 1) := by decide +kernel
theorem dX6_worksOut_160 : decode cX6_worksOut 160 = .ok (.ireturn, 1) := by decide +kernel
theorem dX6_worksOut_161 : decode cX6_worksOut 161 = .ok (.aload_n 0, 1) := by decide +kernel
theorem dX6_worksOut_162 : decode cX6_worksOut 162 = .ok (.iload_n 2, 1) := by decide +kernel
theorem dX6_worksOut_163 : decode cX6_worksOut 163 = .ok (.iload 4, 2) := by decide +kernel
theorem dX6_worksOut_165 : decode cX6_worksOut 165 = .ok (.invokevirtual 50, 3) := by decide +kernel
theorem dX6_worksOut_168 : decode cX6_worksOut 168 = .ok (.aload_n 0, 1) := by decide +kernel
theorem dX6_worksOut_169 : decode cX6_worksOut 169 = .ok (.getfield 29, 3) := by decide +kernel
theorem dX6_worksOut_172 : decode cX6_worksOut 172 = .ok (.isub, 1) := by decide +kernel
theorem dX6_worksOut_173 : decode cX6_worksOut 173 = .ok (.ireturn, 1) := by decide +kernel
theorem dX6_worksOut_174 : decode cX6_worksOut 174 = .ok (.aload_n 0, 1) := by decide +kernel
theorem dX6_worksOut_175 : decode cX6_worksOut 175 = .ok (.aload_n 0, 1) := by decide +kernel
theorem dX6_worksOut_176 : decode cX6_worksOut 176 = .ok (.getfield 29, 3) := by decide +kernel
theorem dX6_worksOut_179 : decode cX6_worksOut 179 = .ok (.aload_n 0, 1) := by decide +kernel
theorem dX6_worksOut_180 : decode cX6_worksOut 180 = .ok (.getfield 26, 3) := by decide +kernel
theorem dX6_worksOut_183 : decode cX6_worksOut 183 = .ok (.isub, 1) := by decide +kernel
theorem dX6_worksOut_184 : decode cX6_worksOut 184 = .ok (.iload_n 2, 1) := by decide +kernel
theorem dX6_worksOut_185 : decode cX6_worksOut 185 = .ok (.invokevirtual 53, 3) := by decide +kernel
theorem dX6_worksOut_188 : decode cX6_worksOut 188 = .ok (.ireturn, 1) := by decide +kernel
theorem dX6_worksOut_189 : decode cX6_worksOut 189 = .ok (.aload_n 0, 1) := by decide +kernel
theorem dX6_worksOut_190 : decode cX6_worksOut 190 = .ok (.iload_n 1, 1) := by decide +kernel
theorem dX6_worksOut_191 : decode cX6_worksOut 191 = .ok (.iconst 0, 1) := by decide +kernel
theorem dX6_worksOut_192 : decode cX6_worksOut 192 = .ok (.iload_n 2, 1) := by decide +kernel
theorem dX6_worksOut_193 : decode cX6_worksOut 193 = .ok (.iload 4, 2) := by decide +kernel
theorem dX6_worksOut_195 : decode cX6_worksOut 195 = .ok (.invokevirtual 56, 3) := by decide +kernel
theorem dX6_worksOut_198 : decode cX6_worksOut 198 = .ok (.iconst 4, 1) := by decide +kernel
theorem dX6_worksOut_199 : decode cX6_worksOut 199 = .ok (.isub, 1) := by decide +kernel
theorem dX6_worksOut_200 : decode cX6_worksOut 200 = .ok (.ireturn, 1) := by decide +kernel
theorem dX6_worksOut_201 : decode cX6_worksOut 201 = .ok (.aload_n 0, 1) := by decide +kernel
theorem dX6_worksOut_202 : decode cX6_worksOut 202 = .ok (.iload_n 1, 1) := by decide +kernel
theorem dX6_worksOut_203 : decode cX6_worksOut 203 = .ok (.iconst 3, 1) := by decide +kernel
theorem dX6_worksOut_204 : decode cX6_worksOut 204 = .ok (.iload_n 2, 1) := by decide +kernel
theorem dX6_worksOut_205 : decode cX6_worksOut 205 = .ok (.iload 4, 2) := by decide +kernel
theorem dX6_worksOut_207 : decode cX6_worksOut 207 = .ok (.invokevirtual 56, 3) := by decide +kernel
theorem dX6_worksOut_210 : decode cX6_worksOut 210 = .ok (.aload_n 0, 1) := by decide +kernel
theorem dX6_worksOut_211 : decode cX6_worksOut 211 = .ok (.iconst 1, 1) := by decide +kernel
theorem dX6_worksOut_212 : decode cX6_worksOut 212 = .ok (.iload 4, 2) := by decide +kernel
theorem dX6_worksOut_214 : decode cX6_worksOut 214 = .ok (.invokevirtual 50, 3) := by decide +kernel
theorem dX6_worksOut_217 : decode cX6_worksOut 217 = .ok (.iadd, 1) := by decide +kernel
theorem dX6_worksOut_218 : decode cX6_worksOut 218 = .ok (.ireturn, 1) := by decide +kernel
theorem dX6_worksOut_219 : decode cX6_worksOut 219 = .ok (.iconst 0, 1) := by decide +kernel
theorem dX6_worksOut_220 : decode cX6_worksOut 220 = .ok (.aload_n 0, 1) := by decide +kernel
theorem dX6_worksOut_221 : decode cX6_worksOut 221 = .ok (.iload_n 1, 1) := by decide +kernel
theorem dX6_worksOut_222 : decode cX6_worksOut 222 = .ok (.iconst 1, 1) := by decide +kernel
theorem dX6_worksOut_223 : decode cX6_worksOut 223 = .ok (.iload_n 2, 1) := by decide +kernel
theorem dX6_worksOut_224 : decode cX6_worksOut 224 = .ok (.iload 4, 2) := by decide +kernel
theorem dX6_worksOut_226 : decode cX6_worksOut 226 = .ok (.invokevirtual 56, 3) := by decide +kernel
theorem dX6_worksOut_229 : decode cX6_worksOut 229 = .ok (.isub, 1) := by decide +kernel
theorem dX6_worksOut_230 : decode cX6_worksOut 230 = .ok (.ireturn, 1) := by decide +kernel
theorem dX6_worksOut_231 : decode cX6_worksOut 231 = .ok (.aload_n 0, 1) := by decide +kernel
theorem dX6_worksOut_232 : decode cX6_worksOut 232 = .ok (.iload_n 1, 1) := by decide +kernel
theorem dX6_worksOut_233 : decode cX6_worksOut 233 = .ok (.iconst 2, 1) := by decide +kernel
theorem dX6_worksOut_234 : decode cX6_worksOut 234 = .ok (.iload_n 2, 1) := by decide +kernel
theorem dX6_worksOut_235 : decode cX6_worksOut 235 = .ok (.iconst 2, 1) := by decide +kernel
theorem dX6_worksOut_236 : decode cX6_worksOut 236 = .ok (.idiv, 1) := by decide +kernel
theorem dX6_worksOut_237 : decode cX6_worksOut 237 = .ok (.iload 4, 2) := by decide +kernel
theorem dX6_worksOut_239 : decode cX6_worksOut 239 = .ok (.invokevirtual 56, 3) := by decide +kernel
theorem dX6_worksOut_242 : decode cX6_worksOut 242 = .ok (.ireturn, 1) := by decide +kernel
theorem dX6_worksOut_243 : decode cX6_worksOut 243 = .ok (.aload_n 0, 1) := by decide +kernel
theorem dX6_worksOut_244 : decode cX6_worksOut 244 = .ok (.iload_n 1, 1) := by decide +kernel
theorem dX6_worksOut_245 : decode cX6_worksOut 245 = .ok (.iconst 0, 1) := by decide +kernel
theorem dX6_worksOut_246 : decode cX6_worksOut 246 = .ok (.iload_n 2, 1) := by decide +kernel
theorem dX6_worksOut_247 : decode cX6_worksOut 247 = .ok (.iload 4, 2) := by decide +kernel
theorem dX6_worksOut_249 : decode cX6_worksOut 249 = .ok (.invokevirtual 56, 3) := by decide +kernel
theorem dX6_worksOut_252 : decode cX6_worksOut 252 = .ok (.iconst 3, 1) := by decide +kernel
theorem dX6_worksOut_253 : decode cX6_worksOut 253 = .ok (.imul, 1) := by decide +kernel
theorem dX6_worksOut_254 : decode cX6_worksOut 254 = .ok (.ireturn, 1) := by decide +kernel
theorem dX6_worksOut_255 : decode cX6_worksOut 255 = .ok (.aload_n 0, 1) := by decide +kernel
theorem dX6_worksOut_256 : decode cX6_worksOut 256 = .ok (.iload_n 1, 1) := by decide +kernel
theorem dX6_worksOut_257 : decode cX6_worksOut 257 = .ok (.iconst 2, 1) := by decide +kernel
theorem dX6_worksOut_258 : decode cX6_worksOut 258 = .ok (.iload_n 2, 1) := by decide +kernel
theorem dX6_worksOut_259 : decode cX6_worksOut 259 = .ok (.iload 4, 2) := by decide +kernel
theorem dX6_worksOut_261 : decode cX6_worksOut 261 = .ok (.invokevirtual 56, 3) := by decide +kernel
theorem dX6_worksOut_264 : decode cX6_worksOut 264 = .ok (.aload_n 0, 1) := by decide +kernel
theorem dX6_worksOut_265 : decode cX6_worksOut 265 = .ok (.getfield 26, 3) := by decide +kernel
theorem dX6_worksOut_268 : decode cX6_worksOut 268 = .ok (.ixor, 1) := by decide +kernel
theorem dX6_worksOut_269 : decode cX6_worksOut 269 = .ok (.ireturn, 1) := by decide +kernel
theorem dX6_worksOut_270 : decode cX6_worksOut 270 = .ok (.aload_n 0, 1) := by decide +kernel
theorem dX6_worksOut_271 : decode cX6_worksOut 271 = .ok (.iload_n 1, 1) := by decide +kernel
theorem dX6_worksOut_272 : decode cX6_worksOut 272 = .ok (.iconst 1, 1) := by decide +kernel
theorem dX6_worksOut_273 : decode cX6_worksOut 273 = .ok (.iload_n 2, 1) := by decide +kernel
theorem dX6_worksOut_274 : decode cX6_worksOut 274 = .ok (.iconst 1, 1) := by decide +kernel
theorem dX6_worksOut_275 : decode cX6_worksOut 275 = .ok (.iadd, 1) := by decide +kernel
theorem dX6_worksOut_276 : decode cX6_worksOut 276 = .ok (.iload 4, 2) := by decide +kernel
theorem dX6_worksOut_278 : decode cX6_worksOut 278 = .ok (.invokevirtual 56, 3) := by decide +kernel
theorem dX6_worksOut_281 : decode cX6_worksOut 281 = .ok (.ireturn, 1) := by decide +kernel
theorem dX6_worksOut_282 : decode cX6_worksOut 282 = .ok (.bipush 9, 2) := by decide +kernel
theorem dX6_worksOut_284 : decode cX6_worksOut 284 = .ok (.ireturn, 1) := by decide +kernel
theorem dX6_worksOut_285 : decode cX6_worksOut 285 = .ok (.aload_n 0, 1) := by decide +kernel
theorem dX6_worksOut_286 : decode cX6_worksOut 286 = .ok (.iload_n 1, 1) := by decide +kernel
theorem dX6_worksOut_287 : decode cX6_worksOut 287 = .ok (.iconst 1, 1) := by decide +kernel
theorem dX6_worksOut_288 : decode cX6_worksOut 288 = .ok (.iload_n 2, 1) := by decide +kernel
theorem dX6_worksOut_289 : decode cX6_worksOut 289 = .ok (.iload 4, 2) := by decide +kernel
theorem dX6_worksOut_291 : decode cX6_worksOut 291 = .ok (.invokevirtual 56, 3) := by decide +kernel
theorem dX6_worksOut_294 : decode cX6_worksOut 294 = .ok (.aload_n 0, 1) := by decide +kernel
theorem dX6_worksOut_295 : decode cX6_worksOut 295 = .ok (.getfield 29, 3) := by decide +kernel
theorem dX6_worksOut_298 : decode cX6_worksOut 298 = .ok (.iadd, 1) := by decide +kernel
theorem dX6_worksOut_299 : decode cX6_worksOut 299 = .ok (.ireturn, 1) := by decide +kernel
theorem dX6_worksOut_300 : decode cX6_worksOut 300 = .ok (.iconst 0, 1) := by decide +kernel
theorem dX6_worksOut_301 : decode cX6_worksOut 301 = .ok (.ireturn, 1) := by decide +kernel
theorem dX6_begins_0 : decode cX6_begins 0 = .ok (.aload_n 0, 1) := by decide +kernel
theorem dX6_begins_1 : decode cX6_begins 1 = .ok (.getfield 15, 3) := by decide +kernel
theorem dX6_begins_4 : decode cX6_begins 4 = .ok (.bipush 30, 2) := by decide +kernel
theorem dX6_begins_6 : decode cX6_begins 6 = .ok (.if_icmp .ge 23, 3) := by decide +kernel
theorem dX6_begins_9 : decode cX6_begins 9 = .ok (.aload_n 0, 1) := by decide +kernel
theorem dX6_begins_10 : decode cX6_begins 10 = .ok (.getfield 11, 3) := by decide +kernel
theorem dX6_begins_13 : decode cX6_begins 13 = .ok (.aload_n 0, 1) := by decide +kernel
theorem dX6_begins_14 : decode cX6_begins 14 = .ok (.getfield 15, 3) := by decide +kernel
theorem dX6_begins_17 : decode cX6_begins 17 = .ok (.iload_n 1, 1) := by decide +kernel
theorem dX6_begins_18 : decode cX6_begins 18 = .ok (.iastore, 1) := by decide +kernel
theorem dX6_begins_19 : decode cX6_begins 19 = .ok (.aload_n 0, 1) := by decide +kernel
theorem dX6_begins_20 : decode cX6_begins 20 = .ok (.dup, 1) := by decide +kernel
theorem dX6_begins_21 : decode cX6_begins 21 = .ok (.getfield 15, 3) := by decide +kernel
theorem dX6_begins_24 : decode cX6_begins 24 = .ok (.iconst 1, 1) := by decide +kernel
theorem dX6_begins_25 : decode cX6_begins 25 = .ok (.iadd, 1) := by decide +kernel
theorem dX6_begins_26 : decode cX6_begins 26 = .ok (.putfield 15, 3) := by decide +kernel
theorem dX6_begins_29 : decode cX6_begins 29 = .ok (.return_, 1) := by decide +kernel
theorem dX6_bodyFrom_0 : decode cX6_bodyFrom 0 = .ok (.iload_n 0, 1) := by decide +kernel
theorem dX6_bodyFrom_1 : decode cX6_bodyFrom 1 = .ok (.istore_n 2, 1) := by decide +kernel
theorem dX6_bodyFrom_2 : decode cX6_bodyFrom 2 = .ok (.iconst 0, 1) := by decide +kernel
theorem dX6_bodyFrom_3 : decode cX6_bodyFrom 3 = .ok (.istore_n 3, 1) := by decide +kernel
theorem dX6_bodyFrom_4 : decode cX6_bodyFrom 4 = .ok (.iload_n 3, 1) := by decide +kernel
theorem dX6_bodyFrom_5 : decode cX6_bodyFrom 5 = .ok (.bipush 7, 2) := by decide +kernel
theorem dX6_bodyFrom_7 : decode cX6_bodyFrom 7 = .ok (.if_icmp .ge 38, 3) := by decide +kernel
theorem dX6_bodyFrom_10 : decode cX6_bodyFrom 10 = .ok (.iload_n 2, 1) := by decide +kernel
theorem dX6_bodyFrom_11 : decode cX6_bodyFrom 11 = .ok (.ifCond .lt 34, 3) := by decide +kernel
theorem dX6_bodyFrom_14 : decode cX6_bodyFrom 14 = .ok (.getstatic 60, 3) := by decide +kernel
theorem dX6_bodyFrom_17 : decode cX6_bodyFrom 17 = .ok (.iconst 4, 1) := by decide +kernel
theorem dX6_bodyFrom_18 : decode cX6_bodyFrom 18 = .ok (.iload_n 2, 1) := by decide +kernel
theorem dX6_bodyFrom_19 : decode cX6_bodyFrom 19 = .ok (.imul, 1) := by decide +kernel
theorem dX6_bodyFrom_20 : decode cX6_bodyFrom 20 = .ok (.iload_n 1, 1) := by decide +kernel
theorem dX6_bodyFrom_21 : decode cX6_bodyFrom 21 = .ok (.iadd, 1) := by decide +kernel
theorem dX6_bodyFrom_22 : decode cX6_bodyFrom 22 = .ok (.iaload, 1) := by decide +kernel
theorem dX6_bodyFrom_23 : decode cX6_bodyFrom 23 = .ok (.istore 4, 2) := by decide +kernel
theorem dX6_bodyFrom_25 : decode cX6_bodyFrom 25 = .ok (.iload 4, 2) := by decide +kernel
theorem dX6_bodyFrom_27 : decode cX6_bodyFrom 27 = .ok (.ifCond .eq 6, 3) := by decide +kernel
theorem dX6_bodyFrom_30 : decode cX6_bodyFrom 30 = .ok (.iload 4, 2) := by decide +kernel
theorem dX6_bodyFrom_32 : decode cX6_bodyFrom 32 = .ok (.ireturn, 1) := by decide +kernel
theorem dX6_bodyFrom_33 : decode cX6_bodyFrom 33 = .ok (.getstatic 40, 3) := by decide +kernel
theorem dX6_bodyFrom_36 : decode cX6_bodyFrom 36 = .ok (.iload_n 2, 1) := by decide +kernel
theorem dX6_bodyFrom_37 : decode cX6_bodyFrom 37 = .ok (.iaload, 1) := by decide +kernel
theorem dX6_bodyFrom_38 : decode cX6_bodyFrom 38 = .ok (.istore_n 2, 1) := by decide +kernel
theorem dX6_bodyFrom_39 : decode cX6_bodyFrom 39 = .ok (.iinc 3 1, 3) := by decide +kernel
theorem dX6_bodyFrom_42 : decode cX6_bodyFrom 42 = .ok (.goto (-38), 3) := by decide +kernel
theorem dX6_bodyFrom_45 : decode cX6_bodyFrom 45 = .ok (.iconst 0, 1) := by decide +kernel
theorem dX6_bodyFrom_46 : decode cX6_bodyFrom 46 = .ok (.ireturn, 1) := by decide +kernel
theorem dX7_init_0 : decode cX7_init 0 = .ok (.aload_n 0, 1) := by decide +kernel
theorem dX7_init_1 : decode cX7_init 1 = .ok (.invokespecial 1, 3) := by decide +kernel
theorem dX7_init_4 : decode cX7_init 4 = .ok (.aload_n 0, 1) := by decide +kernel
theorem dX7_init_5 : decode cX7_init 5 = .ok (.new 7, 3) := by decide +kernel
theorem dX7_init_8 : decode cX7_init 8 = .ok (.dup, 1) := by decide +kernel
theorem dX7_init_9 : decode cX7_init 9 = .ok (.invokespecial 9, 3) := by decide +kernel
theorem dX7_init_12 : decode cX7_init 12 = .ok (.putfield 10, 3) := by decide +kernel
theorem dX7_init_15 : decode cX7_init 15 = .ok (.aload_n 0, 1) := by decide +kernel
theorem dX7_init_16 : decode cX7_init 16 = .ok (.new 7, 3) := by decide +kernel
theorem dX7_init_19 : decode cX7_init 19 = .ok (.dup, 1) := by decide +kernel
theorem dX7_init_20 : decode cX7_init 20 = .ok (.invokespecial 9, 3) := by decide +kernel
theorem dX7_init_23 : decode cX7_init 23 = .ok (.putfield 16, 3) := by decide +kernel
theorem dX7_init_26 : decode cX7_init 26 = .ok (.aload_n 0, 1) := by decide +kernel
theorem dX7_init_27 : decode cX7_init 27 = .ok (.new 19, 3) := by decide +kernel
theorem dX7_init_30 : decode cX7_init 30 = .ok (.dup, 1) := by decide +kernel
theorem dX7_init_31 : decode cX7_init 31 = .ok (.aload_n 0, 1) := by decide +kernel
theorem dX7_init_32 : decode cX7_init 32 = .ok (.getfield 10, 3) := by decide +kernel
theorem dX7_init_35 : decode cX7_init 35 = .ok (.getfield 21, 3) := by decide +kernel
theorem dX7_init_38 : decode cX7_init 38 = .ok (.invokespecial 25, 3) := by decide +kernel
theorem dX7_init_41 : decode cX7_init 41 = .ok (.putfield 28, 3) := by decide +kernel
theorem dX7_init_44 : decode cX7_init 44 = .ok (.aload_n 0, 1) := by decide +kernel
theorem dX7_init_45 : decode cX7_init 45 = .ok (.new 32, 3) := by decide +kernel
theorem dX7_init_48 : decode cX7_init 48 = .ok (.dup, 1) := by decide +kernel
theorem dX7_init_49 : decode cX7_init 49 = .ok (.aload_n 0, 1) := by decide +kernel
theorem dX7_init_50 : decode cX7_init 50 = .ok (.getfield 10, 3) := by decide +kernel
theorem dX7_init_53 : decode cX7_init 53 = .ok (.getfield 34, 3) := by decide +kernel
theorem dX7_init_56 : decode cX7_init 56 = .ok (.invokespecial 38, 3) := by decide +kernel
theorem dX7_init_59 : decode cX7_init 59 = .ok (.putfield 41, 3) := by decide +kernel
theorem dX7_init_62 : decode cX7_init 62 = .ok (.aload_n 0, 1) := by decide +kernel
theorem dX7_init_63 : decode cX7_init 63 = .ok (.new 45, 3) := by decide +kernel
theorem dX7_init_66 : decode cX7_init 66 = .ok (.dup, 1) := by decide +kernel
theorem dX7_init_67 : decode cX7_init 67 = .ok (.invokespecial 47, 3) := by decide +kernel
theorem dX7_init_70 : decode cX7_init 70 = .ok (.putfield 48, 3) := by decide +kernel
theorem dX7_init_73 : decode cX7_init 73 = .ok (.aload_n 0, 1) := by decide +kernel
theorem dX7_init_74 : decode cX7_init 74 = .ok (.new 52, 3) := by decide +kernel
theorem dX7_init_77 : decode cX7_init 77 = .ok (.dup, 1) := by decide +kernel
theorem dX7_init_78 : decode cX7_init 78 = .ok (.invokespecial 54, 3) := by decide +kernel
theorem dX7_init_81 : decode cX7_init 81 = .ok (.putfield 55, 3) := by decide +kernel
theorem dX7_init_84 : decode cX7_init 84 = .ok (.aload_n 0, 1) := by decide +kernel
theorem dX7_init_85 : decode cX7_init 85 = .ok (.bipush 7, 2) := by decide +kernel
theorem dX7_init_87 : decode cX7_init 87 = .ok (.newarray .int, 2) := by decide +kernel
theorem dX7_init_89 : decode cX7_init 89 = .ok (.putfield 59, 3) := by decide +kernel
theorem dX7_init_92 : decode cX7_init 92 = .ok (.aload_n 0, 1) := by decide +kernel
theorem dX7_init_93 : decode cX7_init 93 = .ok (.iconst 0, 1) := by decide +kernel
theorem dX7_init_94 : decode cX7_init 94 = .ok (.putfield 62, 3) := by decide +kernel
theorem dX7_init_97 : decode cX7_init 97 = .ok (.return_, 1) := by decide +kernel
theorem dX7_person_0 : decode cX7_person 0 = .ok (.iload_n 1, 1) := by decide +kernel
theorem dX7_person_1 : decode cX7_person 1 = .ok (.invokestatic 66, 3) := by decide +kernel
theorem dX7_person_4 : decode cX7_person 4 = .ok (.ifCond .eq 10, 3) := by decide +kernel
theorem dX7_person_7 : decode cX7_person 7 = .ok (.iload_n 2, 1) := by decide +kernel
theorem dX7_person_8 : decode cX7_person 8 = .ok (.invokestatic 70, 3) := by decide +kernel
theorem dX7_person_11 : decode cX7_person 11 = .ok (.ifCond .ne 9, 3) := by decide +kernel
theorem dX7_person_14 : decode cX7_person 14 = .ok (.aload_n 0, 1) := by decide +kernel
theorem dX7_person_15 : decode cX7_person 15 = .ok (.iconst 1, 1) := by decide +kernel
theorem dX7_person_16 : decode cX7_person 16 = .ok (.invokevirtual 73, 3) := by decide +kernel
theorem dX7_person_19 : decode cX7_person 19 = .ok (.ireturn, 1) := by decide +kernel
theorem dX7_person_20 : decode cX7_person 20 = .ok (.aload_n 0, 1) := by decide +kernel
theorem dX7_person_21 : decode cX7_person 21 = .ok (.getfield 10, 3) := by decide +kernel
theorem dX7_person_24 : decode cX7_person 24 = .ok (.getfield 34, 3) := by decide +kernel
theorem dX7_person_27 : decode cX7_person 27 = .ok (.astore_n 3, 1) := by decide +kernel
theorem dX7_person_28 : decode cX7_person 28 = .ok (.aload_n 3, 1) := by decide +kernel
theorem dX7_person_29 : decode cX7_person 29 = .ok (.getfield 77, 3) := by decide +kernel
theorem dX7_person_32 : decode cX7_person 32 = .ok (.bipush 6, 2) := by decide +kernel
theorem dX7_person_34 : decode cX7_person 34 = .ok (.if_icmp .lt 9, 3) := by decide +kernel
theorem dX7_person_37 : decode cX7_person 37 = .ok (.aload_n 0, 1) := by decide +kernel
theorem dX7_person_38 : decode cX7_person 38 = .ok (.iconst 4, 1) := by decide +kernel
theorem dX7_person_39 : decode cX7_person 39 = .ok (.invokevirtual 73, 3) := by decide +kernel
theorem dX7_person_42 : decode cX7_person 42 = .ok (.ireturn, 1) := by decide +kernel
theorem dX7_person_43 : decode cX7_person 43 = .ok (.aload_n 3, 1) := by decide +kernel
theorem dX7_person_44 : decode cX7_person 44 = .ok (.iload_n 1, 1) := by decide +kernel
theorem dX7_person_45 : decode cX7_person 45 = .ok (.bipush 10, 2) := by decide +kernel
theorem dX7_person_47 : decode cX7_person 47 = .ok (.idiv, 1) := by decide +kernel
theorem dX7_person_48 : decode cX7_person 48 = .ok (.iload_n 1, 1) := by decide +kernel
theorem dX7_person_49 : decode cX7_person 49 = .ok (.bipush 10, 2) := by decide +kernel
theorem dX7_person_51 : decode cX7_person 51 = .ok (.irem, 1) := by decide +kernel
theorem dX7_person_52 : decode cX7_person 52 = .ok (.iload_n 2, 1) := by decide +kernel
theorem dX7_person_53 : decode cX7_person 53 = .ok (.invokevirtual 82, 3) := by decide +kernel
theorem dX7_person_56 : decode cX7_person 56 = .ok (.ireturn, 1) := by decide +kernel
theorem dX7_personIs_0 : decode cX7_personIs 0 = .ok (.aload_n 0, 1) := by decide +kernel
theorem dX7_personIs_1 : decode cX7_personIs 1 = .ok (.iload_n 1, 1) := by decide +kernel
theorem dX7_personIs_2 : decode cX7_personIs 2 = .ok (.invokevirtual 86, 3) := by decide +kernel
theorem dX7_personIs_5 : decode cX7_personIs 5 = .ok (.ifCond .ne 9, 3) := by decide +kernel
theorem dX7_personIs_8 : decode cX7_personIs 8 = .ok (.aload_n 0, 1) := by decide +kernel
theorem dX7_personIs_9 : decode cX7_personIs 9 = .ok (.iconst 1, 1) := by decide +kernel
theorem dX7_personIs_10 : decode cX7_personIs 10 = .ok (.invokevirtual 73, 3) := by decide +kernel
theorem dX7_personIs_13 : decode cX7_personIs 13 = .ok (.ireturn, 1) := by decide +kernel
theorem dX7_personIs_14 : decode cX7_personIs 14 = .ok (.aload_n 0, 1) := by decide +kernel
theorem dX7_personIs_15 : decode cX7_personIs 15 = .ok (.getfield 10, 3) := by decide +kernel
theorem dX7_personIs_18 : decode cX7_personIs 18 = .ok (.getfield 34, 3) := by decide +kernel
theorem dX7_personIs_21 : decode cX7_personIs 21 = .ok (.astore_n 3, 1) := by decide +kernel
theorem dX7_personIs_22 : decode cX7_personIs 22 = .ok (.iload_n 2, 1) := by decide +kernel
theorem dX7_personIs_23 : decode cX7_personIs 23 = .ok (.tableswitch 119 0 7 #[45, 52, 59, 66, 73, 88, 94, 105], 45) := by decide +kernel
theorem dX7_personIs_68 : decode cX7_personIs 68 = .ok (.aload_n 3, 1) := by decide +kernel
theorem dX7_personIs_69 : decode cX7_personIs 69 = .ok (.getfield 89, 3) := by decide +kernel
theorem dX7_personIs_72 : decode cX7_personIs 72 = .ok (.iload_n 1, 1) := by decide +kernel
theorem dX7_personIs_73 : decode cX7_personIs 73 = .ok (.iaload, 1) := by decide +kernel
theorem dX7_personIs_74 : decode cX7_personIs 74 = .ok (.ireturn, 1) := by decide +kernel
theorem dX7_personIs_75 : decode cX7_personIs 75 = .ok (.aload_n 3, 1) := by decide +kernel
theorem dX7_personIs_76 : decode cX7_personIs 76 = .ok (.getfield 92, 3) := by decide +kernel
theorem dX7_personIs_79 : decode cX7_personIs 79 = .ok (.iload_n 1, 1) := by decide +kernel
theorem dX7_personIs_80 : decode cX7_personIs 80 = .ok (.iaload, 1) := by decide +kernel
theorem dX7_personIs_81 : decode cX7_personIs 81 = .ok (.ireturn, 1) := by decide +kernel
theorem dX7_personIs_82 : decode cX7_personIs 82 = .ok (.aload_n 3, 1) := by decide +kernel
theorem dX7_personIs_83 : decode cX7_personIs 83 = .ok (.getfield 95, 3) := by decide +kernel
theorem dX7_personIs_86 : decode cX7_personIs 86 = .ok (.iload_n 1, 1) := by decide +kernel
theorem dX7_personIs_87 : decode cX7_personIs 87 = .ok (.iaload, 1) := by decide +kernel
theorem dX7_personIs_88 : decode cX7_personIs 88 = .ok (.ireturn, 1) := by decide +kernel
theorem dX7_personIs_89 : decode cX7_personIs 89 = .ok (.aload_n 3, 1) := by decide +kernel
theorem dX7_personIs_90 : decode cX7_personIs 90 = .ok (.getfield 98, 3) := by decide +kernel
theorem dX7_personIs_93 : decode cX7_personIs 93 = .ok (.iload_n 1, 1) := by decide +kernel
theorem dX7_personIs_94 : decode cX7_personIs 94 = .ok (.iaload, 1) := by decide +kernel
theorem dX7_personIs_95 : decode cX7_personIs 95 = .ok (.ireturn, 1) := by decide +kernel
theorem dX7_personIs_96 : decode cX7_personIs 96 = .ok (.aload_n 3, 1) := by decide +kernel
theorem dX7_personIs_97 : decode cX7_personIs 97 = .ok (.getfield 101, 3) := by decide +kernel
theorem dX7_personIs_100 : decode cX7_personIs 100 = .ok (.iload_n 1, 1) := by decide +kernel
theorem dX7_personIs_101 : decode cX7_personIs 101 = .ok (.baload, 1) := by decide +kernel
theorem dX7_personIs_102 : decode cX7_personIs 102 = .ok (.ifCond .eq 7, 3) := by decide +kernel
theorem dX7_personIs_105 : decode cX7_personIs 105 = .ok (.iconst 1, 1) := by decide +kernel
theorem dX7_personIs_106 : decode cX7_personIs 106 = .ok (.goto 4, 3) := by decide +kernel
theorem dX7_personIs_109 : decode cX7_personIs 109 = .ok (.iconst 0, 1) := by decide +kernel
theorem dX7_personIs_110 : decode cX7_personIs 110 = .ok (.ireturn, 1) := by decide +kernel
theorem dX7_personIs_111 : decode cX7_personIs 111 = .ok (.aload_n 3, 1) := by decide +kernel
theorem dX7_personIs_112 : decode cX7_personIs 112 = .ok (.iload_n 1, 1) := by decide +kernel
theorem dX7_personIs_113 : decode cX7_personIs 113 = .ok (.invokevirtual 105, 3) := by decide +kernel
theorem dX7_personIs_116 : decode cX7_personIs 116 = .ok (.ireturn, 1) := by decide +kernel
theorem dX7_personIs_117 : decode cX7_personIs 117 = .ok (.aload_n 3, 1) := by decide +kernel
theorem dX7_personIs_118 : decode cX7_personIs 118 = .ok (.iload_n 1, 1) := by decide +kernel
theorem dX7_personIs_119 : decode cX7_personIs 119 = .ok (.aload_n 3, 1) := by decide +kernel
theorem dX7_personIs_120 : decode cX7_personIs 120 = .ok (.iload_n 1, 1) := by decide +kernel
theorem dX7_personIs_121 : decode cX7_personIs 121 = .ok (.invokevirtual 105, 3) := by decide +kernel
theorem dX7_personIs_124 : decode cX7_personIs 124 = .ok (.invokevirtual 108, 3) := by decide +kernel
theorem dX7_personIs_127 : decode cX7_personIs 127 = .ok (.ireturn, 1) := by decide +kernel
theorem dX7_personIs_128 : decode cX7_personIs 128 = .ok (.aload_n 3, 1) := by decide +kernel
theorem dX7_personIs_129 : decode cX7_personIs 129 = .ok (.iload_n 1, 1) := by decide +kernel
theorem dX7_personIs_130 : decode cX7_personIs 130 = .ok (.invokevirtual 112, 3) := by decide +kernel
theorem dX7_personIs_133 : decode cX7_personIs 133 = .ok (.ifCond .eq 7, 3) := by decide +kernel
theorem dX7_personIs_136 : decode cX7_personIs 136 = .ok (.iconst 1, 1) := by decide +kernel
theorem dX7_personIs_137 : decode cX7_personIs 137 = .ok (.goto 4, 3) := by decide +kernel
theorem dX7_personIs_140 : decode cX7_personIs 140 = .ok (.iconst 0, 1) := by decide +kernel
theorem dX7_personIs_141 : decode cX7_personIs 141 = .ok (.ireturn, 1) := by decide +kernel
theorem dX7_personIs_142 : decode cX7_personIs 142 = .ok (.aload_n 0, 1) := by decide +kernel
theorem dX7_personIs_143 : decode cX7_personIs 143 = .ok (.iconst 1, 1) := by decide +kernel
theorem dX7_personIs_144 : decode cX7_personIs 144 = .ok (.invokevirtual 73, 3) := by decide +kernel
theorem dX7_personIs_147 : decode cX7_personIs 147 = .ok (.ireturn, 1) := by decide +kernel
theorem dX7_become_0 : decode cX7_become 0 = .ok (.aload_n 0, 1) := by decide +kernel
theorem dX7_become_1 : decode cX7_become 1 = .ok (.iload_n 1, 1) := by decide +kernel
theorem dX7_become_2 : decode cX7_become 2 = .ok (.invokevirtual 86, 3) := by decide +kernel
theorem dX7_become_5 : decode cX7_become 5 = .ok (.ifCond .eq 10, 3) := by decide +kernel
theorem dX7_become_8 : decode cX7_become 8 = .ok (.iload_n 2, 1) := by decide +kernel
theorem dX7_become_9 : decode cX7_become 9 = .ok (.invokestatic 66, 3) := by decide +kernel
theorem dX7_become_12 : decode cX7_become 12 = .ok (.ifCond .ne 9, 3) := by decide +kernel
theorem dX7_become_15 : decode cX7_become 15 = .ok (.aload_n 0, 1) := by decide +kernel
theorem dX7_become_16 : decode cX7_become 16 = .ok (.iconst 1, 1) := by decide +kernel
theorem dX7_become_17 : decode cX7_become 17 = .ok (.invokevirtual 73, 3) := by decide +kernel
theorem dX7_become_20 : decode cX7_become 20 = .ok (.ireturn, 1) := by decide +kernel
theorem dX7_become_21 : decode cX7_become 21 = .ok (.aload_n 0, 1) := by decide +kernel
theorem dX7_become_22 : decode cX7_become 22 = .ok (.getfield 10, 3) := by decide +kernel
theorem dX7_become_25 : decode cX7_become 25 = .ok (.getfield 34, 3) := by decide +kernel
theorem dX7_become_28 : decode cX7_become 28 = .ok (.astore_n 3, 1) := by decide +kernel
theorem dX7_become_29 : decode cX7_become 29 = .ok (.aload_n 3, 1) := by decide +kernel
theorem dX7_become_30 : decode cX7_become 30 = .ok (.getfield 89, 3) := by decide +kernel
theorem dX7_become_33 : decode cX7_become 33 = .ok (.iload_n 1, 1) := by decide +kernel
theorem dX7_become_34 : decode cX7_become 34 = .ok (.iaload, 1) := by decide +kernel
theorem dX7_become_35 : decode cX7_become 35 = .ok (.istore 4, 2) := by decide +kernel
theorem dX7_become_37 : decode cX7_become 37 = .ok (.aload_n 3, 1) := by decide +kernel
theorem dX7_become_38 : decode cX7_become 38 = .ok (.getfield 89, 3) := by decide +kernel
theorem dX7_become_41 : decode cX7_become 41 = .ok (.iload_n 1, 1) := by decide +kernel
theorem dX7_become_42 : decode cX7_become 42 = .ok (.iload_n 2, 1) := by decide +kernel
theorem dX7_become_43 : decode cX7_become 43 = .ok (.bipush 10, 2) := by decide +kernel
theorem dX7_become_45 : decode cX7_become 45 = .ok (.idiv, 1) := by decide +kernel
theorem dX7_become_46 : decode cX7_become 46 = .ok (.iastore, 1) := by decide +kernel
theorem dX7_become_47 : decode cX7_become 47 = .ok (.aload_n 3, 1) := by decide +kernel
theorem dX7_become_48 : decode cX7_become 48 = .ok (.getfield 92, 3) := by decide +kernel
theorem dX7_become_51 : decode cX7_become 51 = .ok (.iload_n 1, 1) := by decide +kernel
theorem dX7_become_52 : decode cX7_become 52 = .ok (.iload_n 2, 1) := by decide +kernel
theorem dX7_become_53 : decode cX7_become 53 = .ok (.bipush 10, 2) := by decide +kernel
theorem dX7_become_55 : decode cX7_become 55 = .ok (.irem, 1) := by decide +kernel
theorem dX7_become_56 : decode cX7_become 56 = .ok (.iastore, 1) := by decide +kernel
theorem dX7_become_57 : decode cX7_become 57 = .ok (.iload 4, 2) := by decide +kernel
theorem dX7_become_59 : decode cX7_become 59 = .ok (.ireturn, 1) := by decide +kernel
theorem dX7_as_0 : decode cX7_as 0 = .ok (.aload_n 0, 1) := by decide +kernel
theorem dX7_as_1 : decode cX7_as 1 = .ok (.iload_n 1, 1) := by decide +kernel
theorem dX7_as_2 : decode cX7_as 2 = .ok (.invokevirtual 86, 3) := by decide +kernel
theorem dX7_as_5 : decode cX7_as 5 = .ok (.ifCond .eq 13, 3) := by decide +kernel
theorem dX7_as_8 : decode cX7_as 8 = .ok (.iload_n 2, 1) := by decide +kernel
theorem dX7_as_9 : decode cX7_as 9 = .ok (.iconst 0, 1) := by decide +kernel
theorem dX7_as_10 : decode cX7_as 10 = .ok (.bipush 6, 2) := by decide +kernel
theorem dX7_as_12 : decode cX7_as 12 = .ok (.invokestatic 115, 3) := by decide +kernel
theorem dX7_as_15 : decode cX7_as 15 = .ok (.ifCond .ne 9, 3) := by decide +kernel
theorem dX7_as_18 : decode cX7_as 18 = .ok (.aload_n 0, 1) := by decide +kernel
theorem dX7_as_19 : decode cX7_as 19 = .ok (.iconst 1, 1) := by decide +kernel
theorem dX7_as_20 : decode cX7_as 20 = .ok (.invokevirtual 73, 3) := by decide +kernel
theorem dX7_as_23 : decode cX7_as 23 = .ok (.ireturn, 1) := by decide +kernel
theorem dX7_as_24 : decode cX7_as 24 = .ok (.aload_n 0, 1) := by decide +kernel
theorem dX7_as_25 : decode cX7_as 25 = .ok (.getfield 10, 3) := by decide +kernel
theorem dX7_as_28 : decode cX7_as 28 = .ok (.getfield 34, 3) := by decide +kernel
theorem dX7_as_31 : decode cX7_as 31 = .ok (.getfield 89, 3) := by decide +kernel
theorem dX7_as_34 : decode cX7_as 34 = .ok (.iload_n 1, 1) := by decide +kernel
theorem dX7_as_35 : decode cX7_as 35 = .ok (.iaload, 1) := by decide +kernel
theorem dX7_as_36 : decode cX7_as 36 = .ok (.iload_n 2, 1) := by decide +kernel
theorem dX7_as_37 : decode cX7_as 37 = .ok (.invokestatic 119, 3) := by decide +kernel
theorem dX7_as_40 : decode cX7_as 40 = .ok (.ifCond .ne 9, 3) := by decide +kernel
theorem dX7_as_43 : decode cX7_as 43 = .ok (.aload_n 0, 1) := by decide +kernel
theorem dX7_as_44 : decode cX7_as 44 = .ok (.iconst 5, 1) := by decide +kernel
theorem dX7_as_45 : decode cX7_as 45 = .ok (.invokevirtual 73, 3) := by decide +kernel
theorem dX7_as_48 : decode cX7_as 48 = .ok (.ireturn, 1) := by decide +kernel
theorem dX7_as_49 : decode cX7_as 49 = .ok (.aload_n 0, 1) := by decide +kernel
theorem dX7_as_50 : decode cX7_as 50 = .ok (.getfield 10, 3) := by decide +kernel
theorem dX7_as_53 : decode cX7_as 53 = .ok (.getfield 34, 3) := by decide +kernel
theorem dX7_as_56 : decode cX7_as 56 = .ok (.getfield 92, 3) := by decide +kernel
theorem dX7_as_59 : decode cX7_as 59 = .ok (.iload_n 1, 1) := by decide +kernel
theorem dX7_as_60 : decode cX7_as 60 = .ok (.iaload, 1) := by decide +kernel
theorem dX7_as_61 : decode cX7_as 61 = .ok (.ireturn, 1) := by decide +kernel
theorem dX7_answers_0 : decode cX7_answers 0 = .ok (.aload_n 0, 1) := by decide +kernel
theorem dX7_answers_1 : decode cX7_answers 1 = .ok (.iload_n 1, 1) := by decide +kernel
theorem dX7_answers_2 : decode cX7_answers 2 = .ok (.invokevirtual 86, 3) := by decide +kernel
theorem dX7_answers_5 : decode cX7_answers 5 = .ok (.ifCond .eq 10, 3) := by decide +kernel
theorem dX7_answers_8 : decode cX7_answers 8 = .ok (.iload_n 2, 1) := by decide +kernel
theorem dX7_answers_9 : decode cX7_answers 9 = .ok (.invokestatic 70, 3) := by decide +kernel
theorem dX7_answers_12 : decode cX7_answers 12 = .ok (.ifCond .ne 9, 3) := by decide +kernel
theorem dX7_answers_15 : decode cX7_answers 15 = .ok (.aload_n 0, 1) := by decide +kernel
theorem dX7_answers_16 : decode cX7_answers 16 = .ok (.iconst 1, 1) := by decide +kernel
theorem dX7_answers_17 : decode cX7_answers 17 = .ok (.invokevirtual 73, 3) := by decide +kernel
theorem dX7_answers_20 : decode cX7_answers 20 = .ok (.ireturn, 1) := by decide +kernel
theorem dX7_answers_21 : decode cX7_answers 21 = .ok (.aload_n 0, 1) := by decide +kernel
theorem dX7_answers_22 : decode cX7_answers 22 = .ok (.getfield 10, 3) := by decide +kernel
theorem dX7_answers_25 : decode cX7_answers 25 = .ok (.getfield 34, 3) := by decide +kernel
theorem dX7_answers_28 : decode cX7_answers 28 = .ok (.getfield 95, 3) := by decide +kernel
theorem dX7_answers_31 : decode cX7_answers 31 = .ok (.iload_n 1, 1) := by decide +kernel
theorem dX7_answers_32 : decode cX7_answers 32 = .ok (.iaload, 1) := by decide +kernel
theorem dX7_answers_33 : decode cX7_answers 33 = .ok (.istore_n 3, 1) := by decide +kernel
theorem dX7_answers_34 : decode cX7_answers 34 = .ok (.aload_n 0, 1) := by decide +kernel
theorem dX7_answers_35 : decode cX7_answers 35 = .ok (.getfield 10, 3) := by decide +kernel
theorem dX7_answers_38 : decode cX7_answers 38 = .ok (.getfield 34, 3) := by decide +kernel
theorem dX7_answers_41 : decode cX7_answers 41 = .ok (.getfield 95, 3) := by decide +kernel
theorem dX7_answers_44 : decode cX7_answers 44 = .ok (.iload_n 1, 1) := by decide +kernel
theorem dX7_answers_45 : decode cX7_answers 45 = .ok (.iload_n 2, 1) := by decide +kernel
theorem dX7_answers_46 : decode cX7_answers 46 = .ok (.iastore, 1) := by decide +kernel
theorem dX7_answers_47 : decode cX7_answers 47 = .ok (.iload_n 3, 1) := by decide +kernel
theorem dX7_answers_48 : decode cX7_answers 48 = .ok (.ireturn, 1) := by decide +kernel
theorem dX7_puts_0 : decode cX7_puts 0 = .ok (.aload_n 0, 1) := by decide +kernel
theorem dX7_puts_1 : decode cX7_puts 1 = .ok (.iload_n 1, 1) := by decide +kernel
theorem dX7_puts_2 : decode cX7_puts 2 = .ok (.invokevirtual 86, 3) := by decide +kernel
theorem dX7_puts_5 : decode cX7_puts 5 = .ok (.ifCond .eq 10, 3) := by decide +kernel
theorem dX7_puts_8 : decode cX7_puts 8 = .ok (.iload_n 2, 1) := by decide +kernel
theorem dX7_puts_9 : decode cX7_puts 9 = .ok (.invokestatic 123, 3) := by decide +kernel
theorem dX7_puts_12 : decode cX7_puts 12 = .ok (.ifCond .ne 9, 3) := by decide +kernel
theorem dX7_puts_15 : decode cX7_puts 15 = .ok (.aload_n 0, 1) := by decide +kernel
theorem dX7_puts_16 : decode cX7_puts 16 = .ok (.iconst 1, 1) := by decide +kernel
theorem dX7_puts_17 : decode cX7_puts 17 = .ok (.invokevirtual 73, 3) := by decide +kernel
theorem dX7_puts_20 : decode cX7_puts 20 = .ok (.ireturn, 1) := by decide +kernel
theorem dX7_puts_21 : decode cX7_puts 21 = .ok (.aload_n 0, 1) := by decide +kernel
theorem dX7_puts_22 : decode cX7_puts 22 = .ok (.getfield 10, 3) := by decide +kernel
theorem dX7_puts_25 : decode cX7_puts 25 = .ok (.getfield 34, 3) := by decide +kernel
theorem dX7_puts_28 : decode cX7_puts 28 = .ok (.getfield 98, 3) := by decide +kernel
theorem dX7_puts_31 : decode cX7_puts 31 = .ok (.iload_n 1, 1) := by decide +kernel
theorem dX7_puts_32 : decode cX7_puts 32 = .ok (.iaload, 1) := by decide +kernel
theorem dX7_puts_33 : decode cX7_puts 33 = .ok (.istore_n 3, 1) := by decide +kernel
theorem dX7_puts_34 : decode cX7_puts 34 = .ok (.aload_n 0, 1) := by decide +kernel
theorem dX7_puts_35 : decode cX7_puts 35 = .ok (.getfield 10, 3) := by decide +kernel
theorem dX7_puts_38 : decode cX7_puts 38 = .ok (.getfield 34, 3) := by decide +kernel
theorem dX7_puts_41 : decode cX7_puts 41 = .ok (.iload_n 1, 1) := by decide +kernel
theorem dX7_puts_42 : decode cX7_puts 42 = .ok (.iload_n 2, 1) := by decide +kernel
theorem dX7_puts_43 : decode cX7_puts 43 = .ok (.invokevirtual 126, 3) := by decide +kernel
theorem dX7_puts_46 : decode cX7_puts 46 = .ok (.iload_n 3, 1) := by decide +kernel
theorem dX7_puts_47 : decode cX7_puts 47 = .ok (.ireturn, 1) := by decide +kernel
theorem dX7_drop_0 : decode cX7_drop 0 = .ok (.iload_n 1, 1) := by decide +kernel
theorem dX7_drop_1 : decode cX7_drop 1 = .ok (.iconst 1, 1) := by decide +kernel
theorem dX7_drop_2 : decode cX7_drop 2 = .ok (.bipush 14, 2) := by decide +kernel
theorem dX7_drop_4 : decode cX7_drop 4 = .ok (.invokestatic 115, 3) := by decide +kernel
theorem dX7_drop_7 : decode cX7_drop 7 = .ok (.ifCond .eq 12, 3) := by decide +kernel
theorem dX7_drop_10 : decode cX7_drop 10 = .ok (.iload_n 2, 1) := by decide +kernel
theorem dX7_drop_11 : decode cX7_drop 11 = .ok (.iconst 0, 1) := by decide +kernel
theorem dX7_drop_12 : decode cX7_drop 12 = .ok (.iconst 1, 1) := by decide +kernel
theorem dX7_drop_13 : decode cX7_drop 13 = .ok (.invokestatic 115, 3) := by decide +kernel
theorem dX7_drop_16 : decode cX7_drop 16 = .ok (.ifCond .ne 9, 3) := by decide +kernel
theorem dX7_drop_19 : decode cX7_drop 19 = .ok (.aload_n 0, 1) := by decide +kernel
theorem dX7_drop_20 : decode cX7_drop 20 = .ok (.iconst 1, 1) := by decide +kernel
theorem dX7_drop_21 : decode cX7_drop 21 = .ok (.invokevirtual 73, 3) := by decide +kernel
theorem dX7_drop_24 : decode cX7_drop 24 = .ok (.ireturn, 1) := by decide +kernel
theorem dX7_drop_25 : decode cX7_drop 25 = .ok (.aload_n 0, 1) := by decide +kernel
theorem dX7_drop_26 : decode cX7_drop 26 = .ok (.getfield 10, 3) := by decide +kernel
theorem dX7_drop_29 : decode cX7_drop 29 = .ok (.getfield 34, 3) := by decide +kernel
theorem dX7_drop_32 : decode cX7_drop 32 = .ok (.astore_n 3, 1) := by decide +kernel
theorem dX7_drop_33 : decode cX7_drop 33 = .ok (.aload_n 3, 1) := by decide +kernel
theorem dX7_drop_34 : decode cX7_drop 34 = .ok (.getfield 130, 3) := by decide +kernel
theorem dX7_drop_37 : decode cX7_drop 37 = .ok (.iload_n 1, 1) := by decide +kernel
theorem dX7_drop_38 : decode cX7_drop 38 = .ok (.ishr, 1) := by decide +kernel
theorem dX7_drop_39 : decode cX7_drop 39 = .ok (.iconst 1, 1) := by decide +kernel
theorem dX7_drop_40 : decode cX7_drop 40 = .ok (.iand, 1) := by decide +kernel
theorem dX7_drop_41 : decode cX7_drop 41 = .ok (.istore 4, 2) := by decide +kernel
theorem dX7_drop_43 : decode cX7_drop 43 = .ok (.iload 4, 2) := by decide +kernel
theorem dX7_drop_45 : decode cX7_drop 45 = .ok (.iload_n 2, 1) := by decide +kernel
theorem dX7_drop_46 : decode cX7_drop 46 = .ok (.if_icmp .eq 15, 3) := by decide +kernel
theorem dX7_drop_49 : decode cX7_drop 49 = .ok (.aload_n 3, 1) := by decide +kernel
theorem dX7_drop_50 : decode cX7_drop 50 = .ok (.dup, 1) := by decide +kernel
theorem dX7_drop_51 : decode cX7_drop 51 = .ok (.getfield 130, 3) := by decide +kernel
theorem dX7_drop_54 : decode cX7_drop 54 = .ok (.iconst 1, 1) := by decide +kernel
theorem dX7_drop_55 : decode cX7_drop 55 = .ok (.iload_n 1, 1) := by decide +kernel
theorem dX7_drop_56 : decode cX7_drop 56 = .ok (.ishl, 1) := by decide +kernel
theorem dX7_drop_57 : decode cX7_drop 57 = .ok (.ixor, 1) := by decide +kernel
theorem dX7_drop_58 : decode cX7_drop 58 = .ok (.putfield 130, 3) := by decide +kernel
theorem dX7_drop_61 : decode cX7_drop 61 = .ok (.iload 4, 2) := by decide +kernel
theorem dX7_drop_63 : decode cX7_drop 63 = .ok (.ireturn, 1) := by decide +kernel
theorem dX7_feed_0 : decode cX7_feed 0 = .ok (.iload_n 3, 1) := by decide +kernel
theorem dX7_feed_1 : decode cX7_feed 1 = .ok (.iconst 1, 1) := by decide +kernel
theorem dX7_feed_2 : decode cX7_feed 2 = .ok (.bipush 8, 2) := by decide +kernel
theorem dX7_feed_4 : decode cX7_feed 4 = .ok (.invokestatic 115, 3) := by decide +kernel
theorem dX7_feed_7 : decode cX7_feed 7 = .ok (.ifCond .ne 9, 3) := by decide +kernel
theorem dX7_feed_10 : decode cX7_feed 10 = .ok (.aload_n 0, 1) := by decide +kernel
theorem dX7_feed_11 : decode cX7_feed 11 = .ok (.iconst 1, 1) := by decide +kernel
theorem dX7_feed_12 : decode cX7_feed 12 = .ok (.invokevirtual 73, 3) := by decide +kernel
theorem dX7_feed_15 : decode cX7_feed 15 = .ok (.ireturn, 1) := by decide +kernel
theorem dX7_feed_16 : decode cX7_feed 16 = .ok (.aload_n 0, 1) := by decide +kernel
theorem dX7_feed_17 : decode cX7_feed 17 = .ok (.getfield 10, 3) := by decide +kernel
theorem dX7_feed_20 : decode cX7_feed 20 = .ok (.getfield 133, 3) := by decide +kernel
theorem dX7_feed_23 : decode cX7_feed 23 = .ok (.bipush 60, 2) := by decide +kernel
theorem dX7_feed_25 : decode cX7_feed 25 = .ok (.iload_n 3, 1) := by decide +kernel
theorem dX7_feed_26 : decode cX7_feed 26 = .ok (.isub, 1) := by decide +kernel
theorem dX7_feed_27 : decode cX7_feed 27 = .ok (.if_icmp .le 9, 3) := by decide +kernel
theorem dX7_feed_30 : decode cX7_feed 30 = .ok (.aload_n 0, 1) := by decide +kernel
theorem dX7_feed_31 : decode cX7_feed 31 = .ok (.iconst 4, 1) := by decide +kernel
theorem dX7_feed_32 : decode cX7_feed 32 = .ok (.invokevirtual 73, 3) := by decide +kernel
theorem dX7_feed_35 : decode cX7_feed 35 = .ok (.ireturn, 1) := by decide +kernel
theorem dX7_feed_36 : decode cX7_feed 36 = .ok (.aload_n 0, 1) := by decide +kernel
theorem dX7_feed_37 : decode cX7_feed 37 = .ok (.getfield 10, 3) := by decide +kernel
theorem dX7_feed_40 : decode cX7_feed 40 = .ok (.lload_n 1, 1) := by decide +kernel
theorem dX7_feed_41 : decode cX7_feed 41 = .ok (.iload_n 3, 1) := by decide +kernel
theorem dX7_feed_42 : decode cX7_feed 42 = .ok (.invokevirtual 136, 3) := by decide +kernel
theorem dX7_feed_45 : decode cX7_feed 45 = .ok (.aload_n 0, 1) := by decide +kernel
theorem dX7_feed_46 : decode cX7_feed 46 = .ok (.getfield 10, 3) := by decide +kernel
theorem dX7_feed_49 : decode cX7_feed 49 = .ok (.getfield 133, 3) := by decide +kernel
theorem dX7_feed_52 : decode cX7_feed 52 = .ok (.ireturn, 1) := by decide +kernel
theorem dX7_text_0 : decode cX7_text 0 = .ok (.iload_n 1, 1) := by decide +kernel
theorem dX7_text_1 : decode cX7_text 1 = .ok (.invokestatic 140, 3) := by decide +kernel
theorem dX7_text_4 : decode cX7_text 4 = .ok (.ifCond .ne 9, 3) := by decide +kernel
theorem dX7_text_7 : decode cX7_text 7 = .ok (.aload_n 0, 1) := by decide +kernel
theorem dX7_text_8 : decode cX7_text 8 = .ok (.iconst 1, 1) := by decide +kernel
theorem dX7_text_9 : decode cX7_text 9 = .ok (.invokevirtual 73, 3) := by decide +kernel
theorem dX7_text_12 : decode cX7_text 12 = .ok (.ireturn, 1) := by decide +kernel
theorem dX7_text_13 : decode cX7_text 13 = .ok (.aload_n 0, 1) := by decide +kernel
theorem dX7_text_14 : decode cX7_text 14 = .ok (.getfield 28, 3) := by decide +kernel
theorem dX7_text_17 : decode cX7_text 17 = .ok (.aload_n 0, 1) := by decide +kernel
theorem dX7_text_18 : decode cX7_text 18 = .ok (.getfield 10, 3) := by decide +kernel
theorem dX7_text_21 : decode cX7_text 21 = .ok (.getfield 133, 3) := by decide +kernel
theorem dX7_text_24 : decode cX7_text 24 = .ok (.iload_n 1, 1) := by decide +kernel
theorem dX7_text_25 : decode cX7_text 25 = .ok (.invokevirtual 143, 3) := by decide +kernel
theorem dX7_text_28 : decode cX7_text 28 = .ok (.istore_n 2, 1) := by decide +kernel
theorem dX7_text_29 : decode cX7_text 29 = .ok (.aload_n 0, 1) := by decide +kernel
theorem dX7_text_30 : decode cX7_text 30 = .ok (.getfield 10, 3) := by decide +kernel
theorem dX7_text_33 : decode cX7_text 33 = .ok (.iconst 0, 1) := by decide +kernel
theorem dX7_text_34 : decode cX7_text 34 = .ok (.putfield 133, 3) := by decide +kernel
theorem dX7_text_37 : decode cX7_text 37 = .ok (.iload_n 2, 1) := by decide +kernel
theorem dX7_text_38 : decode cX7_text 38 = .ok (.ifCond .lt 8, 3) := by decide +kernel
theorem dX7_text_41 : decode cX7_text 41 = .ok (.bipush (-10), 2) := by decide +kernel
theorem dX7_text_43 : decode cX7_text 43 = .ok (.iload_n 2, 1) := by decide +kernel
theorem dX7_text_44 : decode cX7_text 44 = .ok (.isub, 1) := by decide +kernel
theorem dX7_text_45 : decode cX7_text 45 = .ok (.ireturn, 1) := by decide +kernel
theorem dX7_text_46 : decode cX7_text 46 = .ok (.aload_n 0, 1) := by decide +kernel
theorem dX7_text_47 : decode cX7_text 47 = .ok (.getfield 10, 3) := by decide +kernel
theorem dX7_text_50 : decode cX7_text 50 = .ok (.iload_n 1, 1) := by decide +kernel
theorem dX7_text_51 : decode cX7_text 51 = .ok (.invokevirtual 146, 3) := by decide +kernel
theorem dX7_text_54 : decode cX7_text 54 = .ok (.aload_n 0, 1) := by decide +kernel
theorem dX7_text_55 : decode cX7_text 55 = .ok (.getfield 28, 3) := by decide +kernel
theorem dX7_text_58 : decode cX7_text 58 = .ok (.getfield 150, 3) := by decide +kernel
theorem dX7_text_61 : decode cX7_text 61 = .ok (.aload_n 0, 1) := by decide +kernel
theorem dX7_text_62 : decode cX7_text 62 = .ok (.getfield 28, 3) := by decide +kernel
theorem dX7_text_65 : decode cX7_text 65 = .ok (.getfield 153, 3) := by decide +kernel
theorem dX7_text_68 : decode cX7_text 68 = .ok (.invokevirtual 156, 3) := by decide +kernel
theorem dX7_text_71 : decode cX7_text 71 = .ok (.iconst 1, 1) := by decide +kernel
theorem dX7_text_72 : decode cX7_text 72 = .ok (.ireturn, 1) := by decide +kernel
theorem dX7_untell_0 : decode cX7_untell 0 = .ok (.iload_n 1, 1) := by decide +kernel
theorem dX7_untell_1 : decode cX7_untell 1 = .ok (.invokestatic 140, 3) := by decide +kernel
theorem dX7_untell_4 : decode cX7_untell 4 = .ok (.ifCond .ne 9, 3) := by decide +kernel
theorem dX7_untell_7 : decode cX7_untell 7 = .ok (.aload_n 0, 1) := by decide +kernel
theorem dX7_untell_8 : decode cX7_untell 8 = .ok (.iconst 1, 1) := by decide +kernel
theorem dX7_untell_9 : decode cX7_untell 9 = .ok (.invokevirtual 73, 3) := by decide +kernel
theorem dX7_untell_12 : decode cX7_untell 12 = .ok (.ireturn, 1) := by decide +kernel
theorem dX7_untell_13 : decode cX7_untell 13 = .ok (.aload_n 0, 1) := by decide +kernel
theorem dX7_untell_14 : decode cX7_untell 14 = .ok (.getfield 10, 3) := by decide +kernel
theorem dX7_untell_17 : decode cX7_untell 17 = .ok (.iload_n 1, 1) := by decide +kernel
theorem dX7_untell_18 : decode cX7_untell 18 = .ok (.invokevirtual 146, 3) := by decide +kernel
theorem dX7_untell_21 : decode cX7_untell 21 = .ok (.astore_n 2, 1) := by decide +kernel
theorem dX7_untell_22 : decode cX7_untell 22 = .ok (.aload_n 2, 1) := by decide +kernel
theorem dX7_untell_23 : decode cX7_untell 23 = .ok (.getfield 162, 3) := by decide +kernel
theorem dX7_untell_26 : decode cX7_untell 26 = .ok (.ifCond .le 7, 3) := by decide +kernel
theorem dX7_untell_29 : decode cX7_untell 29 = .ok (.iconst 1, 1) := by decide +kernel
theorem dX7_untell_30 : decode cX7_untell 30 = .ok (.goto 4, 3) := by decide +kernel
theorem dX7_untell_33 : decode cX7_untell 33 = .ok (.iconst 0, 1) := by decide +kernel
theorem dX7_untell_34 : decode cX7_untell 34 = .ok (.istore_n 3, 1) := by decide +kernel
theorem dX7_untell_35 : decode cX7_untell 35 = .ok (.aload_n 2, 1) := by decide +kernel
theorem dX7_untell_36 : decode cX7_untell 36 = .ok (.iconst 0, 1) := by decide +kernel
theorem dX7_untell_37 : decode cX7_untell 37 = .ok (.putfield 162, 3) := by decide +kernel
theorem dX7_untell_40 : decode cX7_untell 40 = .ok (.iload_n 3, 1) := by decide +kernel
theorem dX7_untell_41 : decode cX7_untell 41 = .ok (.ireturn, 1) := by decide +kernel
theorem dX7_law_0 : decode cX7_law 0 = .ok (.iload_n 1, 1) := by decide +kernel
theorem dX7_law_1 : decode cX7_law 1 = .ok (.invokestatic 140, 3) := by decide +kernel
theorem dX7_law_4 : decode cX7_law 4 = .ok (.ifCond .ne 9, 3) := by decide +kernel
theorem dX7_law_7 : decode cX7_law 7 = .ok (.aload_n 0, 1) := by decide +kernel
theorem dX7_law_8 : decode cX7_law 8 = .ok (.iconst 1, 1) := by decide +kernel
theorem dX7_law_9 : decode cX7_law 9 = .ok (.invokevirtual 73, 3) := by decide +kernel
theorem dX7_law_12 : decode cX7_law 12 = .ok (.ireturn, 1) := by decide +kernel
theorem dX7_law_13 : decode cX7_law 13 = .ok (.aload_n 0, 1) := by decide +kernel
theorem dX7_law_14 : decode cX7_law 14 = .ok (.getfield 10, 3) := by decide +kernel
theorem dX7_law_17 : decode cX7_law 17 = .ok (.iload_n 1, 1) := by decide +kernel
theorem dX7_law_18 : decode cX7_law 18 = .ok (.invokevirtual 146, 3) := by decide +kernel
theorem dX7_law_21 : decode cX7_law 21 = .ok (.iload_n 2, 1) := by decide +kernel
theorem dX7_law_22 : decode cX7_law 22 = .ok (.iload_n 3, 1) := by decide +kernel
theorem dX7_law_23 : decode cX7_law 23 = .ok (.iload 4, 2) := by decide +kernel
theorem dX7_law_25 : decode cX7_law 25 = .ok (.invokevirtual 165, 3) := by decide +kernel
theorem dX7_law_28 : decode cX7_law 28 = .ok (.ireturn, 1) := by decide +kernel
theorem dX7_hours_0 : decode cX7_hours 0 = .ok (.iload_n 1, 1) := by decide +kernel
theorem dX7_hours_1 : decode cX7_hours 1 = .ok (.iconst 1, 1) := by decide +kernel
theorem dX7_hours_2 : decode cX7_hours 2 = .ok (.bipush 60, 2) := by decide +kernel
theorem dX7_hours_4 : decode cX7_hours 4 = .ok (.invokestatic 115, 3) := by decide +kernel
theorem dX7_hours_7 : decode cX7_hours 7 = .ok (.ifCond .ne 9, 3) := by decide +kernel
theorem dX7_hours_10 : decode cX7_hours 10 = .ok (.aload_n 0, 1) := by decide +kernel
theorem dX7_hours_11 : decode cX7_hours 11 = .ok (.iconst 1, 1) := by decide +kernel
theorem dX7_hours_12 : decode cX7_hours 12 = .ok (.invokevirtual 73, 3) := by decide +kernel
theorem dX7_hours_15 : decode cX7_hours 15 = .ok (.ireturn, 1) := by decide +kernel
theorem dX7_hours_16 : decode cX7_hours 16 = .ok (.aload_n 0, 1) := by decide +kernel
theorem dX7_hours_17 : decode cX7_hours 17 = .ok (.getfield 10, 3) := by decide +kernel
theorem dX7_hours_20 : decode cX7_hours 20 = .ok (.getfield 34, 3) := by decide +kernel
theorem dX7_hours_23 : decode cX7_hours 23 = .ok (.astore_n 2, 1) := by decide +kernel
theorem dX7_hours_24 : decode cX7_hours 24 = .ok (.aload_n 2, 1) := by decide +kernel
theorem dX7_hours_25 : decode cX7_hours 25 = .ok (.getfield 168, 3) := by decide +kernel
theorem dX7_hours_28 : decode cX7_hours 28 = .ok (.sipush 9999, 3) := by decide +kernel
theorem dX7_hours_31 : decode cX7_hours 31 = .ok (.iload_n 1, 1) := by decide +kernel
theorem dX7_hours_32 : decode cX7_hours 32 = .ok (.isub, 1) := by decide +kernel
theorem dX7_hours_33 : decode cX7_hours 33 = .ok (.if_icmp .le 9, 3) := by decide +kernel
theorem dX7_hours_36 : decode cX7_hours 36 = .ok (.aload_n 0, 1) := by decide +kernel
theorem dX7_hours_37 : decode cX7_hours 37 = .ok (.iconst 3, 1) := by decide +kernel
theorem dX7_hours_38 : decode cX7_hours 38 = .ok (.invokevirtual 73, 3) := by decide +kernel
theorem dX7_hours_41 : decode cX7_hours 41 = .ok (.ireturn, 1) := by decide +kernel
theorem dX7_hours_42 : decode cX7_hours 42 = .ok (.iconst 0, 1) := by decide +kernel
theorem dX7_hours_43 : decode cX7_hours 43 = .ok (.istore_n 3, 1) := by decide +kernel
theorem dX7_hours_44 : decode cX7_hours 44 = .ok (.iload_n 3, 1) := by decide +kernel
theorem dX7_hours_45 : decode cX7_hours 45 = .ok (.iload_n 1, 1) := by decide +kernel
theorem dX7_hours_46 : decode cX7_hours 46 = .ok (.if_icmp .ge 14, 3) := by decide +kernel
theorem dX7_hours_49 : decode cX7_hours 49 = .ok (.aload_n 2, 1) := by decide +kernel
theorem dX7_hours_50 : decode cX7_hours 50 = .ok (.iconst (-1), 1) := by decide +kernel
theorem dX7_hours_51 : decode cX7_hours 51 = .ok (.invokevirtual 171, 3) := by decide +kernel
theorem dX7_hours_54 : decode cX7_hours 54 = .ok (.iinc 3 1, 3) := by decide +kernel
theorem dX7_hours_57 : decode cX7_hours 57 = .ok (.goto (-13), 3) := by decide +kernel
theorem dX7_hours_60 : decode cX7_hours 60 = .ok (.aload_n 2, 1) := by decide +kernel
theorem dX7_hours_61 : decode cX7_hours 61 = .ok (.invokevirtual 175, 3) := by decide +kernel
theorem dX7_hours_64 : decode cX7_hours 64 = .ok (.ireturn, 1) := by decide +kernel
theorem dX7_loose_0 : decode cX7_loose 0 = .ok (.iload_n 1, 1) := by decide +kernel
theorem dX7_loose_1 : decode cX7_loose 1 = .ok (.iconst 1, 1) := by decide +kernel
theorem dX7_loose_2 : decode cX7_loose 2 = .ok (.bipush 30, 2) := by decide +kernel
theorem dX7_loose_4 : decode cX7_loose 4 = .ok (.invokestatic 115, 3) := by decide +kernel
theorem dX7_loose_7 : decode cX7_loose 7 = .ok (.ifCond .ne 9, 3) := by decide +kernel
theorem dX7_loose_10 : decode cX7_loose 10 = .ok (.aload_n 0, 1) := by decide +kernel
theorem dX7_loose_11 : decode cX7_loose 11 = .ok (.iconst 1, 1) := by decide +kernel
theorem dX7_loose_12 : decode cX7_loose 12 = .ok (.invokevirtual 73, 3) := by decide +kernel
theorem dX7_loose_15 : decode cX7_loose 15 = .ok (.ireturn, 1) := by decide +kernel
theorem dX7_loose_16 : decode cX7_loose 16 = .ok (.aload_n 0, 1) := by decide +kernel
theorem dX7_loose_17 : decode cX7_loose 17 = .ok (.getfield 10, 3) := by decide +kernel
theorem dX7_loose_20 : decode cX7_loose 20 = .ok (.getfield 34, 3) := by decide +kernel
theorem dX7_loose_23 : decode cX7_loose 23 = .ok (.astore_n 2, 1) := by decide +kernel
theorem dX7_loose_24 : decode cX7_loose 24 = .ok (.aload_n 2, 1) := by decide +kernel
theorem dX7_loose_25 : decode cX7_loose 25 = .ok (.getfield 168, 3) := by decide +kernel
theorem dX7_loose_28 : decode cX7_loose 28 = .ok (.sipush 9999, 3) := by decide +kernel
theorem dX7_loose_31 : decode cX7_loose 31 = .ok (.iload_n 1, 1) := by decide +kernel
theorem dX7_loose_32 : decode cX7_loose 32 = .ok (.isub, 1) := by decide +kernel
theorem dX7_loose_33 : decode cX7_loose 33 = .ok (.if_icmp .le 9, 3) := by decide +kernel
theorem dX7_loose_36 : decode cX7_loose 36 = .ok (.aload_n 0, 1) := by decide +kernel
theorem dX7_loose_37 : decode cX7_loose 37 = .ok (.iconst 3, 1) := by decide +kernel
theorem dX7_loose_38 : decode cX7_loose 38 = .ok (.invokevirtual 73, 3) := by decide +kernel
theorem dX7_loose_41 : decode cX7_loose 41 = .ok (.ireturn, 1) := by decide +kernel
theorem dX7_loose_42 : decode cX7_loose 42 = .ok (.iconst 0, 1) := by decide +kernel
theorem dX7_loose_43 : decode cX7_loose 43 = .ok (.istore_n 3, 1) := by decide +kernel
theorem dX7_loose_44 : decode cX7_loose 44 = .ok (.iload_n 3, 1) := by decide +kernel
theorem dX7_loose_45 : decode cX7_loose 45 = .ok (.iload_n 1, 1) := by decide +kernel
theorem dX7_loose_46 : decode cX7_loose 46 = .ok (.if_icmp .ge 16, 3) := by decide +kernel
theorem dX7_loose_49 : decode cX7_loose 49 = .ok (.aload_n 0, 1) := by decide +kernel
theorem dX7_loose_50 : decode cX7_loose 50 = .ok (.getfield 10, 3) := by decide +kernel
theorem dX7_loose_53 : decode cX7_loose 53 = .ok (.invokevirtual 179, 3) := by decide +kernel
theorem dX7_loose_56 : decode cX7_loose 56 = .ok (.iinc 3 1, 3) := by decide +kernel
theorem dX7_loose_59 : decode cX7_loose 59 = .ok (.goto (-15), 3) := by decide +kernel
theorem dX7_loose_62 : decode cX7_loose 62 = .ok (.aload_n 2, 1) := by decide +kernel
theorem dX7_loose_63 : decode cX7_loose 63 = .ok (.invokevirtual 175, 3) := by decide +kernel
theorem dX7_loose_66 : decode cX7_loose 66 = .ok (.ireturn, 1) := by decide +kernel
theorem dX7_hour_0 : decode cX7_hour 0 = .ok (.iload_n 1, 1) := by decide +kernel
theorem dX7_hour_1 : decode cX7_hour 1 = .ok (.iconst 0, 1) := by decide +kernel
theorem dX7_hour_2 : decode cX7_hour 2 = .ok (.sipush 9999, 3) := by decide +kernel
theorem dX7_hour_5 : decode cX7_hour 5 = .ok (.invokestatic 115, 3) := by decide +kernel
theorem dX7_hour_8 : decode cX7_hour 8 = .ok (.ifCond .ne 9, 3) := by decide +kernel
theorem dX7_hour_11 : decode cX7_hour 11 = .ok (.aload_n 0, 1) := by decide +kernel
theorem dX7_hour_12 : decode cX7_hour 12 = .ok (.iconst 1, 1) := by decide +kernel
theorem dX7_hour_13 : decode cX7_hour 13 = .ok (.invokevirtual 73, 3) := by decide +kernel
theorem dX7_hour_16 : decode cX7_hour 16 = .ok (.ireturn, 1) := by decide +kernel
theorem dX7_hour_17 : decode cX7_hour 17 = .ok (.aload_n 0, 1) := by decide +kernel
theorem dX7_hour_18 : decode cX7_hour 18 = .ok (.getfield 10, 3) := by decide +kernel
theorem dX7_hour_21 : decode cX7_hour 21 = .ok (.getfield 34, 3) := by decide +kernel
theorem dX7_hour_24 : decode cX7_hour 24 = .ok (.getfield 168, 3) := by decide +kernel
theorem dX7_hour_27 : decode cX7_hour 27 = .ok (.istore_n 2, 1) := by decide +kernel
theorem dX7_hour_28 : decode cX7_hour 28 = .ok (.aload_n 0, 1) := by decide +kernel
theorem dX7_hour_29 : decode cX7_hour 29 = .ok (.getfield 10, 3) := by decide +kernel
theorem dX7_hour_32 : decode cX7_hour 32 = .ok (.getfield 34, 3) := by decide +kernel
theorem dX7_hour_35 : decode cX7_hour 35 = .ok (.iload_n 1, 1) := by decide +kernel
theorem dX7_hour_36 : decode cX7_hour 36 = .ok (.putfield 168, 3) := by decide +kernel
theorem dX7_hour_39 : decode cX7_hour 39 = .ok (.iload_n 2, 1) := by decide +kernel
theorem dX7_hour_40 : decode cX7_hour 40 = .ok (.ireturn, 1) := by decide +kernel
theorem dX7_seed_0 : decode cX7_seed 0 = .ok (.aload_n 0, 1) := by decide +kernel
theorem dX7_seed_1 : decode cX7_seed 1 = .ok (.getfield 10, 3) := by decide +kernel
theorem dX7_seed_4 : decode cX7_seed 4 = .ok (.getfield 182, 3) := by decide +kernel
theorem dX7_seed_7 : decode cX7_seed 7 = .ok (.istore_n 2, 1) := by decide +kernel
theorem dX7_seed_8 : decode cX7_seed 8 = .ok (.aload_n 0, 1) := by decide +kernel
theorem dX7_seed_9 : decode cX7_seed 9 = .ok (.getfield 10, 3) := by decide +kernel
theorem dX7_seed_12 : decode cX7_seed 12 = .ok (.iload_n 1, 1) := by decide +kernel
theorem dX7_seed_13 : decode cX7_seed 13 = .ok (.putfield 182, 3) := by decide +kernel
theorem dX7_seed_16 : decode cX7_seed 16 = .ok (.iload_n 2, 1) := by decide +kernel
theorem dX7_seed_17 : decode cX7_seed 17 = .ok (.ireturn, 1) := by decide +kernel
theorem dX7_then_0 : decode cX7_then 0 = .ok (.aload_n 0, 1) := by decide +kernel
theorem dX7_then_1 : decode cX7_then 1 = .ok (.iload_n 1, 1) := by decide +kernel
theorem dX7_then_2 : decode cX7_then 2 = .ok (.invokevirtual 86, 3) := by decide +kernel
theorem dX7_then_5 : decode cX7_then 5 = .ok (.ifCond .eq 22, 3) := by decide +kernel
theorem dX7_then_8 : decode cX7_then 8 = .ok (.iload_n 2, 1) := by decide +kernel
theorem dX7_then_9 : decode cX7_then 9 = .ok (.iconst 0, 1) := by decide +kernel
theorem dX7_then_10 : decode cX7_then 10 = .ok (.bipush 60, 2) := by decide +kernel
theorem dX7_then_12 : decode cX7_then 12 = .ok (.invokestatic 115, 3) := by decide +kernel
theorem dX7_then_15 : decode cX7_then 15 = .ok (.ifCond .eq 12, 3) := by decide +kernel
theorem dX7_then_18 : decode cX7_then 18 = .ok (.iload_n 3, 1) := by decide +kernel
theorem dX7_then_19 : decode cX7_then 19 = .ok (.iconst 0, 1) := by decide +kernel
theorem dX7_then_20 : decode cX7_then 20 = .ok (.iconst 1, 1) := by decide +kernel
theorem dX7_then_21 : decode cX7_then 21 = .ok (.invokestatic 115, 3) := by decide +kernel
theorem dX7_then_24 : decode cX7_then 24 = .ok (.ifCond .ne 9, 3) := by decide +kernel
theorem dX7_then_27 : decode cX7_then 27 = .ok (.aload_n 0, 1) := by decide +kernel
theorem dX7_then_28 : decode cX7_then 28 = .ok (.iconst 1, 1) := by decide +kernel
theorem dX7_then_29 : decode cX7_then 29 = .ok (.invokevirtual 73, 3) := by decide +kernel
theorem dX7_then_32 : decode cX7_then 32 = .ok (.ireturn, 1) := by decide +kernel
theorem dX7_then_33 : decode cX7_then 33 = .ok (.aload_n 0, 1) := by decide +kernel
theorem dX7_then_34 : decode cX7_then 34 = .ok (.getfield 41, 3) := by decide +kernel
theorem dX7_then_37 : decode cX7_then 37 = .ok (.invokevirtual 185, 3) := by decide +kernel
theorem dX7_then_40 : decode cX7_then 40 = .ok (.aload_n 0, 1) := by decide +kernel
theorem dX7_then_41 : decode cX7_then 41 = .ok (.getfield 41, 3) := by decide +kernel
theorem dX7_then_44 : decode cX7_then 44 = .ok (.iload_n 1, 1) := by decide +kernel
theorem dX7_then_45 : decode cX7_then 45 = .ok (.iload_n 2, 1) := by decide +kernel
theorem dX7_then_46 : decode cX7_then 46 = .ok (.invokevirtual 188, 3) := by decide +kernel
theorem dX7_then_49 : decode cX7_then 49 = .ok (.aload_n 0, 1) := by decide +kernel
theorem dX7_then_50 : decode cX7_then 50 = .ok (.getfield 41, 3) := by decide +kernel
theorem dX7_then_53 : decode cX7_then 53 = .ok (.getfield 191, 3) := by decide +kernel
theorem dX7_then_56 : decode cX7_then 56 = .ok (.astore 4, 2) := by decide +kernel
theorem dX7_then_58 : decode cX7_then 58 = .ok (.iload_n 3, 1) := by decide +kernel
theorem dX7_then_59 : decode cX7_then 59 = .ok (.ifCond .ne 11, 3) := by decide +kernel
theorem dX7_then_62 : decode cX7_then 62 = .ok (.aload 4, 2) := by decide +kernel
theorem dX7_then_64 : decode cX7_then 64 = .ok (.getfield 98, 3) := by decide +kernel
theorem dX7_then_67 : decode cX7_then 67 = .ok (.iload_n 1, 1) := by decide +kernel
theorem dX7_then_68 : decode cX7_then 68 = .ok (.iaload, 1) := by decide +kernel
theorem dX7_then_69 : decode cX7_then 69 = .ok (.ireturn, 1) := by decide +kernel
theorem dX7_then_70 : decode cX7_then 70 = .ok (.aload 4, 2) := by decide +kernel
theorem dX7_then_72 : decode cX7_then 72 = .ok (.getfield 101, 3) := by decide +kernel
theorem dX7_then_75 : decode cX7_then 75 = .ok (.iload_n 1, 1) := by decide +kernel
theorem dX7_then_76 : decode cX7_then 76 = .ok (.baload, 1) := by decide +kernel
theorem dX7_then_77 : decode cX7_then 77 = .ok (.ifCond .eq 7, 3) := by decide +kernel
theorem dX7_then_80 : decode cX7_then 80 = .ok (.iconst 1, 1) := by decide +kernel
theorem dX7_then_81 : decode cX7_then 81 = .ok (.goto 4, 3) := by decide +kernel
theorem dX7_then_84 : decode cX7_then 84 = .ok (.iconst 0, 1) := by decide +kernel
theorem dX7_then_85 : decode cX7_then 85 = .ok (.ireturn, 1) := by decide +kernel
theorem dX7_soonest_0 : decode cX7_soonest 0 = .ok (.aload_n 0, 1) := by decide +kernel
theorem dX7_soonest_1 : decode cX7_soonest 1 = .ok (.iload_n 1, 1) := by decide +kernel
theorem dX7_soonest_2 : decode cX7_soonest 2 = .ok (.invokevirtual 86, 3) := by decide +kernel
theorem dX7_soonest_5 : decode cX7_soonest 5 = .ok (.ifCond .eq 10, 3) := by decide +kernel
theorem dX7_soonest_8 : decode cX7_soonest 8 = .ok (.iload_n 2, 1) := by decide +kernel
theorem dX7_soonest_9 : decode cX7_soonest 9 = .ok (.invokestatic 123, 3) := by decide +kernel
theorem dX7_soonest_12 : decode cX7_soonest 12 = .ok (.ifCond .ne 9, 3) := by decide +kernel
theorem dX7_soonest_15 : decode cX7_soonest 15 = .ok (.aload_n 0, 1) := by decide +kernel
theorem dX7_soonest_16 : decode cX7_soonest 16 = .ok (.iconst 1, 1) := by decide +kernel
theorem dX7_soonest_17 : decode cX7_soonest 17 = .ok (.invokevirtual 73, 3) := by decide +kernel
theorem dX7_soonest_20 : decode cX7_soonest 20 = .ok (.ireturn, 1) := by decide +kernel
theorem dX7_soonest_21 : decode cX7_soonest 21 = .ok (.aload_n 0, 1) := by decide +kernel
theorem dX7_soonest_22 : decode cX7_soonest 22 = .ok (.getfield 41, 3) := by decide +kernel
theorem dX7_soonest_25 : decode cX7_soonest 25 = .ok (.invokevirtual 185, 3) := by decide +kernel
theorem dX7_soonest_28 : decode cX7_soonest 28 = .ok (.aload_n 0, 1) := by decide +kernel
theorem dX7_soonest_29 : decode cX7_soonest 29 = .ok (.getfield 41, 3) := by decide +kernel
theorem dX7_soonest_32 : decode cX7_soonest 32 = .ok (.iload_n 1, 1) := by decide +kernel
theorem dX7_soonest_33 : decode cX7_soonest 33 = .ok (.iload_n 2, 1) := by decide +kernel
theorem dX7_soonest_34 : decode cX7_soonest 34 = .ok (.bipush 60, 2) := by decide +kernel
theorem dX7_soonest_36 : decode cX7_soonest 36 = .ok (.invokevirtual 192, 3) := by decide +kernel
theorem dX7_soonest_39 : decode cX7_soonest 39 = .ok (.istore_n 3, 1) := by decide +kernel
theorem dX7_soonest_40 : decode cX7_soonest 40 = .ok (.iload_n 3, 1) := by decide +kernel
theorem dX7_soonest_41 : decode cX7_soonest 41 = .ok (.ifCond .ge 11, 3) := by decide +kernel
theorem dX7_soonest_44 : decode cX7_soonest 44 = .ok (.aload_n 0, 1) := by decide +kernel
theorem dX7_soonest_45 : decode cX7_soonest 45 = .ok (.iconst 2, 1) := by decide +kernel
theorem dX7_soonest_46 : decode cX7_soonest 46 = .ok (.invokevirtual 73, 3) := by decide +kernel
theorem dX7_soonest_49 : decode cX7_soonest 49 = .ok (.goto 4, 3) := by decide +kernel
theorem dX7_soonest_52 : decode cX7_soonest 52 = .ok (.iload_n 3, 1) := by decide +kernel
theorem dX7_soonest_53 : decode cX7_soonest 53 = .ok (.ireturn, 1) := by decide +kernel
theorem dX7_least_0 : decode cX7_least 0 = .ok (.aload_n 0, 1) := by decide +kernel
theorem dX7_least_1 : decode cX7_least 1 = .ok (.iload_n 1, 1) := by decide +kernel
theorem dX7_least_2 : decode cX7_least 2 = .ok (.invokevirtual 86, 3) := by decide +kernel
theorem dX7_least_5 : decode cX7_least 5 = .ok (.ifCond .eq 17, 3) := by decide +kernel
theorem dX7_least_8 : decode cX7_least 8 = .ok (.iload_n 2, 1) := by decide +kernel
theorem dX7_least_9 : decode cX7_least 9 = .ok (.invokestatic 123, 3) := by decide +kernel
theorem dX7_least_12 : decode cX7_least 12 = .ok (.ifCond .eq 10, 3) := by decide +kernel
theorem dX7_least_15 : decode cX7_least 15 = .ok (.iload_n 3, 1) := by decide +kernel
theorem dX7_least_16 : decode cX7_least 16 = .ok (.invokestatic 195, 3) := by decide +kernel
theorem dX7_least_19 : decode cX7_least 19 = .ok (.ifCond .ne 9, 3) := by decide +kernel
theorem dX7_least_22 : decode cX7_least 22 = .ok (.aload_n 0, 1) := by decide +kernel
theorem dX7_least_23 : decode cX7_least 23 = .ok (.iconst 1, 1) := by decide +kernel
theorem dX7_least_24 : decode cX7_least 24 = .ok (.invokevirtual 73, 3) := by decide +kernel
theorem dX7_least_27 : decode cX7_least 27 = .ok (.ireturn, 1) := by decide +kernel
theorem dX7_least_28 : decode cX7_least 28 = .ok (.iconst 0, 1) := by decide +kernel
theorem dX7_least_29 : decode cX7_least 29 = .ok (.istore 4, 2) := by decide +kernel
theorem dX7_least_31 : decode cX7_least 31 = .ok (.iload 4, 2) := by decide +kernel
theorem dX7_least_33 : decode cX7_least 33 = .ok (.bipush 100, 2) := by decide +kernel
theorem dX7_least_35 : decode cX7_least 35 = .ok (.if_icmp .ge 27, 3) := by decide +kernel
theorem dX7_least_38 : decode cX7_least 38 = .ok (.aload_n 0, 1) := by decide +kernel
theorem dX7_least_39 : decode cX7_least 39 = .ok (.getfield 41, 3) := by decide +kernel
theorem dX7_least_42 : decode cX7_least 42 = .ok (.iload_n 1, 1) := by decide +kernel
theorem dX7_least_43 : decode cX7_least 43 = .ok (.iload 4, 2) := by decide +kernel
theorem dX7_least_45 : decode cX7_least 45 = .ok (.iload_n 2, 1) := by decide +kernel
theorem dX7_least_46 : decode cX7_least 46 = .ok (.iload_n 3, 1) := by decide +kernel
theorem dX7_least_47 : decode cX7_least 47 = .ok (.invokevirtual 198, 3) := by decide +kernel
theorem dX7_least_50 : decode cX7_least 50 = .ok (.ifCond .eq 6, 3) := by decide +kernel
theorem dX7_least_53 : decode cX7_least 53 = .ok (.iload 4, 2) := by decide +kernel
theorem dX7_least_55 : decode cX7_least 55 = .ok (.ireturn, 1) := by decide +kernel
theorem dX7_least_56 : decode cX7_least 56 = .ok (.iinc 4 1, 3) := by decide +kernel
theorem dX7_least_59 : decode cX7_least 59 = .ok (.goto (-28), 3) := by decide +kernel
theorem dX7_least_62 : decode cX7_least 62 = .ok (.aload_n 0, 1) := by decide +kernel
theorem dX7_least_63 : decode cX7_least 63 = .ok (.iconst 2, 1) := by decide +kernel
theorem dX7_least_64 : decode cX7_least 64 = .ok (.invokevirtual 73, 3) := by decide +kernel
theorem dX7_least_67 : decode cX7_least 67 = .ok (.ireturn, 1) := by decide +kernel
theorem dX7_fills_0 : decode cX7_fills 0 = .ok (.aload_n 0, 1) := by decide +kernel
theorem dX7_fills_1 : decode cX7_fills 1 = .ok (.iload_n 1, 1) := by decide +kernel
theorem dX7_fills_2 : decode cX7_fills 2 = .ok (.invokevirtual 86, 3) := by decide +kernel
theorem dX7_fills_5 : decode cX7_fills 5 = .ok (.ifCond .eq 27, 3) := by decide +kernel
theorem dX7_fills_8 : decode cX7_fills 8 = .ok (.iload_n 2, 1) := by decide +kernel
theorem dX7_fills_9 : decode cX7_fills 9 = .ok (.invokestatic 123, 3) := by decide +kernel
theorem dX7_fills_12 : decode cX7_fills 12 = .ok (.ifCond .eq 20, 3) := by decide +kernel
theorem dX7_fills_15 : decode cX7_fills 15 = .ok (.iload_n 3, 1) := by decide +kernel
theorem dX7_fills_16 : decode cX7_fills 16 = .ok (.invokestatic 195, 3) := by decide +kernel
theorem dX7_fills_19 : decode cX7_fills 19 = .ok (.ifCond .eq 13, 3) := by decide +kernel
theorem dX7_fills_22 : decode cX7_fills 22 = .ok (.iload 4, 2) := by decide +kernel
theorem dX7_fills_24 : decode cX7_fills 24 = .ok (.iconst 0, 1) := by decide +kernel
theorem dX7_fills_25 : decode cX7_fills 25 = .ok (.iconst 1, 1) := by decide +kernel
theorem dX7_fills_26 : decode cX7_fills 26 = .ok (.invokestatic 115, 3) := by decide +kernel
theorem dX7_fills_29 : decode cX7_fills 29 = .ok (.ifCond .ne 9, 3) := by decide +kernel
theorem dX7_fills_32 : decode cX7_fills 32 = .ok (.aload_n 0, 1) := by decide +kernel
theorem dX7_fills_33 : decode cX7_fills 33 = .ok (.iconst 1, 1) := by decide +kernel
theorem dX7_fills_34 : decode cX7_fills 34 = .ok (.invokevirtual 73, 3) := by decide +kernel
theorem dX7_fills_37 : decode cX7_fills 37 = .ok (.ireturn, 1) := by decide +kernel
theorem dX7_fills_38 : decode cX7_fills 38 = .ok (.aload_n 0, 1) := by decide +kernel
theorem dX7_fills_39 : decode cX7_fills 39 = .ok (.getfield 41, 3) := by decide +kernel
theorem dX7_fills_42 : decode cX7_fills 42 = .ok (.iload_n 1, 1) := by decide +kernel
theorem dX7_fills_43 : decode cX7_fills 43 = .ok (.iload_n 2, 1) := by decide +kernel
theorem dX7_fills_44 : decode cX7_fills 44 = .ok (.iload_n 3, 1) := by decide +kernel
theorem dX7_fills_45 : decode cX7_fills 45 = .ok (.invokevirtual 202, 3) := by decide +kernel
theorem dX7_fills_48 : decode cX7_fills 48 = .ok (.istore 5, 2) := by decide +kernel
theorem dX7_fills_50 : decode cX7_fills 50 = .ok (.iload 5, 2) := by decide +kernel
theorem dX7_fills_52 : decode cX7_fills 52 = .ok (.ifCond .ge 9, 3) := by decide +kernel
theorem dX7_fills_55 : decode cX7_fills 55 = .ok (.aload_n 0, 1) := by decide +kernel
theorem dX7_fills_56 : decode cX7_fills 56 = .ok (.iconst 2, 1) := by decide +kernel
theorem dX7_fills_57 : decode cX7_fills 57 = .ok (.invokevirtual 73, 3) := by decide +kernel
theorem dX7_fills_60 : decode cX7_fills 60 = .ok (.ireturn, 1) := by decide +kernel
theorem dX7_fills_61 : decode cX7_fills 61 = .ok (.iload 4, 2) := by decide +kernel
theorem dX7_fills_63 : decode cX7_fills 63 = .ok (.ifCond .ne 11, 3) := by decide +kernel
theorem dX7_fills_66 : decode cX7_fills 66 = .ok (.iload 5, 2) := by decide +kernel
theorem dX7_fills_68 : decode cX7_fills 68 = .ok (.invokestatic 205, 3) := by decide +kernel
theorem dX7_fills_71 : decode cX7_fills 71 = .ok (.goto 5, 3) := by decide +kernel
theorem dX7_fills_74 : decode cX7_fills 74 = .ok (.iload 5, 2) := by decide +kernel
theorem dX7_fills_76 : decode cX7_fills 76 = .ok (.ireturn, 1) := by decide +kernel
theorem dX7_withWhom_0 : decode cX7_withWhom 0 = .ok (.aload_n 0, 1) := by decide +kernel
theorem dX7_withWhom_1 : decode cX7_withWhom 1 = .ok (.iload_n 1, 1) := by decide +kernel
theorem dX7_withWhom_2 : decode cX7_withWhom 2 = .ok (.invokevirtual 86, 3) := by decide +kernel
theorem dX7_withWhom_5 : decode cX7_withWhom 5 = .ok (.ifCond .eq 10, 3) := by decide +kernel
theorem dX7_withWhom_8 : decode cX7_withWhom 8 = .ok (.iload_n 2, 1) := by decide +kernel
theorem dX7_withWhom_9 : decode cX7_withWhom 9 = .ok (.invokestatic 195, 3) := by decide +kernel
theorem dX7_withWhom_12 : decode cX7_withWhom 12 = .ok (.ifCond .ne 9, 3) := by decide +kernel
theorem dX7_withWhom_15 : decode cX7_withWhom 15 = .ok (.aload_n 0, 1) := by decide +kernel
theorem dX7_withWhom_16 : decode cX7_withWhom 16 = .ok (.iconst 1, 1) := by decide +kernel
theorem dX7_withWhom_17 : decode cX7_withWhom 17 = .ok (.invokevirtual 73, 3) := by decide +kernel
theorem dX7_withWhom_20 : decode cX7_withWhom 20 = .ok (.ireturn, 1) := by decide +kernel
theorem dX7_withWhom_21 : decode cX7_withWhom 21 = .ok (.iconst (-1), 1) := by decide +kernel
theorem dX7_withWhom_22 : decode cX7_withWhom 22 = .ok (.istore_n 3, 1) := by decide +kernel
theorem dX7_withWhom_23 : decode cX7_withWhom 23 = .ok (.iconst (-1), 1) := by decide +kernel
theorem dX7_withWhom_24 : decode cX7_withWhom 24 = .ok (.istore 4, 2) := by decide +kernel
theorem dX7_withWhom_26 : decode cX7_withWhom 26 = .ok (.iconst 0, 1) := by decide +kernel
theorem dX7_withWhom_27 : decode cX7_withWhom 27 = .ok (.istore 5, 2) := by decide +kernel
theorem dX7_withWhom_29 : decode cX7_withWhom 29 = .ok (.iload 5, 2) := by decide +kernel
theorem dX7_withWhom_31 : decode cX7_withWhom 31 = .ok (.aload_n 0, 1) := by decide +kernel
theorem dX7_withWhom_32 : decode cX7_withWhom 32 = .ok (.getfield 10, 3) := by decide +kernel
theorem dX7_withWhom_35 : decode cX7_withWhom 35 = .ok (.getfield 34, 3) := by decide +kernel
theorem dX7_withWhom_38 : decode cX7_withWhom 38 = .ok (.getfield 77, 3) := by decide +kernel
theorem dX7_withWhom_41 : decode cX7_withWhom 41 = .ok (.if_icmp .ge 46, 3) := by decide +kernel
theorem dX7_withWhom_44 : decode cX7_withWhom 44 = .ok (.iload 5, 2) := by decide +kernel
theorem dX7_withWhom_46 : decode cX7_withWhom 46 = .ok (.iload_n 1, 1) := by decide +kernel
theorem dX7_withWhom_47 : decode cX7_withWhom 47 = .ok (.if_icmp .ne 7, 3) := by decide +kernel
theorem dX7_withWhom_50 : decode cX7_withWhom 50 = .ok (.iconst (-1), 1) := by decide +kernel
theorem dX7_withWhom_51 : decode cX7_withWhom 51 = .ok (.goto 14, 3) := by decide +kernel
theorem dX7_withWhom_54 : decode cX7_withWhom 54 = .ok (.aload_n 0, 1) := by decide +kernel
theorem dX7_withWhom_55 : decode cX7_withWhom 55 = .ok (.getfield 41, 3) := by decide +kernel
theorem dX7_withWhom_58 : decode cX7_withWhom 58 = .ok (.iload_n 1, 1) := by decide +kernel
theorem dX7_withWhom_59 : decode cX7_withWhom 59 = .ok (.iload 5, 2) := by decide +kernel
theorem dX7_withWhom_61 : decode cX7_withWhom 61 = .ok (.iload_n 2, 1) := by decide +kernel
theorem dX7_withWhom_62 : decode cX7_withWhom 62 = .ok (.invokevirtual 210, 3) := by decide +kernel
theorem dX7_withWhom_65 : decode cX7_withWhom 65 = .ok (.istore 6, 2) := by decide +kernel
theorem dX7_withWhom_67 : decode cX7_withWhom 67 = .ok (.iload 6, 2) := by decide +kernel
theorem dX7_withWhom_69 : decode cX7_withWhom 69 = .ok (.iload 4, 2) := by decide +kernel
theorem dX7_withWhom_71 : decode cX7_withWhom 71 = .ok (.if_icmp .le 10, 3) := by decide +kernel
theorem dX7_withWhom_74 : decode cX7_withWhom 74 = .ok (.iload 6, 2) := by decide +kernel
theorem dX7_withWhom_76 : decode cX7_withWhom 76 = .ok (.istore 4, 2) := by decide +kernel
theorem dX7_withWhom_78 : decode cX7_withWhom 78 = .ok (.iload 5, 2) := by decide +kernel
theorem dX7_withWhom_80 : decode cX7_withWhom 80 = .ok (.istore_n 3, 1) := by decide +kernel
theorem dX7_withWhom_81 : decode cX7_withWhom 81 = .ok (.iinc 5 1, 3) := by decide +kernel
theorem dX7_withWhom_84 : decode cX7_withWhom 84 = .ok (.goto (-55), 3) := by decide +kernel
theorem dX7_withWhom_87 : decode cX7_withWhom 87 = .ok (.iload_n 3, 1) := by decide +kernel
theorem dX7_withWhom_88 : decode cX7_withWhom 88 = .ok (.ifCond .ge 11, 3) := by decide +kernel
theorem dX7_withWhom_91 : decode cX7_withWhom 91 = .ok (.aload_n 0, 1) := by decide +kernel
theorem dX7_withWhom_92 : decode cX7_withWhom 92 = .ok (.iconst 2, 1) := by decide +kernel
theorem dX7_withWhom_93 : decode cX7_withWhom 93 = .ok (.invokevirtual 73, 3) := by decide +kernel
theorem dX7_withWhom_96 : decode cX7_withWhom 96 = .ok (.goto 4, 3) := by decide +kernel
theorem dX7_withWhom_99 : decode cX7_withWhom 99 = .ok (.iload_n 3, 1) := by decide +kernel
theorem dX7_withWhom_100 : decode cX7_withWhom 100 = .ok (.ireturn, 1) := by decide +kernel
theorem dX7_odds_0 : decode cX7_odds 0 = .ok (.aload_n 0, 1) := by decide +kernel
theorem dX7_odds_1 : decode cX7_odds 1 = .ok (.iload_n 1, 1) := by decide +kernel
theorem dX7_odds_2 : decode cX7_odds 2 = .ok (.invokevirtual 86, 3) := by decide +kernel
theorem dX7_odds_5 : decode cX7_odds 5 = .ok (.ifCond .eq 27, 3) := by decide +kernel
theorem dX7_odds_8 : decode cX7_odds 8 = .ok (.iload_n 2, 1) := by decide +kernel
theorem dX7_odds_9 : decode cX7_odds 9 = .ok (.invokestatic 123, 3) := by decide +kernel
theorem dX7_odds_12 : decode cX7_odds 12 = .ok (.ifCond .eq 20, 3) := by decide +kernel
theorem dX7_odds_15 : decode cX7_odds 15 = .ok (.iload_n 3, 1) := by decide +kernel
theorem dX7_odds_16 : decode cX7_odds 16 = .ok (.invokestatic 195, 3) := by decide +kernel
theorem dX7_odds_19 : decode cX7_odds 19 = .ok (.ifCond .eq 13, 3) := by decide +kernel
theorem dX7_odds_22 : decode cX7_odds 22 = .ok (.iload 4, 2) := by decide +kernel
theorem dX7_odds_24 : decode cX7_odds 24 = .ok (.iconst 0, 1) := by decide +kernel
theorem dX7_odds_25 : decode cX7_odds 25 = .ok (.iconst 1, 1) := by decide +kernel
theorem dX7_odds_26 : decode cX7_odds 26 = .ok (.invokestatic 115, 3) := by decide +kernel
theorem dX7_odds_29 : decode cX7_odds 29 = .ok (.ifCond .ne 9, 3) := by decide +kernel
theorem dX7_odds_32 : decode cX7_odds 32 = .ok (.aload_n 0, 1) := by decide +kernel
theorem dX7_odds_33 : decode cX7_odds 33 = .ok (.iconst 1, 1) := by decide +kernel
theorem dX7_odds_34 : decode cX7_odds 34 = .ok (.invokevirtual 73, 3) := by decide +kernel
theorem dX7_odds_37 : decode cX7_odds 37 = .ok (.ireturn, 1) := by decide +kernel
theorem dX7_odds_38 : decode cX7_odds 38 = .ok (.iconst 0, 1) := by decide +kernel
theorem dX7_odds_39 : decode cX7_odds 39 = .ok (.istore 5, 2) := by decide +kernel
theorem dX7_odds_41 : decode cX7_odds 41 = .ok (.iconst 0, 1) := by decide +kernel
theorem dX7_odds_42 : decode cX7_odds 42 = .ok (.istore 6, 2) := by decide +kernel
theorem dX7_odds_44 : decode cX7_odds 44 = .ok (.iload 6, 2) := by decide +kernel
theorem dX7_odds_46 : decode cX7_odds 46 = .ok (.bipush 100, 2) := by decide +kernel
theorem dX7_odds_48 : decode cX7_odds 48 = .ok (.if_icmp .ge 27, 3) := by decide +kernel
theorem dX7_odds_51 : decode cX7_odds 51 = .ok (.aload_n 0, 1) := by decide +kernel
theorem dX7_odds_52 : decode cX7_odds 52 = .ok (.getfield 41, 3) := by decide +kernel
theorem dX7_odds_55 : decode cX7_odds 55 = .ok (.iload_n 1, 1) := by decide +kernel
theorem dX7_odds_56 : decode cX7_odds 56 = .ok (.iload 6, 2) := by decide +kernel
theorem dX7_odds_58 : decode cX7_odds 58 = .ok (.iload_n 2, 1) := by decide +kernel
theorem dX7_odds_59 : decode cX7_odds 59 = .ok (.iload_n 3, 1) := by decide +kernel
theorem dX7_odds_60 : decode cX7_odds 60 = .ok (.invokevirtual 198, 3) := by decide +kernel
theorem dX7_odds_63 : decode cX7_odds 63 = .ok (.ifCond .eq 6, 3) := by decide +kernel
theorem dX7_odds_66 : decode cX7_odds 66 = .ok (.iinc 5 1, 3) := by decide +kernel
theorem dX7_odds_69 : decode cX7_odds 69 = .ok (.iinc 6 1, 3) := by decide +kernel
theorem dX7_odds_72 : decode cX7_odds 72 = .ok (.goto (-28), 3) := by decide +kernel
theorem dX7_odds_75 : decode cX7_odds 75 = .ok (.iload 5, 2) := by decide +kernel
theorem dX7_odds_77 : decode cX7_odds 77 = .ok (.bipush 100, 2) := by decide +kernel
theorem dX7_odds_79 : decode cX7_odds 79 = .ok (.invokestatic 213, 3) := by decide +kernel
theorem dX7_odds_82 : decode cX7_odds 82 = .ok (.istore 6, 2) := by decide +kernel
theorem dX7_odds_84 : decode cX7_odds 84 = .ok (.iload 4, 2) := by decide +kernel
theorem dX7_odds_86 : decode cX7_odds 86 = .ok (.ifCond .ne 8, 3) := by decide +kernel
theorem dX7_odds_89 : decode cX7_odds 89 = .ok (.iload 5, 2) := by decide +kernel
theorem dX7_odds_91 : decode cX7_odds 91 = .ok (.goto 5, 3) := by decide +kernel
theorem dX7_odds_94 : decode cX7_odds 94 = .ok (.bipush 100, 2) := by decide +kernel
theorem dX7_odds_96 : decode cX7_odds 96 = .ok (.iload 6, 2) := by decide +kernel
theorem dX7_odds_98 : decode cX7_odds 98 = .ok (.idiv, 1) := by decide +kernel
theorem dX7_odds_99 : decode cX7_odds 99 = .ok (.ireturn, 1) := by decide +kernel
theorem dX7_fits_0 : decode cX7_fits 0 = .ok (.iload_n 1, 1) := by decide +kernel
theorem dX7_fits_1 : decode cX7_fits 1 = .ok (.invokestatic 216, 3) := by decide +kernel
theorem dX7_fits_4 : decode cX7_fits 4 = .ok (.ifCond .eq 20, 3) := by decide +kernel
theorem dX7_fits_7 : decode cX7_fits 7 = .ok (.aload_n 0, 1) := by decide +kernel
theorem dX7_fits_8 : decode cX7_fits 8 = .ok (.iload_n 2, 1) := by decide +kernel
theorem dX7_fits_9 : decode cX7_fits 9 = .ok (.invokevirtual 86, 3) := by decide +kernel
theorem dX7_fits_12 : decode cX7_fits 12 = .ok (.ifCond .eq 12, 3) := by decide +kernel
theorem dX7_fits_15 : decode cX7_fits 15 = .ok (.iload_n 3, 1) := by decide +kernel
theorem dX7_fits_16 : decode cX7_fits 16 = .ok (.iconst 0, 1) := by decide +kernel
theorem dX7_fits_17 : decode cX7_fits 17 = .ok (.iconst 1, 1) := by decide +kernel
theorem dX7_fits_18 : decode cX7_fits 18 = .ok (.invokestatic 115, 3) := by decide +kernel
theorem dX7_fits_21 : decode cX7_fits 21 = .ok (.ifCond .ne 9, 3) := by decide +kernel
theorem dX7_fits_24 : decode cX7_fits 24 = .ok (.aload_n 0, 1) := by decide +kernel
theorem dX7_fits_25 : decode cX7_fits 25 = .ok (.iconst 1, 1) := by decide +kernel
theorem dX7_fits_26 : decode cX7_fits 26 = .ok (.invokevirtual 73, 3) := by decide +kernel
theorem dX7_fits_29 : decode cX7_fits 29 = .ok (.ireturn, 1) := by decide +kernel
theorem dX7_fits_30 : decode cX7_fits 30 = .ok (.aload_n 0, 1) := by decide +kernel
theorem dX7_fits_31 : decode cX7_fits 31 = .ok (.getfield 55, 3) := by decide +kernel
theorem dX7_fits_34 : decode cX7_fits 34 = .ok (.iload_n 1, 1) := by decide +kernel
theorem dX7_fits_35 : decode cX7_fits 35 = .ok (.invokevirtual 219, 3) := by decide +kernel
theorem dX7_fits_38 : decode cX7_fits 38 = .ok (.ifCond .eq 9, 3) := by decide +kernel
theorem dX7_fits_41 : decode cX7_fits 41 = .ok (.aload_n 0, 1) := by decide +kernel
theorem dX7_fits_42 : decode cX7_fits 42 = .ok (.iconst 2, 1) := by decide +kernel
theorem dX7_fits_43 : decode cX7_fits 43 = .ok (.invokevirtual 73, 3) := by decide +kernel
theorem dX7_fits_46 : decode cX7_fits 46 = .ok (.ireturn, 1) := by decide +kernel
theorem dX7_fits_47 : decode cX7_fits 47 = .ok (.iconst 0, 1) := by decide +kernel
theorem dX7_fits_48 : decode cX7_fits 48 = .ok (.istore 4, 2) := by decide +kernel
theorem dX7_fits_50 : decode cX7_fits 50 = .ok (.iconst (-1), 1) := by decide +kernel
theorem dX7_fits_51 : decode cX7_fits 51 = .ok (.istore 5, 2) := by decide +kernel
theorem dX7_fits_53 : decode cX7_fits 53 = .ok (.iconst 0, 1) := by decide +kernel
theorem dX7_fits_54 : decode cX7_fits 54 = .ok (.istore 6, 2) := by decide +kernel
theorem dX7_fits_56 : decode cX7_fits 56 = .ok (.iload 6, 2) := by decide +kernel
theorem dX7_fits_58 : decode cX7_fits 58 = .ok (.bipush 100, 2) := by decide +kernel
theorem dX7_fits_60 : decode cX7_fits 60 = .ok (.if_icmp .ge 57, 3) := by decide +kernel
theorem dX7_fits_63 : decode cX7_fits 63 = .ok (.aload_n 0, 1) := by decide +kernel
theorem dX7_fits_64 : decode cX7_fits 64 = .ok (.getfield 41, 3) := by decide +kernel
theorem dX7_fits_67 : decode cX7_fits 67 = .ok (.iload_n 2, 1) := by decide +kernel
theorem dX7_fits_68 : decode cX7_fits 68 = .ok (.iload 6, 2) := by decide +kernel
theorem dX7_fits_70 : decode cX7_fits 70 = .ok (.aload_n 0, 1) := by decide +kernel
theorem dX7_fits_71 : decode cX7_fits 71 = .ok (.getfield 55, 3) := by decide +kernel
theorem dX7_fits_74 : decode cX7_fits 74 = .ok (.getfield 222, 3) := by decide +kernel
theorem dX7_fits_77 : decode cX7_fits 77 = .ok (.iload_n 1, 1) := by decide +kernel
theorem dX7_fits_78 : decode cX7_fits 78 = .ok (.aaload, 1) := by decide +kernel
theorem dX7_fits_79 : decode cX7_fits 79 = .ok (.aload_n 0, 1) := by decide +kernel
theorem dX7_fits_80 : decode cX7_fits 80 = .ok (.getfield 55, 3) := by decide +kernel
theorem dX7_fits_83 : decode cX7_fits 83 = .ok (.getfield 226, 3) := by decide +kernel
theorem dX7_fits_86 : decode cX7_fits 86 = .ok (.iload_n 1, 1) := by decide +kernel
theorem dX7_fits_87 : decode cX7_fits 87 = .ok (.iaload, 1) := by decide +kernel
theorem dX7_fits_88 : decode cX7_fits 88 = .ok (.invokevirtual 229, 3) := by decide +kernel
theorem dX7_fits_91 : decode cX7_fits 91 = .ok (.ifCond .eq 20, 3) := by decide +kernel
theorem dX7_fits_94 : decode cX7_fits 94 = .ok (.iload 5, 2) := by decide +kernel
theorem dX7_fits_96 : decode cX7_fits 96 = .ok (.ifCond .ge 8, 3) := by decide +kernel
theorem dX7_fits_99 : decode cX7_fits 99 = .ok (.iload 6, 2) := by decide +kernel
theorem dX7_fits_101 : decode cX7_fits 101 = .ok (.goto 5, 3) := by decide +kernel
theorem dX7_fits_104 : decode cX7_fits 104 = .ok (.iload 5, 2) := by decide +kernel
theorem dX7_fits_106 : decode cX7_fits 106 = .ok (.istore 5, 2) := by decide +kernel
theorem dX7_fits_108 : decode cX7_fits 108 = .ok (.iinc 4 1, 3) := by decide +kernel
theorem dX7_fits_111 : decode cX7_fits 111 = .ok (.iinc 6 1, 3) := by decide +kernel
theorem dX7_fits_114 : decode cX7_fits 114 = .ok (.goto (-58), 3) := by decide +kernel
theorem dX7_fits_117 : decode cX7_fits 117 = .ok (.iload_n 3, 1) := by decide +kernel
theorem dX7_fits_118 : decode cX7_fits 118 = .ok (.ifCond .ne 6, 3) := by decide +kernel
theorem dX7_fits_121 : decode cX7_fits 121 = .ok (.iload 4, 2) := by decide +kernel
theorem dX7_fits_123 : decode cX7_fits 123 = .ok (.ireturn, 1) := by decide +kernel
theorem dX7_fits_124 : decode cX7_fits 124 = .ok (.iload 5, 2) := by decide +kernel
theorem dX7_fits_126 : decode cX7_fits 126 = .ok (.ifCond .ge 11, 3) := by decide +kernel
theorem dX7_fits_129 : decode cX7_fits 129 = .ok (.aload_n 0, 1) := by decide +kernel
theorem dX7_fits_130 : decode cX7_fits 130 = .ok (.iconst 2, 1) := by decide +kernel
theorem dX7_fits_131 : decode cX7_fits 131 = .ok (.invokevirtual 73, 3) := by decide +kernel
theorem dX7_fits_134 : decode cX7_fits 134 = .ok (.goto 5, 3) := by decide +kernel
theorem dX7_fits_137 : decode cX7_fits 137 = .ok (.iload 5, 2) := by decide +kernel
theorem dX7_fits_139 : decode cX7_fits 139 = .ok (.ireturn, 1) := by decide +kernel
theorem dX7_voice_0 : decode cX7_voice 0 = .ok (.aload_n 0, 1) := by decide +kernel
theorem dX7_voice_1 : decode cX7_voice 1 = .ok (.iload_n 1, 1) := by decide +kernel
theorem dX7_voice_2 : decode cX7_voice 2 = .ok (.invokevirtual 86, 3) := by decide +kernel
theorem dX7_voice_5 : decode cX7_voice 5 = .ok (.ifCond .eq 12, 3) := by decide +kernel
theorem dX7_voice_8 : decode cX7_voice 8 = .ok (.iload_n 2, 1) := by decide +kernel
theorem dX7_voice_9 : decode cX7_voice 9 = .ok (.iconst 0, 1) := by decide +kernel
theorem dX7_voice_10 : decode cX7_voice 10 = .ok (.iconst 3, 1) := by decide +kernel
theorem dX7_voice_11 : decode cX7_voice 11 = .ok (.invokestatic 115, 3) := by decide +kernel
theorem dX7_voice_14 : decode cX7_voice 14 = .ok (.ifCond .ne 9, 3) := by decide +kernel
theorem dX7_voice_17 : decode cX7_voice 17 = .ok (.aload_n 0, 1) := by decide +kernel
theorem dX7_voice_18 : decode cX7_voice 18 = .ok (.iconst 1, 1) := by decide +kernel
theorem dX7_voice_19 : decode cX7_voice 19 = .ok (.invokevirtual 73, 3) := by decide +kernel
theorem dX7_voice_22 : decode cX7_voice 22 = .ok (.ireturn, 1) := by decide +kernel
theorem dX7_voice_23 : decode cX7_voice 23 = .ok (.aload_n 0, 1) := by decide +kernel
theorem dX7_voice_24 : decode cX7_voice 24 = .ok (.getfield 48, 3) := by decide +kernel
theorem dX7_voice_27 : decode cX7_voice 27 = .ok (.aload_n 0, 1) := by decide +kernel
theorem dX7_voice_28 : decode cX7_voice 28 = .ok (.getfield 10, 3) := by decide +kernel
theorem dX7_voice_31 : decode cX7_voice 31 = .ok (.getfield 34, 3) := by decide +kernel
theorem dX7_voice_34 : decode cX7_voice 34 = .ok (.getfield 89, 3) := by decide +kernel
theorem dX7_voice_37 : decode cX7_voice 37 = .ok (.iload_n 1, 1) := by decide +kernel
theorem dX7_voice_38 : decode cX7_voice 38 = .ok (.iaload, 1) := by decide +kernel
theorem dX7_voice_39 : decode cX7_voice 39 = .ok (.iload_n 1, 1) := by decide +kernel
theorem dX7_voice_40 : decode cX7_voice 40 = .ok (.aload_n 0, 1) := by decide +kernel
theorem dX7_voice_41 : decode cX7_voice 41 = .ok (.getfield 10, 3) := by decide +kernel
theorem dX7_voice_44 : decode cX7_voice 44 = .ok (.getfield 34, 3) := by decide +kernel
theorem dX7_voice_47 : decode cX7_voice 47 = .ok (.getfield 92, 3) := by decide +kernel
theorem dX7_voice_50 : decode cX7_voice 50 = .ok (.iload_n 1, 1) := by decide +kernel
theorem dX7_voice_51 : decode cX7_voice 51 = .ok (.iaload, 1) := by decide +kernel
theorem dX7_voice_52 : decode cX7_voice 52 = .ok (.iload_n 2, 1) := by decide +kernel
theorem dX7_voice_53 : decode cX7_voice 53 = .ok (.iload_n 3, 1) := by decide +kernel
theorem dX7_voice_54 : decode cX7_voice 54 = .ok (.invokevirtual 233, 3) := by decide +kernel
theorem dX7_voice_57 : decode cX7_voice 57 = .ok (.istore 4, 2) := by decide +kernel
theorem dX7_voice_59 : decode cX7_voice 59 = .ok (.aload_n 0, 1) := by decide +kernel
theorem dX7_voice_60 : decode cX7_voice 60 = .ok (.getfield 48, 3) := by decide +kernel
theorem dX7_voice_63 : decode cX7_voice 63 = .ok (.getfield 237, 3) := by decide +kernel
theorem dX7_voice_66 : decode cX7_voice 66 = .ok (.ifCond .eq 12, 3) := by decide +kernel
theorem dX7_voice_69 : decode cX7_voice 69 = .ok (.aload_n 0, 1) := by decide +kernel
theorem dX7_voice_70 : decode cX7_voice 70 = .ok (.bipush 6, 2) := by decide +kernel
theorem dX7_voice_72 : decode cX7_voice 72 = .ok (.invokevirtual 73, 3) := by decide +kernel
theorem dX7_voice_75 : decode cX7_voice 75 = .ok (.goto 5, 3) := by decide +kernel
theorem dX7_voice_78 : decode cX7_voice 78 = .ok (.iload 4, 2) := by decide +kernel
theorem dX7_voice_80 : decode cX7_voice 80 = .ok (.ireturn, 1) := by decide +kernel
theorem dX7_body_0 : decode cX7_body 0 = .ok (.iload_n 1, 1) := by decide +kernel
theorem dX7_body_1 : decode cX7_body 1 = .ok (.iconst 0, 1) := by decide +kernel
theorem dX7_body_2 : decode cX7_body 2 = .ok (.aload_n 0, 1) := by decide +kernel
theorem dX7_body_3 : decode cX7_body 3 = .ok (.getfield 48, 3) := by decide +kernel
theorem dX7_body_6 : decode cX7_body 6 = .ok (.getfield 241, 3) := by decide +kernel
theorem dX7_body_9 : decode cX7_body 9 = .ok (.iconst 1, 1) := by decide +kernel
theorem dX7_body_10 : decode cX7_body 10 = .ok (.isub, 1) := by decide +kernel
theorem dX7_body_11 : decode cX7_body 11 = .ok (.invokestatic 115, 3) := by decide +kernel
theorem dX7_body_14 : decode cX7_body 14 = .ok (.ifCond .ne 9, 3) := by decide +kernel
theorem dX7_body_17 : decode cX7_body 17 = .ok (.aload_n 0, 1) := by decide +kernel
theorem dX7_body_18 : decode cX7_body 18 = .ok (.iconst 2, 1) := by decide +kernel
theorem dX7_body_19 : decode cX7_body 19 = .ok (.invokevirtual 73, 3) := by decide +kernel
theorem dX7_body_22 : decode cX7_body 22 = .ok (.ireturn, 1) := by decide +kernel
theorem dX7_body_23 : decode cX7_body 23 = .ok (.aload_n 0, 1) := by decide +kernel
theorem dX7_body_24 : decode cX7_body 24 = .ok (.getfield 48, 3) := by decide +kernel
theorem dX7_body_27 : decode cX7_body 27 = .ok (.getfield 244, 3) := by decide +kernel
theorem dX7_body_30 : decode cX7_body 30 = .ok (.iload_n 1, 1) := by decide +kernel
theorem dX7_body_31 : decode cX7_body 31 = .ok (.iaload, 1) := by decide +kernel
theorem dX7_body_32 : decode cX7_body 32 = .ok (.ireturn, 1) := by decide +kernel
theorem dX7_sheet_0 : decode cX7_sheet 0 = .ok (.iload_n 1, 1) := by decide +kernel
theorem dX7_sheet_1 : decode cX7_sheet 1 = .ok (.invokestatic 216, 3) := by decide +kernel
theorem dX7_sheet_4 : decode cX7_sheet 4 = .ok (.ifCond .eq 25, 3) := by decide +kernel
theorem dX7_sheet_7 : decode cX7_sheet 7 = .ok (.iload_n 2, 1) := by decide +kernel
theorem dX7_sheet_8 : decode cX7_sheet 8 = .ok (.ifCond .eq 27, 3) := by decide +kernel
theorem dX7_sheet_11 : decode cX7_sheet 11 = .ok (.iload_n 2, 1) := by decide +kernel
theorem dX7_sheet_12 : decode cX7_sheet 12 = .ok (.bipush 8, 2) := by decide +kernel
theorem dX7_sheet_14 : decode cX7_sheet 14 = .ok (.if_icmp .eq 21, 3) := by decide +kernel
theorem dX7_sheet_17 : decode cX7_sheet 17 = .ok (.iload_n 2, 1) := by decide +kernel
theorem dX7_sheet_18 : decode cX7_sheet 18 = .ok (.bipush 16, 2) := by decide +kernel
theorem dX7_sheet_20 : decode cX7_sheet 20 = .ok (.if_icmp .eq 15, 3) := by decide +kernel
theorem dX7_sheet_23 : decode cX7_sheet 23 = .ok (.iload_n 2, 1) := by decide +kernel
theorem dX7_sheet_24 : decode cX7_sheet 24 = .ok (.bipush 32, 2) := by decide +kernel
theorem dX7_sheet_26 : decode cX7_sheet 26 = .ok (.if_icmp .eq 9, 3) := by decide +kernel
theorem dX7_sheet_29 : decode cX7_sheet 29 = .ok (.aload_n 0, 1) := by decide +kernel
theorem dX7_sheet_30 : decode cX7_sheet 30 = .ok (.iconst 1, 1) := by decide +kernel
theorem dX7_sheet_31 : decode cX7_sheet 31 = .ok (.invokevirtual 73, 3) := by decide +kernel
theorem dX7_sheet_34 : decode cX7_sheet 34 = .ok (.ireturn, 1) := by decide +kernel
theorem dX7_sheet_35 : decode cX7_sheet 35 = .ok (.iload_n 2, 1) := by decide +kernel
theorem dX7_sheet_36 : decode cX7_sheet 36 = .ok (.ifCond .ne 15, 3) := by decide +kernel
theorem dX7_sheet_39 : decode cX7_sheet 39 = .ok (.aload_n 0, 1) := by decide +kernel
theorem dX7_sheet_40 : decode cX7_sheet 40 = .ok (.getfield 55, 3) := by decide +kernel
theorem dX7_sheet_43 : decode cX7_sheet 43 = .ok (.iload_n 1, 1) := by decide +kernel
theorem dX7_sheet_44 : decode cX7_sheet 44 = .ok (.iconst 0, 1) := by decide +kernel
theorem dX7_sheet_45 : decode cX7_sheet 45 = .ok (.iconst 0, 1) := by decide +kernel
theorem dX7_sheet_46 : decode cX7_sheet 46 = .ok (.invokevirtual 247, 3) := by decide +kernel
theorem dX7_sheet_49 : decode cX7_sheet 49 = .ok (.iconst 1, 1) := by decide +kernel
theorem dX7_sheet_50 : decode cX7_sheet 50 = .ok (.ireturn, 1) := by decide +kernel
theorem dX7_sheet_51 : decode cX7_sheet 51 = .ok (.iload_n 3, 1) := by decide +kernel
theorem dX7_sheet_52 : decode cX7_sheet 52 = .ok (.ifCond .ge 9, 3) := by decide +kernel
theorem dX7_sheet_55 : decode cX7_sheet 55 = .ok (.aload_n 0, 1) := by decide +kernel
theorem dX7_sheet_56 : decode cX7_sheet 56 = .ok (.iconst 3, 1) := by decide +kernel
theorem dX7_sheet_57 : decode cX7_sheet 57 = .ok (.invokevirtual 73, 3) := by decide +kernel
theorem dX7_sheet_60 : decode cX7_sheet 60 = .ok (.ireturn, 1) := by decide +kernel
theorem dX7_sheet_61 : decode cX7_sheet 61 = .ok (.iload_n 3, 1) := by decide +kernel
theorem dX7_sheet_62 : decode cX7_sheet 62 = .ok (.bipush 24, 2) := by decide +kernel
theorem dX7_sheet_64 : decode cX7_sheet 64 = .ok (.if_icmp .le 9, 3) := by decide +kernel
theorem dX7_sheet_67 : decode cX7_sheet 67 = .ok (.aload_n 0, 1) := by decide +kernel
theorem dX7_sheet_68 : decode cX7_sheet 68 = .ok (.iconst 1, 1) := by decide +kernel
theorem dX7_sheet_69 : decode cX7_sheet 69 = .ok (.invokevirtual 73, 3) := by decide +kernel
theorem dX7_sheet_72 : decode cX7_sheet 72 = .ok (.ireturn, 1) := by decide +kernel
theorem dX7_sheet_73 : decode cX7_sheet 73 = .ok (.aload_n 0, 1) := by decide +kernel
theorem dX7_sheet_74 : decode cX7_sheet 74 = .ok (.getfield 55, 3) := by decide +kernel
theorem dX7_sheet_77 : decode cX7_sheet 77 = .ok (.iload_n 1, 1) := by decide +kernel
theorem dX7_sheet_78 : decode cX7_sheet 78 = .ok (.iload_n 2, 1) := by decide +kernel
theorem dX7_sheet_79 : decode cX7_sheet 79 = .ok (.iload_n 3, 1) := by decide +kernel
theorem dX7_sheet_80 : decode cX7_sheet 80 = .ok (.invokevirtual 247, 3) := by decide +kernel
theorem dX7_sheet_83 : decode cX7_sheet 83 = .ok (.iconst 1, 1) := by decide +kernel
theorem dX7_sheet_84 : decode cX7_sheet 84 = .ok (.ireturn, 1) := by decide +kernel
theorem dX7_put_0 : decode cX7_put 0 = .ok (.iload_n 1, 1) := by decide +kernel
theorem dX7_put_1 : decode cX7_put 1 = .ok (.invokestatic 216, 3) := by decide +kernel
theorem dX7_put_4 : decode cX7_put 4 = .ok (.ifCond .ne 9, 3) := by decide +kernel
theorem dX7_put_7 : decode cX7_put 7 = .ok (.aload_n 0, 1) := by decide +kernel
theorem dX7_put_8 : decode cX7_put 8 = .ok (.iconst 1, 1) := by decide +kernel
theorem dX7_put_9 : decode cX7_put 9 = .ok (.invokevirtual 73, 3) := by decide +kernel
theorem dX7_put_12 : decode cX7_put 12 = .ok (.ireturn, 1) := by decide +kernel
theorem dX7_put_13 : decode cX7_put 13 = .ok (.aload_n 0, 1) := by decide +kernel
theorem dX7_put_14 : decode cX7_put 14 = .ok (.getfield 55, 3) := by decide +kernel
theorem dX7_put_17 : decode cX7_put 17 = .ok (.iload_n 1, 1) := by decide +kernel
theorem dX7_put_18 : decode cX7_put 18 = .ok (.invokevirtual 219, 3) := by decide +kernel
theorem dX7_put_21 : decode cX7_put 21 = .ok (.ifCond .eq 9, 3) := by decide +kernel
theorem dX7_put_24 : decode cX7_put 24 = .ok (.aload_n 0, 1) := by decide +kernel
theorem dX7_put_25 : decode cX7_put 25 = .ok (.iconst 2, 1) := by decide +kernel
theorem dX7_put_26 : decode cX7_put 26 = .ok (.invokevirtual 73, 3) := by decide +kernel
theorem dX7_put_29 : decode cX7_put 29 = .ok (.ireturn, 1) := by decide +kernel
theorem dX7_put_30 : decode cX7_put 30 = .ok (.iload_n 2, 1) := by decide +kernel
theorem dX7_put_31 : decode cX7_put 31 = .ok (.iconst 0, 1) := by decide +kernel
theorem dX7_put_32 : decode cX7_put 32 = .ok (.aload_n 0, 1) := by decide +kernel
theorem dX7_put_33 : decode cX7_put 33 = .ok (.getfield 55, 3) := by decide +kernel
theorem dX7_put_36 : decode cX7_put 36 = .ok (.getfield 226, 3) := by decide +kernel
theorem dX7_put_39 : decode cX7_put 39 = .ok (.iload_n 1, 1) := by decide +kernel
theorem dX7_put_40 : decode cX7_put 40 = .ok (.iaload, 1) := by decide +kernel
theorem dX7_put_41 : decode cX7_put 41 = .ok (.iconst 1, 1) := by decide +kernel
theorem dX7_put_42 : decode cX7_put 42 = .ok (.isub, 1) := by decide +kernel
theorem dX7_put_43 : decode cX7_put 43 = .ok (.invokestatic 115, 3) := by decide +kernel
theorem dX7_put_46 : decode cX7_put 46 = .ok (.ifCond .ne 9, 3) := by decide +kernel
theorem dX7_put_49 : decode cX7_put 49 = .ok (.aload_n 0, 1) := by decide +kernel
theorem dX7_put_50 : decode cX7_put 50 = .ok (.iconst 1, 1) := by decide +kernel
theorem dX7_put_51 : decode cX7_put 51 = .ok (.invokevirtual 73, 3) := by decide +kernel
theorem dX7_put_54 : decode cX7_put 54 = .ok (.ireturn, 1) := by decide +kernel
theorem dX7_put_55 : decode cX7_put 55 = .ok (.aload_n 0, 1) := by decide +kernel
theorem dX7_put_56 : decode cX7_put 56 = .ok (.getfield 55, 3) := by decide +kernel
theorem dX7_put_59 : decode cX7_put 59 = .ok (.getfield 222, 3) := by decide +kernel
theorem dX7_put_62 : decode cX7_put 62 = .ok (.iload_n 1, 1) := by decide +kernel
theorem dX7_put_63 : decode cX7_put 63 = .ok (.aaload, 1) := by decide +kernel
theorem dX7_put_64 : decode cX7_put 64 = .ok (.iload_n 2, 1) := by decide +kernel
theorem dX7_put_65 : decode cX7_put 65 = .ok (.aload_n 0, 1) := by decide +kernel
theorem dX7_put_66 : decode cX7_put 66 = .ok (.getfield 55, 3) := by decide +kernel
theorem dX7_put_69 : decode cX7_put 69 = .ok (.iload_n 1, 1) := by decide +kernel
theorem dX7_put_70 : decode cX7_put 70 = .ok (.iload_n 3, 1) := by decide +kernel
theorem dX7_put_71 : decode cX7_put 71 = .ok (.invokevirtual 251, 3) := by decide +kernel
theorem dX7_put_74 : decode cX7_put 74 = .ok (.iastore, 1) := by decide +kernel
theorem dX7_put_75 : decode cX7_put 75 = .ok (.iconst 1, 1) := by decide +kernel
theorem dX7_put_76 : decode cX7_put 76 = .ok (.ireturn, 1) := by decide +kernel
theorem dX7_move_0 : decode cX7_move 0 = .ok (.iload_n 1, 1) := by decide +kernel
theorem dX7_move_1 : decode cX7_move 1 = .ok (.invokestatic 216, 3) := by decide +kernel
theorem dX7_move_4 : decode cX7_move 4 = .ok (.ifCond .eq 10, 3) := by decide +kernel
theorem dX7_move_7 : decode cX7_move 7 = .ok (.iload_n 3, 1) := by decide +kernel
theorem dX7_move_8 : decode cX7_move 8 = .ok (.invokestatic 216, 3) := by decide +kernel
theorem dX7_move_11 : decode cX7_move 11 = .ok (.ifCond .ne 9, 3) := by decide +kernel
theorem dX7_move_14 : decode cX7_move 14 = .ok (.aload_n 0, 1) := by decide +kernel
theorem dX7_move_15 : decode cX7_move 15 = .ok (.iconst 1, 1) := by decide +kernel
theorem dX7_move_16 : decode cX7_move 16 = .ok (.invokevirtual 73, 3) := by decide +kernel
theorem dX7_move_19 : decode cX7_move 19 = .ok (.ireturn, 1) := by decide +kernel
theorem dX7_move_20 : decode cX7_move 20 = .ok (.aload_n 0, 1) := by decide +kernel
theorem dX7_move_21 : decode cX7_move 21 = .ok (.getfield 55, 3) := by decide +kernel
theorem dX7_move_24 : decode cX7_move 24 = .ok (.iload_n 1, 1) := by decide +kernel
theorem dX7_move_25 : decode cX7_move 25 = .ok (.invokevirtual 219, 3) := by decide +kernel
theorem dX7_move_28 : decode cX7_move 28 = .ok (.ifCond .ne 14, 3) := by decide +kernel
theorem dX7_move_31 : decode cX7_move 31 = .ok (.aload_n 0, 1) := by decide +kernel
theorem dX7_move_32 : decode cX7_move 32 = .ok (.getfield 55, 3) := by decide +kernel
theorem dX7_move_35 : decode cX7_move 35 = .ok (.iload_n 3, 1) := by decide +kernel
theorem dX7_move_36 : decode cX7_move 36 = .ok (.invokevirtual 219, 3) := by decide +kernel
theorem dX7_move_39 : decode cX7_move 39 = .ok (.ifCond .eq 9, 3) := by decide +kernel
theorem dX7_move_42 : decode cX7_move 42 = .ok (.aload_n 0, 1) := by decide +kernel
theorem dX7_move_43 : decode cX7_move 43 = .ok (.iconst 2, 1) := by decide +kernel
theorem dX7_move_44 : decode cX7_move 44 = .ok (.invokevirtual 73, 3) := by decide +kernel
theorem dX7_move_47 : decode cX7_move 47 = .ok (.ireturn, 1) := by decide +kernel
theorem dX7_move_48 : decode cX7_move 48 = .ok (.aload_n 0, 1) := by decide +kernel
theorem dX7_move_49 : decode cX7_move 49 = .ok (.getfield 55, 3) := by decide +kernel
theorem dX7_move_52 : decode cX7_move 52 = .ok (.getfield 254, 3) := by decide +kernel
theorem dX7_move_55 : decode cX7_move 55 = .ok (.iload_n 1, 1) := by decide +kernel
theorem dX7_move_56 : decode cX7_move 56 = .ok (.iaload, 1) := by decide +kernel
theorem dX7_move_57 : decode cX7_move 57 = .ok (.aload_n 0, 1) := by decide +kernel
theorem dX7_move_58 : decode cX7_move 58 = .ok (.getfield 55, 3) := by decide +kernel
theorem dX7_move_61 : decode cX7_move 61 = .ok (.getfield 254, 3) := by decide +kernel
theorem dX7_move_64 : decode cX7_move 64 = .ok (.iload_n 3, 1) := by decide +kernel
theorem dX7_move_65 : decode cX7_move 65 = .ok (.iaload, 1) := by decide +kernel
theorem dX7_move_66 : decode cX7_move 66 = .ok (.if_icmp .eq 9, 3) := by decide +kernel
theorem dX7_move_69 : decode cX7_move 69 = .ok (.aload_n 0, 1) := by decide +kernel
theorem dX7_move_70 : decode cX7_move 70 = .ok (.iconst 5, 1) := by decide +kernel
theorem dX7_move_71 : decode cX7_move 71 = .ok (.invokevirtual 73, 3) := by decide +kernel
theorem dX7_move_74 : decode cX7_move 74 = .ok (.ireturn, 1) := by decide +kernel
theorem dX7_move_75 : decode cX7_move 75 = .ok (.aload_n 0, 1) := by decide +kernel
theorem dX7_move_76 : decode cX7_move 76 = .ok (.getfield 55, 3) := by decide +kernel
theorem dX7_move_79 : decode cX7_move 79 = .ok (.iload_n 1, 1) := by decide +kernel
theorem dX7_move_80 : decode cX7_move 80 = .ok (.iload_n 2, 1) := by decide +kernel
theorem dX7_move_81 : decode cX7_move 81 = .ok (.iload 5, 2) := by decide +kernel
theorem dX7_move_83 : decode cX7_move 83 = .ok (.invokevirtual 257, 3) := by decide +kernel
theorem dX7_move_86 : decode cX7_move 86 = .ok (.ifCond .eq 18, 3) := by decide +kernel
theorem dX7_move_89 : decode cX7_move 89 = .ok (.aload_n 0, 1) := by decide +kernel
theorem dX7_move_90 : decode cX7_move 90 = .ok (.getfield 55, 3) := by decide +kernel
theorem dX7_move_93 : decode cX7_move 93 = .ok (.iload_n 3, 1) := by decide +kernel
theorem dX7_move_94 : decode cX7_move 94 = .ok (.iload 4, 2) := by decide +kernel
theorem dX7_move_96 : decode cX7_move 96 = .ok (.iload 5, 2) := by decide +kernel
theorem dX7_move_98 : decode cX7_move 98 = .ok (.invokevirtual 257, 3) := by decide +kernel
theorem dX7_move_101 : decode cX7_move 101 = .ok (.ifCond .ne 9, 3) := by decide +kernel
theorem dX7_move_104 : decode cX7_move 104 = .ok (.aload_n 0, 1) := by decide +kernel
theorem dX7_move_105 : decode cX7_move 105 = .ok (.iconst 1, 1) := by decide +kernel
theorem dX7_move_106 : decode cX7_move 106 = .ok (.invokevirtual 73, 3) := by decide +kernel
theorem dX7_move_109 : decode cX7_move 109 = .ok (.ireturn, 1) := by decide +kernel
theorem dX7_move_110 : decode cX7_move 110 = .ok (.aload_n 0, 1) := by decide +kernel
theorem dX7_move_111 : decode cX7_move 111 = .ok (.getfield 55, 3) := by decide +kernel
theorem dX7_move_114 : decode cX7_move 114 = .ok (.getfield 222, 3) := by decide +kernel
theorem dX7_move_117 : decode cX7_move 117 = .ok (.iload_n 1, 1) := by decide +kernel
theorem dX7_move_118 : decode cX7_move 118 = .ok (.aaload, 1) := by decide +kernel
theorem dX7_move_119 : decode cX7_move 119 = .ok (.iload_n 2, 1) := by decide +kernel
theorem dX7_move_120 : decode cX7_move 120 = .ok (.aload_n 0, 1) := by decide +kernel
theorem dX7_move_121 : decode cX7_move 121 = .ok (.getfield 55, 3) := by decide +kernel
theorem dX7_move_124 : decode cX7_move 124 = .ok (.getfield 222, 3) := by decide +kernel
theorem dX7_move_127 : decode cX7_move 127 = .ok (.iload_n 3, 1) := by decide +kernel
theorem dX7_move_128 : decode cX7_move 128 = .ok (.aaload, 1) := by decide +kernel
theorem dX7_move_129 : decode cX7_move 129 = .ok (.iload 4, 2) := by decide +kernel
theorem dX7_move_131 : decode cX7_move 131 = .ok (.iload 5, 2) := by decide +kernel
theorem dX7_move_133 : decode cX7_move 133 = .ok (.invokestatic 260, 3) := by decide +kernel
theorem dX7_move_136 : decode cX7_move 136 = .ok (.iload 5, 2) := by decide +kernel
theorem dX7_move_138 : decode cX7_move 138 = .ok (.ireturn, 1) := by decide +kernel
theorem dX7_sures_0 : decode cX7_sures 0 = .ok (.iload_n 1, 1) := by decide +kernel
theorem dX7_sures_1 : decode cX7_sures 1 = .ok (.invokestatic 216, 3) := by decide +kernel
theorem dX7_sures_4 : decode cX7_sures 4 = .ok (.ifCond .ne 9, 3) := by decide +kernel
theorem dX7_sures_7 : decode cX7_sures 7 = .ok (.aload_n 0, 1) := by decide +kernel
theorem dX7_sures_8 : decode cX7_sures 8 = .ok (.iconst 1, 1) := by decide +kernel
theorem dX7_sures_9 : decode cX7_sures 9 = .ok (.invokevirtual 73, 3) := by decide +kernel
theorem dX7_sures_12 : decode cX7_sures 12 = .ok (.ireturn, 1) := by decide +kernel
theorem dX7_sures_13 : decode cX7_sures 13 = .ok (.aload_n 0, 1) := by decide +kernel
theorem dX7_sures_14 : decode cX7_sures 14 = .ok (.getfield 55, 3) := by decide +kernel
theorem dX7_sures_17 : decode cX7_sures 17 = .ok (.iload_n 1, 1) := by decide +kernel
theorem dX7_sures_18 : decode cX7_sures 18 = .ok (.invokevirtual 219, 3) := by decide +kernel
theorem dX7_sures_21 : decode cX7_sures 21 = .ok (.ifCond .eq 9, 3) := by decide +kernel
theorem dX7_sures_24 : decode cX7_sures 24 = .ok (.aload_n 0, 1) := by decide +kernel
theorem dX7_sures_25 : decode cX7_sures 25 = .ok (.iconst 2, 1) := by decide +kernel
theorem dX7_sures_26 : decode cX7_sures 26 = .ok (.invokevirtual 73, 3) := by decide +kernel
theorem dX7_sures_29 : decode cX7_sures 29 = .ok (.ireturn, 1) := by decide +kernel
theorem dX7_sures_30 : decode cX7_sures 30 = .ok (.aload_n 0, 1) := by decide +kernel
theorem dX7_sures_31 : decode cX7_sures 31 = .ok (.getfield 55, 3) := by decide +kernel
theorem dX7_sures_34 : decode cX7_sures 34 = .ok (.getfield 222, 3) := by decide +kernel
theorem dX7_sures_37 : decode cX7_sures 37 = .ok (.iload_n 1, 1) := by decide +kernel
theorem dX7_sures_38 : decode cX7_sures 38 = .ok (.aaload, 1) := by decide +kernel
theorem dX7_sures_39 : decode cX7_sures 39 = .ok (.astore_n 2, 1) := by decide +kernel
theorem dX7_sures_40 : decode cX7_sures 40 = .ok (.aload_n 0, 1) := by decide +kernel
theorem dX7_sures_41 : decode cX7_sures 41 = .ok (.getfield 55, 3) := by decide +kernel
theorem dX7_sures_44 : decode cX7_sures 44 = .ok (.getfield 226, 3) := by decide +kernel
theorem dX7_sures_47 : decode cX7_sures 47 = .ok (.iload_n 1, 1) := by decide +kernel
theorem dX7_sures_48 : decode cX7_sures 48 = .ok (.iaload, 1) := by decide +kernel
theorem dX7_sures_49 : decode cX7_sures 49 = .ok (.aload_n 0, 1) := by decide +kernel
theorem dX7_sures_50 : decode cX7_sures 50 = .ok (.getfield 10, 3) := by decide +kernel
theorem dX7_sures_53 : decode cX7_sures 53 = .ok (.getfield 34, 3) := by decide +kernel
theorem dX7_sures_56 : decode cX7_sures 56 = .ok (.getfield 77, 3) := by decide +kernel
theorem dX7_sures_59 : decode cX7_sures 59 = .ok (.invokestatic 266, 3) := by decide +kernel
theorem dX7_sures_62 : decode cX7_sures 62 = .ok (.istore_n 3, 1) := by decide +kernel
theorem dX7_sures_63 : decode cX7_sures 63 = .ok (.iconst 0, 1) := by decide +kernel
theorem dX7_sures_64 : decode cX7_sures 64 = .ok (.istore 4, 2) := by decide +kernel
theorem dX7_sures_66 : decode cX7_sures 66 = .ok (.iload 4, 2) := by decide +kernel
theorem dX7_sures_68 : decode cX7_sures 68 = .ok (.iload_n 3, 1) := by decide +kernel
theorem dX7_sures_69 : decode cX7_sures 69 = .ok (.if_icmp .ge 36, 3) := by decide +kernel
theorem dX7_sures_72 : decode cX7_sures 72 = .ok (.aload_n 2, 1) := by decide +kernel
theorem dX7_sures_73 : decode cX7_sures 73 = .ok (.iload 4, 2) := by decide +kernel
theorem dX7_sures_75 : decode cX7_sures 75 = .ok (.iaload, 1) := by decide +kernel
theorem dX7_sures_76 : decode cX7_sures 76 = .ok (.invokestatic 70, 3) := by decide +kernel
theorem dX7_sures_79 : decode cX7_sures 79 = .ok (.ifCond .eq 26, 3) := by decide +kernel
theorem dX7_sures_82 : decode cX7_sures 82 = .ok (.aload_n 0, 1) := by decide +kernel
theorem dX7_sures_83 : decode cX7_sures 83 = .ok (.getfield 10, 3) := by decide +kernel
theorem dX7_sures_86 : decode cX7_sures 86 = .ok (.getfield 34, 3) := by decide +kernel
theorem dX7_sures_89 : decode cX7_sures 89 = .ok (.getfield 95, 3) := by decide +kernel
theorem dX7_sures_92 : decode cX7_sures 92 = .ok (.iload 4, 2) := by decide +kernel
theorem dX7_sures_94 : decode cX7_sures 94 = .ok (.aload_n 2, 1) := by decide +kernel
theorem dX7_sures_95 : decode cX7_sures 95 = .ok (.iload 4, 2) := by decide +kernel
theorem dX7_sures_97 : decode cX7_sures 97 = .ok (.iaload, 1) := by decide +kernel
theorem dX7_sures_98 : decode cX7_sures 98 = .ok (.iastore, 1) := by decide +kernel
theorem dX7_sures_99 : decode cX7_sures 99 = .ok (.iinc 4 1, 3) := by decide +kernel
theorem dX7_sures_102 : decode cX7_sures 102 = .ok (.goto (-36), 3) := by decide +kernel
theorem dX7_sures_105 : decode cX7_sures 105 = .ok (.iload 4, 2) := by decide +kernel
theorem dX7_sures_107 : decode cX7_sures 107 = .ok (.ireturn, 1) := by decide +kernel
theorem dX7_judge_0 : decode cX7_judge 0 = .ok (.iload_n 1, 1) := by decide +kernel
theorem dX7_judge_1 : decode cX7_judge 1 = .ok (.invokestatic 216, 3) := by decide +kernel
theorem dX7_judge_4 : decode cX7_judge 4 = .ok (.ifCond .ne 9, 3) := by decide +kernel
theorem dX7_judge_7 : decode cX7_judge 7 = .ok (.aload_n 0, 1) := by decide +kernel
theorem dX7_judge_8 : decode cX7_judge 8 = .ok (.iconst 1, 1) := by decide +kernel
theorem dX7_judge_9 : decode cX7_judge 9 = .ok (.invokevirtual 73, 3) := by decide +kernel
theorem dX7_judge_12 : decode cX7_judge 12 = .ok (.ireturn, 1) := by decide +kernel
theorem dX7_judge_13 : decode cX7_judge 13 = .ok (.aload_n 0, 1) := by decide +kernel
theorem dX7_judge_14 : decode cX7_judge 14 = .ok (.getfield 55, 3) := by decide +kernel
theorem dX7_judge_17 : decode cX7_judge 17 = .ok (.iload_n 1, 1) := by decide +kernel
theorem dX7_judge_18 : decode cX7_judge 18 = .ok (.invokevirtual 219, 3) := by decide +kernel
theorem dX7_judge_21 : decode cX7_judge 21 = .ok (.ifCond .eq 9, 3) := by decide +kernel
theorem dX7_judge_24 : decode cX7_judge 24 = .ok (.aload_n 0, 1) := by decide +kernel
theorem dX7_judge_25 : decode cX7_judge 25 = .ok (.iconst 2, 1) := by decide +kernel
theorem dX7_judge_26 : decode cX7_judge 26 = .ok (.invokevirtual 73, 3) := by decide +kernel
theorem dX7_judge_29 : decode cX7_judge 29 = .ok (.ireturn, 1) := by decide +kernel
theorem dX7_judge_30 : decode cX7_judge 30 = .ok (.aload_n 0, 1) := by decide +kernel
theorem dX7_judge_31 : decode cX7_judge 31 = .ok (.getfield 10, 3) := by decide +kernel
theorem dX7_judge_34 : decode cX7_judge 34 = .ok (.getfield 34, 3) := by decide +kernel
theorem dX7_judge_37 : decode cX7_judge 37 = .ok (.aload_n 0, 1) := by decide +kernel
theorem dX7_judge_38 : decode cX7_judge 38 = .ok (.getfield 10, 3) := by decide +kernel
theorem dX7_judge_41 : decode cX7_judge 41 = .ok (.getfield 34, 3) := by decide +kernel
theorem dX7_judge_44 : decode cX7_judge 44 = .ok (.getfield 98, 3) := by decide +kernel
theorem dX7_judge_47 : decode cX7_judge 47 = .ok (.aload_n 0, 1) := by decide +kernel
theorem dX7_judge_48 : decode cX7_judge 48 = .ok (.getfield 55, 3) := by decide +kernel
theorem dX7_judge_51 : decode cX7_judge 51 = .ok (.getfield 222, 3) := by decide +kernel
theorem dX7_judge_54 : decode cX7_judge 54 = .ok (.iload_n 1, 1) := by decide +kernel
theorem dX7_judge_55 : decode cX7_judge 55 = .ok (.aaload, 1) := by decide +kernel
theorem dX7_judge_56 : decode cX7_judge 56 = .ok (.aload_n 0, 1) := by decide +kernel
theorem dX7_judge_57 : decode cX7_judge 57 = .ok (.getfield 55, 3) := by decide +kernel
theorem dX7_judge_60 : decode cX7_judge 60 = .ok (.getfield 226, 3) := by decide +kernel
theorem dX7_judge_63 : decode cX7_judge 63 = .ok (.iload_n 1, 1) := by decide +kernel
theorem dX7_judge_64 : decode cX7_judge 64 = .ok (.iaload, 1) := by decide +kernel
theorem dX7_judge_65 : decode cX7_judge 65 = .ok (.invokevirtual 271, 3) := by decide +kernel
theorem dX7_judge_68 : decode cX7_judge 68 = .ok (.ireturn, 1) := by decide +kernel
theorem dX7_image_0 : decode cX7_image 0 = .ok (.aload_n 0, 1) := by decide +kernel
theorem dX7_image_1 : decode cX7_image 1 = .ok (.getfield 16, 3) := by decide +kernel
theorem dX7_image_4 : decode cX7_image 4 = .ok (.aload_n 0, 1) := by decide +kernel
theorem dX7_image_5 : decode cX7_image 5 = .ok (.getfield 10, 3) := by decide +kernel
theorem dX7_image_8 : decode cX7_image 8 = .ok (.invokevirtual 275, 3) := by decide +kernel
theorem dX7_image_11 : decode cX7_image 11 = .ok (.aload_n 0, 1) := by decide +kernel
theorem dX7_image_12 : decode cX7_image 12 = .ok (.dup, 1) := by decide +kernel
theorem dX7_image_13 : decode cX7_image 13 = .ok (.getfield 62, 3) := by decide +kernel
theorem dX7_image_16 : decode cX7_image 16 = .ok (.iconst 1, 1) := by decide +kernel
theorem dX7_image_17 : decode cX7_image 17 = .ok (.iadd, 1) := by decide +kernel
theorem dX7_image_18 : decode cX7_image 18 = .ok (.putfield 62, 3) := by decide +kernel
theorem dX7_image_21 : decode cX7_image 21 = .ok (.aload_n 0, 1) := by decide +kernel
theorem dX7_image_22 : decode cX7_image 22 = .ok (.getfield 62, 3) := by decide +kernel
theorem dX7_image_25 : decode cX7_image 25 = .ok (.ireturn, 1) := by decide +kernel
theorem dX7_restore_0 : decode cX7_restore 0 = .ok (.aload_n 0, 1) := by decide +kernel
theorem dX7_restore_1 : decode cX7_restore 1 = .ok (.getfield 62, 3) := by decide +kernel
theorem dX7_restore_4 : decode cX7_restore 4 = .ok (.ifCond .ne 9, 3) := by decide +kernel
theorem dX7_restore_7 : decode cX7_restore 7 = .ok (.aload_n 0, 1) := by decide +kernel
theorem dX7_restore_8 : decode cX7_restore 8 = .ok (.iconst 2, 1) := by decide +kernel
theorem dX7_restore_9 : decode cX7_restore 9 = .ok (.invokevirtual 73, 3) := by decide +kernel
theorem dX7_restore_12 : decode cX7_restore 12 = .ok (.ireturn, 1) := by decide +kernel
theorem dX7_restore_13 : decode cX7_restore 13 = .ok (.aload_n 0, 1) := by decide +kernel
theorem dX7_restore_14 : decode cX7_restore 14 = .ok (.getfield 10, 3) := by decide +kernel
theorem dX7_restore_17 : decode cX7_restore 17 = .ok (.aload_n 0, 1) := by decide +kernel
theorem dX7_restore_18 : decode cX7_restore 18 = .ok (.getfield 16, 3) := by decide +kernel
theorem dX7_restore_21 : decode cX7_restore 21 = .ok (.invokevirtual 275, 3) := by decide +kernel
theorem dX7_restore_24 : decode cX7_restore 24 = .ok (.aload_n 0, 1) := by decide +kernel
theorem dX7_restore_25 : decode cX7_restore 25 = .ok (.getfield 10, 3) := by decide +kernel
theorem dX7_restore_28 : decode cX7_restore 28 = .ok (.getfield 34, 3) := by decide +kernel
theorem dX7_restore_31 : decode cX7_restore 31 = .ok (.getfield 168, 3) := by decide +kernel
theorem dX7_restore_34 : decode cX7_restore 34 = .ok (.ireturn, 1) := by decide +kernel
theorem dX7_tell_0 : decode cX7_tell 0 = .ok (.aload_n 0, 1) := by decide +kernel
theorem dX7_tell_1 : decode cX7_tell 1 = .ok (.getfield 10, 3) := by decide +kernel
theorem dX7_tell_4 : decode cX7_tell 4 = .ok (.getfield 279, 3) := by decide +kernel
theorem dX7_tell_7 : decode cX7_tell 7 = .ok (.bipush 24, 2) := by decide +kernel
theorem dX7_tell_9 : decode cX7_tell 9 = .ok (.if_icmp .lt 9, 3) := by decide +kernel
theorem dX7_tell_12 : decode cX7_tell 12 = .ok (.aload_n 0, 1) := by decide +kernel
theorem dX7_tell_13 : decode cX7_tell 13 = .ok (.iconst 4, 1) := by decide +kernel
theorem dX7_tell_14 : decode cX7_tell 14 = .ok (.invokevirtual 73, 3) := by decide +kernel
theorem dX7_tell_17 : decode cX7_tell 17 = .ok (.ireturn, 1) := by decide +kernel
theorem dX7_tell_18 : decode cX7_tell 18 = .ok (.aload_n 0, 1) := by decide +kernel
theorem dX7_tell_19 : decode cX7_tell 19 = .ok (.getfield 10, 3) := by decide +kernel
theorem dX7_tell_22 : decode cX7_tell 22 = .ok (.getfield 282, 3) := by decide +kernel
theorem dX7_tell_25 : decode cX7_tell 25 = .ok (.aload_n 0, 1) := by decide +kernel
theorem dX7_tell_26 : decode cX7_tell 26 = .ok (.getfield 10, 3) := by decide +kernel
theorem dX7_tell_29 : decode cX7_tell 29 = .ok (.getfield 279, 3) := by decide +kernel
theorem dX7_tell_32 : decode cX7_tell 32 = .ok (.iload_n 1, 1) := by decide +kernel
theorem dX7_tell_33 : decode cX7_tell 33 = .ok (.iastore, 1) := by decide +kernel
theorem dX7_tell_34 : decode cX7_tell 34 = .ok (.aload_n 0, 1) := by decide +kernel
theorem dX7_tell_35 : decode cX7_tell 35 = .ok (.getfield 10, 3) := by decide +kernel
theorem dX7_tell_38 : decode cX7_tell 38 = .ok (.dup, 1) := by decide +kernel
theorem dX7_tell_39 : decode cX7_tell 39 = .ok (.getfield 279, 3) := by decide +kernel
theorem dX7_tell_42 : decode cX7_tell 42 = .ok (.iconst 1, 1) := by decide +kernel
theorem dX7_tell_43 : decode cX7_tell 43 = .ok (.iadd, 1) := by decide +kernel
theorem dX7_tell_44 : decode cX7_tell 44 = .ok (.putfield 279, 3) := by decide +kernel
theorem dX7_tell_47 : decode cX7_tell 47 = .ok (.aload_n 0, 1) := by decide +kernel
theorem dX7_tell_48 : decode cX7_tell 48 = .ok (.getfield 10, 3) := by decide +kernel
theorem dX7_tell_51 : decode cX7_tell 51 = .ok (.getfield 279, 3) := by decide +kernel
theorem dX7_tell_54 : decode cX7_tell 54 = .ok (.ireturn, 1) := by decide +kernel
theorem dX7_check_0 : decode cX7_check 0 = .ok (.aload_n 0, 1) := by decide +kernel
theorem dX7_check_1 : decode cX7_check 1 = .ok (.getfield 10, 3) := by decide +kernel
theorem dX7_check_4 : decode cX7_check 4 = .ok (.getfield 279, 3) := by decide +kernel
theorem dX7_check_7 : decode cX7_check 7 = .ok (.istore_n 1, 1) := by decide +kernel
theorem dX7_check_8 : decode cX7_check 8 = .ok (.aload_n 0, 1) := by decide +kernel
theorem dX7_check_9 : decode cX7_check 9 = .ok (.getfield 10, 3) := by decide +kernel
theorem dX7_check_12 : decode cX7_check 12 = .ok (.getfield 34, 3) := by decide +kernel
theorem dX7_check_15 : decode cX7_check 15 = .ok (.aload_n 0, 1) := by decide +kernel
theorem dX7_check_16 : decode cX7_check 16 = .ok (.getfield 10, 3) := by decide +kernel
theorem dX7_check_19 : decode cX7_check 19 = .ok (.getfield 34, 3) := by decide +kernel
theorem dX7_check_22 : decode cX7_check 22 = .ok (.getfield 95, 3) := by decide +kernel
theorem dX7_check_25 : decode cX7_check 25 = .ok (.aload_n 0, 1) := by decide +kernel
theorem dX7_check_26 : decode cX7_check 26 = .ok (.getfield 10, 3) := by decide +kernel
theorem dX7_check_29 : decode cX7_check 29 = .ok (.getfield 282, 3) := by decide +kernel
theorem dX7_check_32 : decode cX7_check 32 = .ok (.iload_n 1, 1) := by decide +kernel
theorem dX7_check_33 : decode cX7_check 33 = .ok (.invokevirtual 271, 3) := by decide +kernel
theorem dX7_check_36 : decode cX7_check 36 = .ok (.istore_n 2, 1) := by decide +kernel
theorem dX7_check_37 : decode cX7_check 37 = .ok (.aload_n 0, 1) := by decide +kernel
theorem dX7_check_38 : decode cX7_check 38 = .ok (.getfield 10, 3) := by decide +kernel
theorem dX7_check_41 : decode cX7_check 41 = .ok (.iconst 0, 1) := by decide +kernel
theorem dX7_check_42 : decode cX7_check 42 = .ok (.putfield 279, 3) := by decide +kernel
theorem dX7_check_45 : decode cX7_check 45 = .ok (.iload_n 2, 1) := by decide +kernel
theorem dX7_check_46 : decode cX7_check 46 = .ok (.iload_n 1, 1) := by decide +kernel
theorem dX7_check_47 : decode cX7_check 47 = .ok (.if_icmp .ne 7, 3) := by decide +kernel
theorem dX7_check_50 : decode cX7_check 50 = .ok (.iconst 0, 1) := by decide +kernel
theorem dX7_check_51 : decode cX7_check 51 = .ok (.goto 6, 3) := by decide +kernel
theorem dX7_check_54 : decode cX7_check 54 = .ok (.iconst 1, 1) := by decide +kernel
theorem dX7_check_55 : decode cX7_check 55 = .ok (.iload_n 2, 1) := by decide +kernel
theorem dX7_check_56 : decode cX7_check 56 = .ok (.iadd, 1) := by decide +kernel
theorem dX7_check_57 : decode cX7_check 57 = .ok (.ireturn, 1) := by decide +kernel
theorem dX7_count_0 : decode cX7_count 0 = .ok (.iload_n 1, 1) := by decide +kernel
theorem dX7_count_1 : decode cX7_count 1 = .ok (.tableswitch 123 0 7 #[47, 58, 69, 80, 91, 99, 107, 115], 47) := by decide +kernel
theorem dX7_count_48 : decode cX7_count 48 = .ok (.aload_n 0, 1) := by decide +kernel
theorem dX7_count_49 : decode cX7_count 49 = .ok (.getfield 10, 3) := by decide +kernel
theorem dX7_count_52 : decode cX7_count 52 = .ok (.getfield 34, 3) := by decide +kernel
theorem dX7_count_55 : decode cX7_count 55 = .ok (.getfield 77, 3) := by decide +kernel
theorem dX7_count_58 : decode cX7_count 58 = .ok (.ireturn, 1) := by decide +kernel
theorem dX7_count_59 : decode cX7_count 59 = .ok (.aload_n 0, 1) := by decide +kernel
theorem dX7_count_60 : decode cX7_count 60 = .ok (.getfield 10, 3) := by decide +kernel
theorem dX7_count_63 : decode cX7_count 63 = .ok (.getfield 34, 3) := by decide +kernel
theorem dX7_count_66 : decode cX7_count 66 = .ok (.getfield 130, 3) := by decide +kernel
theorem dX7_count_69 : decode cX7_count 69 = .ok (.ireturn, 1) := by decide +kernel
theorem dX7_count_70 : decode cX7_count 70 = .ok (.aload_n 0, 1) := by decide +kernel
theorem dX7_count_71 : decode cX7_count 71 = .ok (.getfield 10, 3) := by decide +kernel
theorem dX7_count_74 : decode cX7_count 74 = .ok (.getfield 34, 3) := by decide +kernel
theorem dX7_count_77 : decode cX7_count 77 = .ok (.getfield 168, 3) := by decide +kernel
theorem dX7_count_80 : decode cX7_count 80 = .ok (.ireturn, 1) := by decide +kernel
theorem dX7_count_81 : decode cX7_count 81 = .ok (.aload_n 0, 1) := by decide +kernel
theorem dX7_count_82 : decode cX7_count 82 = .ok (.getfield 10, 3) := by decide +kernel
theorem dX7_count_85 : decode cX7_count 85 = .ok (.getfield 34, 3) := by decide +kernel
theorem dX7_count_88 : decode cX7_count 88 = .ok (.invokevirtual 175, 3) := by decide +kernel
theorem dX7_count_91 : decode cX7_count 91 = .ok (.ireturn, 1) := by decide +kernel
theorem dX7_count_92 : decode cX7_count 92 = .ok (.aload_n 0, 1) := by decide +kernel
theorem dX7_count_93 : decode cX7_count 93 = .ok (.getfield 10, 3) := by decide +kernel
theorem dX7_count_96 : decode cX7_count 96 = .ok (.getfield 133, 3) := by decide +kernel
theorem dX7_count_99 : decode cX7_count 99 = .ok (.ireturn, 1) := by decide +kernel
theorem dX7_count_100 : decode cX7_count 100 = .ok (.aload_n 0, 1) := by decide +kernel
theorem dX7_count_101 : decode cX7_count 101 = .ok (.getfield 10, 3) := by decide +kernel
theorem dX7_count_104 : decode cX7_count 104 = .ok (.getfield 279, 3) := by decide +kernel
theorem dX7_count_107 : decode cX7_count 107 = .ok (.ireturn, 1) := by decide +kernel
theorem dX7_count_108 : decode cX7_count 108 = .ok (.aload_n 0, 1) := by decide +kernel
theorem dX7_count_109 : decode cX7_count 109 = .ok (.getfield 48, 3) := by decide +kernel
theorem dX7_count_112 : decode cX7_count 112 = .ok (.getfield 241, 3) := by decide +kernel
theorem dX7_count_115 : decode cX7_count 115 = .ok (.ireturn, 1) := by decide +kernel
theorem dX7_count_116 : decode cX7_count 116 = .ok (.aload_n 0, 1) := by decide +kernel
theorem dX7_count_117 : decode cX7_count 117 = .ok (.getfield 10, 3) := by decide +kernel
theorem dX7_count_120 : decode cX7_count 120 = .ok (.getfield 182, 3) := by decide +kernel
theorem dX7_count_123 : decode cX7_count 123 = .ok (.ireturn, 1) := by decide +kernel
theorem dX7_count_124 : decode cX7_count 124 = .ok (.aload_n 0, 1) := by decide +kernel
theorem dX7_count_125 : decode cX7_count 125 = .ok (.iconst 1, 1) := by decide +kernel
theorem dX7_count_126 : decode cX7_count 126 = .ok (.invokevirtual 73, 3) := by decide +kernel
theorem dX7_count_129 : decode cX7_count 129 = .ok (.ireturn, 1) := by decide +kernel
theorem dX7_told_0 : decode cX7_told 0 = .ok (.iload_n 1, 1) := by decide +kernel
theorem dX7_told_1 : decode cX7_told 1 = .ok (.iconst 1, 1) := by decide +kernel
theorem dX7_told_2 : decode cX7_told 2 = .ok (.bipush 6, 2) := by decide +kernel
theorem dX7_told_4 : decode cX7_told 4 = .ok (.invokestatic 115, 3) := by decide +kernel
theorem dX7_told_7 : decode cX7_told 7 = .ok (.ifCond .ne 9, 3) := by decide +kernel
theorem dX7_told_10 : decode cX7_told 10 = .ok (.aload_n 0, 1) := by decide +kernel
theorem dX7_told_11 : decode cX7_told 11 = .ok (.iconst 1, 1) := by decide +kernel
theorem dX7_told_12 : decode cX7_told 12 = .ok (.invokevirtual 73, 3) := by decide +kernel
theorem dX7_told_15 : decode cX7_told 15 = .ok (.ireturn, 1) := by decide +kernel
theorem dX7_told_16 : decode cX7_told 16 = .ok (.aload_n 0, 1) := by decide +kernel
theorem dX7_told_17 : decode cX7_told 17 = .ok (.getfield 59, 3) := by decide +kernel
theorem dX7_told_20 : decode cX7_told 20 = .ok (.iload_n 1, 1) := by decide +kernel
theorem dX7_told_21 : decode cX7_told 21 = .ok (.iaload, 1) := by decide +kernel
theorem dX7_told_22 : decode cX7_told 22 = .ok (.ireturn, 1) := by decide +kernel
theorem dX7_refuse_0 : decode cX7_refuse 0 = .ok (.aload_n 0, 1) := by decide +kernel
theorem dX7_refuse_1 : decode cX7_refuse 1 = .ok (.getfield 59, 3) := by decide +kernel
theorem dX7_refuse_4 : decode cX7_refuse 4 = .ok (.iload_n 1, 1) := by decide +kernel
theorem dX7_refuse_5 : decode cX7_refuse 5 = .ok (.dup2, 1) := by decide +kernel
theorem dX7_refuse_6 : decode cX7_refuse 6 = .ok (.iaload, 1) := by decide +kernel
theorem dX7_refuse_7 : decode cX7_refuse 7 = .ok (.iconst 1, 1) := by decide +kernel
theorem dX7_refuse_8 : decode cX7_refuse 8 = .ok (.iadd, 1) := by decide +kernel
theorem dX7_refuse_9 : decode cX7_refuse 9 = .ok (.iastore, 1) := by decide +kernel
theorem dX7_refuse_10 : decode cX7_refuse 10 = .ok (.ldc_w 285, 3) := by decide +kernel
theorem dX7_refuse_13 : decode cX7_refuse 13 = .ok (.iload_n 1, 1) := by decide +kernel
theorem dX7_refuse_14 : decode cX7_refuse 14 = .ok (.isub, 1) := by decide +kernel
theorem dX7_refuse_15 : decode cX7_refuse 15 = .ok (.ireturn, 1) := by decide +kernel
theorem dX7_isPerson_0 : decode cX7_isPerson 0 = .ok (.iload_n 1, 1) := by decide +kernel
theorem dX7_isPerson_1 : decode cX7_isPerson 1 = .ok (.ifCond .lt 21, 3) := by decide +kernel
theorem dX7_isPerson_4 : decode cX7_isPerson 4 = .ok (.iload_n 1, 1) := by decide +kernel
theorem dX7_isPerson_5 : decode cX7_isPerson 5 = .ok (.aload_n 0, 1) := by decide +kernel
theorem dX7_isPerson_6 : decode cX7_isPerson 6 = .ok (.getfield 10, 3) := by decide +kernel
theorem dX7_isPerson_9 : decode cX7_isPerson 9 = .ok (.getfield 34, 3) := by decide +kernel
theorem dX7_isPerson_12 : decode cX7_isPerson 12 = .ok (.getfield 77, 3) := by decide +kernel
theorem dX7_isPerson_15 : decode cX7_isPerson 15 = .ok (.if_icmp .ge 7, 3) := by decide +kernel
theorem dX7_isPerson_18 : decode cX7_isPerson 18 = .ok (.iconst 1, 1) := by decide +kernel
theorem dX7_isPerson_19 : decode cX7_isPerson 19 = .ok (.goto 4, 3) := by decide +kernel
theorem dX7_isPerson_22 : decode cX7_isPerson 22 = .ok (.iconst 0, 1) := by decide +kernel
theorem dX7_isPerson_23 : decode cX7_isPerson 23 = .ok (.ireturn, 1) := by decide +kernel
theorem dX7_isWithin_0 : decode cX7_isWithin 0 = .ok (.iload_n 0, 1) := by decide +kernel
theorem dX7_isWithin_1 : decode cX7_isWithin 1 = .ok (.iload_n 1, 1) := by decide +kernel
theorem dX7_isWithin_2 : decode cX7_isWithin 2 = .ok (.if_icmp .lt 12, 3) := by decide +kernel
theorem dX7_isWithin_5 : decode cX7_isWithin 5 = .ok (.iload_n 0, 1) := by decide +kernel
theorem dX7_isWithin_6 : decode cX7_isWithin 6 = .ok (.iload_n 2, 1) := by decide +kernel
theorem dX7_isWithin_7 : decode cX7_isWithin 7 = .ok (.if_icmp .gt 7, 3) := by decide +kernel
theorem dX7_isWithin_10 : decode cX7_isWithin 10 = .ok (.iconst 1, 1) := by decide +kernel
theorem dX7_isWithin_11 : decode cX7_isWithin 11 = .ok (.goto 4, 3) := by decide +kernel
theorem dX7_isWithin_14 : decode cX7_isWithin 14 = .ok (.iconst 0, 1) := by decide +kernel
theorem dX7_isWithin_15 : decode cX7_isWithin 15 = .ok (.ireturn, 1) := by decide +kernel
theorem dX7_isKindAndNumber_0 : decode cX7_isKindAndNumber 0 = .ok (.iload_n 0, 1) := by decide +kernel
theorem dX7_isKindAndNumber_1 : decode cX7_isKindAndNumber 1 = .ok (.iconst 0, 1) := by decide +kernel
theorem dX7_isKindAndNumber_2 : decode cX7_isKindAndNumber 2 = .ok (.bipush 69, 2) := by decide +kernel
theorem dX7_isKindAndNumber_4 : decode cX7_isKindAndNumber 4 = .ok (.invokestatic 115, 3) := by decide +kernel
theorem dX7_isKindAndNumber_7 : decode cX7_isKindAndNumber 7 = .ok (.ireturn, 1) := by decide +kernel
theorem dX7_isSure_0 : decode cX7_isSure 0 = .ok (.iload_n 0, 1) := by decide +kernel
theorem dX7_isSure_1 : decode cX7_isSure 1 = .ok (.iconst 0, 1) := by decide +kernel
theorem dX7_isSure_2 : decode cX7_isSure 2 = .ok (.bipush 99, 2) := by decide +kernel
theorem dX7_isSure_4 : decode cX7_isSure 4 = .ok (.invokestatic 115, 3) := by decide +kernel
theorem dX7_isSure_7 : decode cX7_isSure 7 = .ok (.ireturn, 1) := by decide +kernel
theorem dX7_isCell_0 : decode cX7_isCell 0 = .ok (.iload_n 0, 1) := by decide +kernel
theorem dX7_isCell_1 : decode cX7_isCell 1 = .ok (.iconst 0, 1) := by decide +kernel
theorem dX7_isCell_2 : decode cX7_isCell 2 = .ok (.bipush 15, 2) := by decide +kernel
theorem dX7_isCell_4 : decode cX7_isCell 4 = .ok (.invokestatic 115, 3) := by decide +kernel
theorem dX7_isCell_7 : decode cX7_isCell 7 = .ok (.ireturn, 1) := by decide +kernel
theorem dX7_isNear_0 : decode cX7_isNear 0 = .ok (.iload_n 0, 1) := by decide +kernel
theorem dX7_isNear_1 : decode cX7_isNear 1 = .ok (.iconst 0, 1) := by decide +kernel
theorem dX7_isNear_2 : decode cX7_isNear 2 = .ok (.bipush 20, 2) := by decide +kernel
theorem dX7_isNear_4 : decode cX7_isNear 4 = .ok (.invokestatic 115, 3) := by decide +kernel
theorem dX7_isNear_7 : decode cX7_isNear 7 = .ok (.ireturn, 1) := by decide +kernel
theorem dX7_isUse_0 : decode cX7_isUse 0 = .ok (.iload_n 0, 1) := by decide +kernel
theorem dX7_isUse_1 : decode cX7_isUse 1 = .ok (.iconst 0, 1) := by decide +kernel
theorem dX7_isUse_2 : decode cX7_isUse 2 = .ok (.iconst 1, 1) := by decide +kernel
theorem dX7_isUse_3 : decode cX7_isUse 3 = .ok (.invokestatic 115, 3) := by decide +kernel
theorem dX7_isUse_6 : decode cX7_isUse 6 = .ok (.ireturn, 1) := by decide +kernel
theorem dX7_isSheet_0 : decode cX7_isSheet 0 = .ok (.iload_n 0, 1) := by decide +kernel
theorem dX7_isSheet_1 : decode cX7_isSheet 1 = .ok (.iconst 0, 1) := by decide +kernel
theorem dX7_isSheet_2 : decode cX7_isSheet 2 = .ok (.iconst 3, 1) := by decide +kernel
theorem dX7_isSheet_3 : decode cX7_isSheet 3 = .ok (.invokestatic 115, 3) := by decide +kernel
theorem dX7_isSheet_6 : decode cX7_isSheet 6 = .ok (.ireturn, 1) := by decide +kernel
theorem dX7_isKindOrUnder_0 : decode cX7_isKindOrUnder 0 = .ok (.iload_n 0, 1) := by decide +kernel
theorem dX7_isKindOrUnder_1 : decode cX7_isKindOrUnder 1 = .ok (.istore_n 2, 1) := by decide +kernel
theorem dX7_isKindOrUnder_2 : decode cX7_isKindOrUnder 2 = .ok (.iconst 0, 1) := by decide +kernel
theorem dX7_isKindOrUnder_3 : decode cX7_isKindOrUnder 3 = .ok (.istore_n 3, 1) := by decide +kernel
theorem dX7_isKindOrUnder_4 : decode cX7_isKindOrUnder 4 = .ok (.iload_n 3, 1) := by decide +kernel
theorem dX7_isKindOrUnder_5 : decode cX7_isKindOrUnder 5 = .ok (.bipush 7, 2) := by decide +kernel
theorem dX7_isKindOrUnder_7 : decode cX7_isKindOrUnder 7 = .ok (.if_icmp .ge 26, 3) := by decide +kernel
theorem dX7_isKindOrUnder_10 : decode cX7_isKindOrUnder 10 = .ok (.iload_n 2, 1) := by decide +kernel
theorem dX7_isKindOrUnder_11 : decode cX7_isKindOrUnder 11 = .ok (.ifCond .lt 22, 3) := by decide +kernel
theorem dX7_isKindOrUnder_14 : decode cX7_isKindOrUnder 14 = .ok (.iload_n 2, 1) := by decide +kernel
theorem dX7_isKindOrUnder_15 : decode cX7_isKindOrUnder 15 = .ok (.iload_n 1, 1) := by decide +kernel
theorem dX7_isKindOrUnder_16 : decode cX7_isKindOrUnder 16 = .ok (.if_icmp .ne 5, 3) := by decide +kernel
theorem dX7_isKindOrUnder_19 : decode cX7_isKindOrUnder 19 = .ok (.iconst 1, 1) := by decide +kernel
theorem dX7_isKindOrUnder_20 : decode cX7_isKindOrUnder 20 = .ok (.ireturn, 1) := by decide +kernel
theorem dX7_isKindOrUnder_21 : decode cX7_isKindOrUnder 21 = .ok (.getstatic 286, 3) := by decide +kernel
theorem dX7_isKindOrUnder_24 : decode cX7_isKindOrUnder 24 = .ok (.iload_n 2, 1) := by decide +kernel
theorem dX7_isKindOrUnder_25 : decode cX7_isKindOrUnder 25 = .ok (.iaload, 1) := by decide +kernel
theorem dX7_isKindOrUnder_26 : decode cX7_isKindOrUnder 26 = .ok (.istore_n 2, 1) := by decide +kernel
theorem dX7_isKindOrUnder_27 : decode cX7_isKindOrUnder 27 = .ok (.iinc 3 1, 3) := by decide +kernel
theorem dX7_isKindOrUnder_30 : decode cX7_isKindOrUnder 30 = .ok (.goto (-26), 3) := by decide +kernel
theorem dX7_isKindOrUnder_33 : decode cX7_isKindOrUnder 33 = .ok (.iconst 0, 1) := by decide +kernel
theorem dX7_isKindOrUnder_34 : decode cX7_isKindOrUnder 34 = .ok (.ireturn, 1) := by decide +kernel
theorem dX7_commonDivisor_0 : decode cX7_commonDivisor 0 = .ok (.iload_n 1, 1) := by decide +kernel
theorem dX7_commonDivisor_1 : decode cX7_commonDivisor 1 = .ok (.istore_n 2, 1) := by decide +kernel
theorem dX7_commonDivisor_2 : decode cX7_commonDivisor 2 = .ok (.iload_n 0, 1) := by decide +kernel
theorem dX7_commonDivisor_3 : decode cX7_commonDivisor 3 = .ok (.istore_n 3, 1) := by decide +kernel
theorem dX7_commonDivisor_4 : decode cX7_commonDivisor 4 = .ok (.iconst 0, 1) := by decide +kernel
theorem dX7_commonDivisor_5 : decode cX7_commonDivisor 5 = .ok (.istore 4, 2) := by decide +kernel
theorem dX7_commonDivisor_7 : decode cX7_commonDivisor 7 = .ok (.iload 4, 2) := by decide +kernel
theorem dX7_commonDivisor_9 : decode cX7_commonDivisor 9 = .ok (.bipush 100, 2) := by decide +kernel
theorem dX7_commonDivisor_11 : decode cX7_commonDivisor 11 = .ok (.if_icmp .ge 23, 3) := by decide +kernel
theorem dX7_commonDivisor_14 : decode cX7_commonDivisor 14 = .ok (.iload_n 3, 1) := by decide +kernel
theorem dX7_commonDivisor_15 : decode cX7_commonDivisor 15 = .ok (.ifCond .eq 19, 3) := by decide +kernel
theorem dX7_commonDivisor_18 : decode cX7_commonDivisor 18 = .ok (.iload_n 2, 1) := by decide +kernel
theorem dX7_commonDivisor_19 : decode cX7_commonDivisor 19 = .ok (.iload_n 3, 1) := by decide +kernel
theorem dX7_commonDivisor_20 : decode cX7_commonDivisor 20 = .ok (.irem, 1) := by decide +kernel
theorem dX7_commonDivisor_21 : decode cX7_commonDivisor 21 = .ok (.istore 5, 2) := by decide +kernel
theorem dX7_commonDivisor_23 : decode cX7_commonDivisor 23 = .ok (.iload_n 3, 1) := by decide +kernel
theorem dX7_commonDivisor_24 : decode cX7_commonDivisor 24 = .ok (.istore_n 2, 1) := by decide +kernel
theorem dX7_commonDivisor_25 : decode cX7_commonDivisor 25 = .ok (.iload 5, 2) := by decide +kernel
theorem dX7_commonDivisor_27 : decode cX7_commonDivisor 27 = .ok (.istore_n 3, 1) := by decide +kernel
theorem dX7_commonDivisor_28 : decode cX7_commonDivisor 28 = .ok (.iinc 4 1, 3) := by decide +kernel
theorem dX7_commonDivisor_31 : decode cX7_commonDivisor 31 = .ok (.goto (-24), 3) := by decide +kernel
theorem dX7_commonDivisor_34 : decode cX7_commonDivisor 34 = .ok (.iload_n 2, 1) := by decide +kernel
theorem dX7_commonDivisor_35 : decode cX7_commonDivisor 35 = .ok (.ifCond .ne 7, 3) := by decide +kernel
theorem dX7_commonDivisor_38 : decode cX7_commonDivisor 38 = .ok (.iconst 1, 1) := by decide +kernel
theorem dX7_commonDivisor_39 : decode cX7_commonDivisor 39 = .ok (.goto 4, 3) := by decide +kernel
theorem dX7_commonDivisor_42 : decode cX7_commonDivisor 42 = .ok (.iload_n 2, 1) := by decide +kernel
theorem dX7_commonDivisor_43 : decode cX7_commonDivisor 43 = .ok (.ireturn, 1) := by decide +kernel
abbrev vwCl : List vw_C := [(RX0, TX0, 4), (RX1, TX1, 10), (RX2, TX2, 6), (RX3, TX3, 3), (RX4, TX4, 8), (RX5, TX5, 2), (RX6, TX6, 6), (RX7, TX7, 8), (RX8, TX8, 20)]
end
section
theorem dX8_init_0 : decode cX8_init 0 = .ok (.aload_n 0, 1) := by decide +kernel
theorem dX8_init_1 : decode cX8_init 1 = .ok (.invokespecial 1, 3) := by decide +kernel
theorem dX8_init_4 : decode cX8_init 4 = .ok (.aload_n 0, 1) := by decide +kernel
theorem dX8_init_5 : decode cX8_init 5 = .ok (.sipush 372, 3) := by decide +kernel
theorem dX8_init_8 : decode cX8_init 8 = .ok (.newarray .int, 2) := by decide +kernel
theorem dX8_init_10 : decode cX8_init 10 = .ok (.putfield 7, 3) := by decide +kernel
theorem dX8_init_13 : decode cX8_init 13 = .ok (.aload_n 0, 1) := by decide +kernel
theorem dX8_init_14 : decode cX8_init 14 = .ok (.sipush 372, 3) := by decide +kernel
theorem dX8_init_17 : decode cX8_init 17 = .ok (.newarray .int, 2) := by decide +kernel
theorem dX8_init_19 : decode cX8_init 19 = .ok (.putfield 13, 3) := by decide +kernel
theorem dX8_init_22 : decode cX8_init 22 = .ok (.aload_n 0, 1) := by decide +kernel
theorem dX8_init_23 : decode cX8_init 23 = .ok (.bipush 38, 2) := by decide +kernel
theorem dX8_init_25 : decode cX8_init 25 = .ok (.newarray .int, 2) := by decide +kernel
theorem dX8_init_27 : decode cX8_init 27 = .ok (.putfield 16, 3) := by decide +kernel
theorem dX8_init_30 : decode cX8_init 30 = .ok (.aload_n 0, 1) := by decide +kernel
theorem dX8_init_31 : decode cX8_init 31 = .ok (.bipush 7, 2) := by decide +kernel
theorem dX8_init_33 : decode cX8_init 33 = .ok (.newarray .int, 2) := by decide +kernel
theorem dX8_init_35 : decode cX8_init 35 = .ok (.putfield 19, 3) := by decide +kernel
theorem dX8_init_38 : decode cX8_init 38 = .ok (.aload_n 0, 1) := by decide +kernel
theorem dX8_init_39 : decode cX8_init 39 = .ok (.bipush 124, 2) := by decide +kernel
theorem dX8_init_41 : decode cX8_init 41 = .ok (.newarray .int, 2) := by decide +kernel
theorem dX8_init_43 : decode cX8_init 43 = .ok (.putfield 22, 3) := by decide +kernel
theorem dX8_init_46 : decode cX8_init 46 = .ok (.aload_n 0, 1) := by decide +kernel
theorem dX8_init_47 : decode cX8_init 47 = .ok (.sipush 128, 3) := by decide +kernel
theorem dX8_init_50 : decode cX8_init 50 = .ok (.newarray .int, 2) := by decide +kernel
theorem dX8_init_52 : decode cX8_init 52 = .ok (.putfield 25, 3) := by decide +kernel
theorem dX8_init_55 : decode cX8_init 55 = .ok (.aload_n 0, 1) := by decide +kernel
theorem dX8_init_56 : decode cX8_init 56 = .ok (.bipush 64, 2) := by decide +kernel
theorem dX8_init_58 : decode cX8_init 58 = .ok (.newarray .int, 2) := by decide +kernel
theorem dX8_init_60 : decode cX8_init 60 = .ok (.putfield 28, 3) := by decide +kernel
theorem dX8_init_63 : decode cX8_init 63 = .ok (.aload_n 0, 1) := by decide +kernel
theorem dX8_init_64 : decode cX8_init 64 = .ok (.bipush 30, 2) := by decide +kernel
theorem dX8_init_66 : decode cX8_init 66 = .ok (.newarray .int, 2) := by decide +kernel
theorem dX8_init_68 : decode cX8_init 68 = .ok (.putfield 31, 3) := by decide +kernel
theorem dX8_init_71 : decode cX8_init 71 = .ok (.aload_n 0, 1) := by decide +kernel
theorem dX8_init_72 : decode cX8_init 72 = .ok (.iconst 4, 1) := by decide +kernel
theorem dX8_init_73 : decode cX8_init 73 = .ok (.newarray .int, 2) := by decide +kernel
theorem dX8_init_75 : decode cX8_init 75 = .ok (.putfield 34, 3) := by decide +kernel
theorem dX8_init_78 : decode cX8_init 78 = .ok (.aload_n 0, 1) := by decide +kernel
theorem dX8_init_79 : decode cX8_init 79 = .ok (.iconst 4, 1) := by decide +kernel
theorem dX8_init_80 : decode cX8_init 80 = .ok (.newarray .int, 2) := by decide +kernel
theorem dX8_init_82 : decode cX8_init 82 = .ok (.putfield 37, 3) := by decide +kernel
theorem dX8_init_85 : decode cX8_init 85 = .ok (.aload_n 0, 1) := by decide +kernel
theorem dX8_init_86 : decode cX8_init 86 = .ok (.bipush 96, 2) := by decide +kernel
theorem dX8_init_88 : decode cX8_init 88 = .ok (.newarray .int, 2) := by decide +kernel
theorem dX8_init_90 : decode cX8_init 90 = .ok (.putfield 40, 3) := by decide +kernel
theorem dX8_init_93 : decode cX8_init 93 = .ok (.aload_n 0, 1) := by decide +kernel
theorem dX8_init_94 : decode cX8_init 94 = .ok (.bipush 24, 2) := by decide +kernel
theorem dX8_init_96 : decode cX8_init 96 = .ok (.newarray .int, 2) := by decide +kernel
theorem dX8_init_98 : decode cX8_init 98 = .ok (.putfield 43, 3) := by decide +kernel
theorem dX8_init_101 : decode cX8_init 101 = .ok (.aload_n 0, 1) := by decide +kernel
theorem dX8_init_102 : decode cX8_init 102 = .ok (.getfield 7, 3) := by decide +kernel
theorem dX8_init_105 : decode cX8_init 105 = .ok (.iconst 2, 1) := by decide +kernel
theorem dX8_init_106 : decode cX8_init 106 = .ok (.iconst 1, 1) := by decide +kernel
theorem dX8_init_107 : decode cX8_init 107 = .ok (.iastore, 1) := by decide +kernel
theorem dX8_init_108 : decode cX8_init 108 = .ok (.return_, 1) := by decide +kernel
theorem dX8_error_0 : decode cX8_error 0 = .ok (.aload_n 0, 1) := by decide +kernel
theorem dX8_error_1 : decode cX8_error 1 = .ok (.getfield 19, 3) := by decide +kernel
theorem dX8_error_4 : decode cX8_error 4 = .ok (.iload_n 1, 1) := by decide +kernel
theorem dX8_error_5 : decode cX8_error 5 = .ok (.dup2, 1) := by decide +kernel
theorem dX8_error_6 : decode cX8_error 6 = .ok (.iaload, 1) := by decide +kernel
theorem dX8_error_7 : decode cX8_error 7 = .ok (.iconst 1, 1) := by decide +kernel
theorem dX8_error_8 : decode cX8_error 8 = .ok (.iadd, 1) := by decide +kernel
theorem dX8_error_9 : decode cX8_error 9 = .ok (.iastore, 1) := by decide +kernel
theorem dX8_error_10 : decode cX8_error 10 = .ok (.ldc 46, 2) := by decide +kernel
theorem dX8_error_12 : decode cX8_error 12 = .ok (.iload_n 1, 1) := by decide +kernel
theorem dX8_error_13 : decode cX8_error 13 = .ok (.isub, 1) := by decide +kernel
theorem dX8_error_14 : decode cX8_error 14 = .ok (.ireturn, 1) := by decide +kernel
theorem dX8_in_0 : decode cX8_in 0 = .ok (.iload_n 0, 1) := by decide +kernel
theorem dX8_in_1 : decode cX8_in 1 = .ok (.iload_n 1, 1) := by decide +kernel
theorem dX8_in_2 : decode cX8_in 2 = .ok (.if_icmp .lt 12, 3) := by decide +kernel
theorem dX8_in_5 : decode cX8_in 5 = .ok (.iload_n 0, 1) := by decide +kernel
theorem dX8_in_6 : decode cX8_in 6 = .ok (.iload_n 2, 1) := by decide +kernel
theorem dX8_in_7 : decode cX8_in 7 = .ok (.if_icmp .gt 7, 3) := by decide +kernel
theorem dX8_in_10 : decode cX8_in 10 = .ok (.iconst 1, 1) := by decide +kernel
theorem dX8_in_11 : decode cX8_in 11 = .ok (.goto 4, 3) := by decide +kernel
theorem dX8_in_14 : decode cX8_in 14 = .ok (.iconst 0, 1) := by decide +kernel
theorem dX8_in_15 : decode cX8_in 15 = .ok (.ireturn, 1) := by decide +kernel
theorem dX8_held_0 : decode cX8_held 0 = .ok (.iload_n 0, 1) := by decide +kernel
theorem dX8_held_1 : decode cX8_held 1 = .ok (.iload_n 1, 1) := by decide +kernel
theorem dX8_held_2 : decode cX8_held 2 = .ok (.if_icmp .ge 7, 3) := by decide +kernel
theorem dX8_held_5 : decode cX8_held 5 = .ok (.iload_n 1, 1) := by decide +kernel
theorem dX8_held_6 : decode cX8_held 6 = .ok (.goto 13, 3) := by decide +kernel
theorem dX8_held_9 : decode cX8_held 9 = .ok (.iload_n 0, 1) := by decide +kernel
theorem dX8_held_10 : decode cX8_held 10 = .ok (.iload_n 2, 1) := by decide +kernel
theorem dX8_held_11 : decode cX8_held 11 = .ok (.if_icmp .le 7, 3) := by decide +kernel
theorem dX8_held_14 : decode cX8_held 14 = .ok (.iload_n 2, 1) := by decide +kernel
theorem dX8_held_15 : decode cX8_held 15 = .ok (.goto 4, 3) := by decide +kernel
theorem dX8_held_18 : decode cX8_held 18 = .ok (.iload_n 0, 1) := by decide +kernel
theorem dX8_held_19 : decode cX8_held 19 = .ok (.ireturn, 1) := by decide +kernel
theorem dX8_copyAll_0 : decode cX8_copyAll 0 = .ok (.iconst 0, 1) := by decide +kernel
theorem dX8_copyAll_1 : decode cX8_copyAll 1 = .ok (.istore_n 2, 1) := by decide +kernel
theorem dX8_copyAll_2 : decode cX8_copyAll 2 = .ok (.iload_n 2, 1) := by decide +kernel
theorem dX8_copyAll_3 : decode cX8_copyAll 3 = .ok (.sipush 372, 3) := by decide +kernel
theorem dX8_copyAll_6 : decode cX8_copyAll 6 = .ok (.if_icmp .ge 15, 3) := by decide +kernel
theorem dX8_copyAll_9 : decode cX8_copyAll 9 = .ok (.aload_n 1, 1) := by decide +kernel
theorem dX8_copyAll_10 : decode cX8_copyAll 10 = .ok (.iload_n 2, 1) := by decide +kernel
theorem dX8_copyAll_11 : decode cX8_copyAll 11 = .ok (.aload_n 0, 1) := by decide +kernel
theorem dX8_copyAll_12 : decode cX8_copyAll 12 = .ok (.iload_n 2, 1) := by decide +kernel
theorem dX8_copyAll_13 : decode cX8_copyAll 13 = .ok (.iaload, 1) := by decide +kernel
theorem dX8_copyAll_14 : decode cX8_copyAll 14 = .ok (.iastore, 1) := by decide +kernel
theorem dX8_copyAll_15 : decode cX8_copyAll 15 = .ok (.iinc 2 1, 3) := by decide +kernel
theorem dX8_copyAll_18 : decode cX8_copyAll 18 = .ok (.goto (-16), 3) := by decide +kernel
theorem dX8_copyAll_21 : decode cX8_copyAll 21 = .ok (.return_, 1) := by decide +kernel
theorem dX8_layDown_0 : decode cX8_layDown 0 = .ok (.iconst 0, 1) := by decide +kernel
theorem dX8_layDown_1 : decode cX8_layDown 1 = .ok (.istore_n 1, 1) := by decide +kernel
theorem dX8_layDown_2 : decode cX8_layDown 2 = .ok (.iload_n 1, 1) := by decide +kernel
theorem dX8_layDown_3 : decode cX8_layDown 3 = .ok (.bipush 38, 2) := by decide +kernel
theorem dX8_layDown_5 : decode cX8_layDown 5 = .ok (.if_icmp .ge 21, 3) := by decide +kernel
theorem dX8_layDown_8 : decode cX8_layDown 8 = .ok (.aload_n 0, 1) := by decide +kernel
theorem dX8_layDown_9 : decode cX8_layDown 9 = .ok (.getfield 16, 3) := by decide +kernel
theorem dX8_layDown_12 : decode cX8_layDown 12 = .ok (.iload_n 1, 1) := by decide +kernel
theorem dX8_layDown_13 : decode cX8_layDown 13 = .ok (.aload_n 0, 1) := by decide +kernel
theorem dX8_layDown_14 : decode cX8_layDown 14 = .ok (.getfield 7, 3) := by decide +kernel
theorem dX8_layDown_17 : decode cX8_layDown 17 = .ok (.iload_n 1, 1) := by decide +kernel
theorem dX8_layDown_18 : decode cX8_layDown 18 = .ok (.iaload, 1) := by decide +kernel
theorem dX8_layDown_19 : decode cX8_layDown 19 = .ok (.iastore, 1) := by decide +kernel
theorem dX8_layDown_20 : decode cX8_layDown 20 = .ok (.iinc 1 1, 3) := by decide +kernel
theorem dX8_layDown_23 : decode cX8_layDown 23 = .ok (.goto (-21), 3) := by decide +kernel
theorem dX8_layDown_26 : decode cX8_layDown 26 = .ok (.return_, 1) := by decide +kernel
theorem dX8_layBack_0 : decode cX8_layBack 0 = .ok (.iconst 0, 1) := by decide +kernel
theorem dX8_layBack_1 : decode cX8_layBack 1 = .ok (.istore_n 1, 1) := by decide +kernel
theorem dX8_layBack_2 : decode cX8_layBack 2 = .ok (.iload_n 1, 1) := by decide +kernel
theorem dX8_layBack_3 : decode cX8_layBack 3 = .ok (.bipush 38, 2) := by decide +kernel
theorem dX8_layBack_5 : decode cX8_layBack 5 = .ok (.if_icmp .ge 21, 3) := by decide +kernel
theorem dX8_layBack_8 : decode cX8_layBack 8 = .ok (.aload_n 0, 1) := by decide +kernel
theorem dX8_layBack_9 : decode cX8_layBack 9 = .ok (.getfield 7, 3) := by decide +kernel
theorem dX8_layBack_12 : decode cX8_layBack 12 = .ok (.iload_n 1, 1) := by decide +kernel
theorem dX8_layBack_13 : decode cX8_layBack 13 = .ok (.aload_n 0, 1) := by decide +kernel
theorem dX8_layBack_14 : decode cX8_layBack 14 = .ok (.getfield 16, 3) := by decide +kernel
theorem dX8_layBack_17 : decode cX8_layBack 17 = .ok (.iload_n 1, 1) := by decide +kernel
theorem dX8_layBack_18 : decode cX8_layBack 18 = .ok (.iaload, 1) := by decide +kernel
theorem dX8_layBack_19 : decode cX8_layBack 19 = .ok (.iastore, 1) := by decide +kernel
theorem dX8_layBack_20 : decode cX8_layBack 20 = .ok (.iinc 1 1, 3) := by decide +kernel
theorem dX8_layBack_23 : decode cX8_layBack 23 = .ok (.goto (-21), 3) := by decide +kernel
theorem dX8_layBack_26 : decode cX8_layBack 26 = .ok (.return_, 1) := by decide +kernel
theorem dX8_isPerson_0 : decode cX8_isPerson 0 = .ok (.iload_n 1, 1) := by decide +kernel
theorem dX8_isPerson_1 : decode cX8_isPerson 1 = .ok (.iconst 0, 1) := by decide +kernel
theorem dX8_isPerson_2 : decode cX8_isPerson 2 = .ok (.aload_n 0, 1) := by decide +kernel
theorem dX8_isPerson_3 : decode cX8_isPerson 3 = .ok (.getfield 7, 3) := by decide +kernel
theorem dX8_isPerson_6 : decode cX8_isPerson 6 = .ok (.iconst 5, 1) := by decide +kernel
theorem dX8_isPerson_7 : decode cX8_isPerson 7 = .ok (.iaload, 1) := by decide +kernel
theorem dX8_isPerson_8 : decode cX8_isPerson 8 = .ok (.iconst 1, 1) := by decide +kernel
theorem dX8_isPerson_9 : decode cX8_isPerson 9 = .ok (.isub, 1) := by decide +kernel
theorem dX8_isPerson_10 : decode cX8_isPerson 10 = .ok (.invokestatic 47, 3) := by decide +kernel
theorem dX8_isPerson_13 : decode cX8_isPerson 13 = .ok (.ireturn, 1) := by decide +kernel
theorem dX8_isCell_0 : decode cX8_isCell 0 = .ok (.iload_n 0, 1) := by decide +kernel
theorem dX8_isCell_1 : decode cX8_isCell 1 = .ok (.iconst 0, 1) := by decide +kernel
theorem dX8_isCell_2 : decode cX8_isCell 2 = .ok (.bipush 15, 2) := by decide +kernel
theorem dX8_isCell_4 : decode cX8_isCell 4 = .ok (.invokestatic 47, 3) := by decide +kernel
theorem dX8_isCell_7 : decode cX8_isCell 7 = .ok (.ireturn, 1) := by decide +kernel
theorem dX8_its_0 : decode cX8_its 0 = .ok (.aload_n 0, 1) := by decide +kernel
theorem dX8_its_1 : decode cX8_its 1 = .ok (.getfield 7, 3) := by decide +kernel
theorem dX8_its_4 : decode cX8_its 4 = .ok (.bipush 8, 2) := by decide +kernel
theorem dX8_its_6 : decode cX8_its 6 = .ok (.iconst 5, 1) := by decide +kernel
theorem dX8_its_7 : decode cX8_its 7 = .ok (.iload_n 1, 1) := by decide +kernel
theorem dX8_its_8 : decode cX8_its 8 = .ok (.imul, 1) := by decide +kernel
theorem dX8_its_9 : decode cX8_its 9 = .ok (.iadd, 1) := by decide +kernel
theorem dX8_its_10 : decode cX8_its 10 = .ok (.iload_n 2, 1) := by decide +kernel
theorem dX8_its_11 : decode cX8_its 11 = .ok (.iadd, 1) := by decide +kernel
theorem dX8_its_12 : decode cX8_its 12 = .ok (.iaload, 1) := by decide +kernel
theorem dX8_its_13 : decode cX8_its 13 = .ok (.ireturn, 1) := by decide +kernel
theorem dX8_lays1_0 : decode cX8_lays1 0 = .ok (.aload_n 0, 1) := by decide +kernel
theorem dX8_lays1_1 : decode cX8_lays1 1 = .ok (.getfield 7, 3) := by decide +kernel
theorem dX8_lays1_4 : decode cX8_lays1 4 = .ok (.bipush 8, 2) := by decide +kernel
theorem dX8_lays1_6 : decode cX8_lays1 6 = .ok (.iconst 5, 1) := by decide +kernel
theorem dX8_lays1_7 : decode cX8_lays1 7 = .ok (.iload_n 1, 1) := by decide +kernel
theorem dX8_lays1_8 : decode cX8_lays1 8 = .ok (.imul, 1) := by decide +kernel
theorem dX8_lays1_9 : decode cX8_lays1 9 = .ok (.iadd, 1) := by decide +kernel
theorem dX8_lays1_10 : decode cX8_lays1 10 = .ok (.iload_n 2, 1) := by decide +kernel
theorem dX8_lays1_11 : decode cX8_lays1 11 = .ok (.iadd, 1) := by decide +kernel
theorem dX8_lays1_12 : decode cX8_lays1 12 = .ok (.iload_n 3, 1) := by decide +kernel
theorem dX8_lays1_13 : decode cX8_lays1 13 = .ok (.iastore, 1) := by decide +kernel
theorem dX8_lays1_14 : decode cX8_lays1 14 = .ok (.return_, 1) := by decide +kernel
theorem dX8_change1_0 : decode cX8_change1 0 = .ok (.aload_n 0, 1) := by decide +kernel
theorem dX8_change1_1 : decode cX8_change1 1 = .ok (.getfield 7, 3) := by decide +kernel
theorem dX8_change1_4 : decode cX8_change1 4 = .ok (.iload_n 1, 1) := by decide +kernel
theorem dX8_change1_5 : decode cX8_change1 5 = .ok (.iaload, 1) := by decide +kernel
theorem dX8_change1_6 : decode cX8_change1 6 = .ok (.istore_n 3, 1) := by decide +kernel
theorem dX8_change1_7 : decode cX8_change1 7 = .ok (.aload_n 0, 1) := by decide +kernel
theorem dX8_change1_8 : decode cX8_change1 8 = .ok (.getfield 7, 3) := by decide +kernel
theorem dX8_change1_11 : decode cX8_change1 11 = .ok (.iload_n 1, 1) := by decide +kernel
theorem dX8_change1_12 : decode cX8_change1 12 = .ok (.iload_n 2, 1) := by decide +kernel
theorem dX8_change1_13 : decode cX8_change1 13 = .ok (.iastore, 1) := by decide +kernel
theorem dX8_change1_14 : decode cX8_change1 14 = .ok (.iload_n 3, 1) := by decide +kernel
theorem dX8_change1_15 : decode cX8_change1 15 = .ok (.ireturn, 1) := by decide +kernel
theorem dX8_isDrop_0 : decode cX8_isDrop 0 = .ok (.aload_n 0, 1) := by decide +kernel
theorem dX8_isDrop_1 : decode cX8_isDrop 1 = .ok (.getfield 7, 3) := by decide +kernel
theorem dX8_isDrop_4 : decode cX8_isDrop 4 = .ok (.iconst 1, 1) := by decide +kernel
theorem dX8_isDrop_5 : decode cX8_isDrop 5 = .ok (.iaload, 1) := by decide +kernel
theorem dX8_isDrop_6 : decode cX8_isDrop 6 = .ok (.iload_n 1, 1) := by decide +kernel
theorem dX8_isDrop_7 : decode cX8_isDrop 7 = .ok (.ishr, 1) := by decide +kernel
theorem dX8_isDrop_8 : decode cX8_isDrop 8 = .ok (.iconst 1, 1) := by decide +kernel
theorem dX8_isDrop_9 : decode cX8_isDrop 9 = .ok (.iand, 1) := by decide +kernel
theorem dX8_isDrop_10 : decode cX8_isDrop 10 = .ok (.iconst 1, 1) := by decide +kernel
theorem dX8_isDrop_11 : decode cX8_isDrop 11 = .ok (.if_icmp .ne 7, 3) := by decide +kernel
theorem dX8_isDrop_14 : decode cX8_isDrop 14 = .ok (.iconst 1, 1) := by decide +kernel
theorem dX8_isDrop_15 : decode cX8_isDrop 15 = .ok (.goto 4, 3) := by decide +kernel
theorem dX8_isDrop_18 : decode cX8_isDrop 18 = .ok (.iconst 0, 1) := by decide +kernel
theorem dX8_isDrop_19 : decode cX8_isDrop 19 = .ok (.ireturn, 1) := by decide +kernel
theorem dX8_feed_0 : decode cX8_feed 0 = .ok (.iload_n 3, 1) := by decide +kernel
theorem dX8_feed_1 : decode cX8_feed 1 = .ok (.iconst 1, 1) := by decide +kernel
theorem dX8_feed_2 : decode cX8_feed 2 = .ok (.bipush 8, 2) := by decide +kernel
theorem dX8_feed_4 : decode cX8_feed 4 = .ok (.invokestatic 47, 3) := by decide +kernel
theorem dX8_feed_7 : decode cX8_feed 7 = .ok (.ifCond .ne 9, 3) := by decide +kernel
theorem dX8_feed_10 : decode cX8_feed 10 = .ok (.aload_n 0, 1) := by decide +kernel
theorem dX8_feed_11 : decode cX8_feed 11 = .ok (.iconst 1, 1) := by decide +kernel
theorem dX8_feed_12 : decode cX8_feed 12 = .ok (.invokevirtual 51, 3) := by decide +kernel
theorem dX8_feed_15 : decode cX8_feed 15 = .ok (.ireturn, 1) := by decide +kernel
theorem dX8_feed_16 : decode cX8_feed 16 = .ok (.aload_n 0, 1) := by decide +kernel
theorem dX8_feed_17 : decode cX8_feed 17 = .ok (.getfield 7, 3) := by decide +kernel
theorem dX8_feed_20 : decode cX8_feed 20 = .ok (.iconst 3, 1) := by decide +kernel
theorem dX8_feed_21 : decode cX8_feed 21 = .ok (.iaload, 1) := by decide +kernel
theorem dX8_feed_22 : decode cX8_feed 22 = .ok (.iload_n 3, 1) := by decide +kernel
theorem dX8_feed_23 : decode cX8_feed 23 = .ok (.iadd, 1) := by decide +kernel
theorem dX8_feed_24 : decode cX8_feed 24 = .ok (.bipush 60, 2) := by decide +kernel
theorem dX8_feed_26 : decode cX8_feed 26 = .ok (.if_icmp .le 9, 3) := by decide +kernel
theorem dX8_feed_29 : decode cX8_feed 29 = .ok (.aload_n 0, 1) := by decide +kernel
theorem dX8_feed_30 : decode cX8_feed 30 = .ok (.iconst 4, 1) := by decide +kernel
theorem dX8_feed_31 : decode cX8_feed 31 = .ok (.invokevirtual 51, 3) := by decide +kernel
theorem dX8_feed_34 : decode cX8_feed 34 = .ok (.ireturn, 1) := by decide +kernel
theorem dX8_feed_35 : decode cX8_feed 35 = .ok (.iconst 0, 1) := by decide +kernel
theorem dX8_feed_36 : decode cX8_feed 36 = .ok (.istore 4, 2) := by decide +kernel
theorem dX8_feed_38 : decode cX8_feed 38 = .ok (.iload 4, 2) := by decide +kernel
theorem dX8_feed_40 : decode cX8_feed 40 = .ok (.iload_n 3, 1) := by decide +kernel
theorem dX8_feed_41 : decode cX8_feed 41 = .ok (.if_icmp .ge 46, 3) := by decide +kernel
theorem dX8_feed_44 : decode cX8_feed 44 = .ok (.aload_n 0, 1) := by decide +kernel
theorem dX8_feed_45 : decode cX8_feed 45 = .ok (.getfield 7, 3) := by decide +kernel
theorem dX8_feed_48 : decode cX8_feed 48 = .ok (.sipush 288, 3) := by decide +kernel
theorem dX8_feed_51 : decode cX8_feed 51 = .ok (.aload_n 0, 1) := by decide +kernel
theorem dX8_feed_52 : decode cX8_feed 52 = .ok (.getfield 7, 3) := by decide +kernel
theorem dX8_feed_55 : decode cX8_feed 55 = .ok (.iconst 3, 1) := by decide +kernel
theorem dX8_feed_56 : decode cX8_feed 56 = .ok (.iaload, 1) := by decide +kernel
theorem dX8_feed_57 : decode cX8_feed 57 = .ok (.iadd, 1) := by decide +kernel
theorem dX8_feed_58 : decode cX8_feed 58 = .ok (.lload_n 1, 1) := by decide +kernel
theorem dX8_feed_59 : decode cX8_feed 59 = .ok (.bipush 8, 2) := by decide +kernel
theorem dX8_feed_61 : decode cX8_feed 61 = .ok (.iload 4, 2) := by decide +kernel
theorem dX8_feed_63 : decode cX8_feed 63 = .ok (.imul, 1) := by decide +kernel
theorem dX8_feed_64 : decode cX8_feed 64 = .ok (.lshr, 1) := by decide +kernel
theorem dX8_feed_65 : decode cX8_feed 65 = .ok (.ldc2_w 55, 3) := by decide +kernel
theorem dX8_feed_68 : decode cX8_feed 68 = .ok (.land, 1) := by decide +kernel
theorem dX8_feed_69 : decode cX8_feed 69 = .ok (.l2i, 1) := by decide +kernel
theorem dX8_feed_70 : decode cX8_feed 70 = .ok (.iastore, 1) := by decide +kernel
theorem dX8_feed_71 : decode cX8_feed 71 = .ok (.aload_n 0, 1) := by decide +kernel
theorem dX8_feed_72 : decode cX8_feed 72 = .ok (.getfield 7, 3) := by decide +kernel
theorem dX8_feed_75 : decode cX8_feed 75 = .ok (.iconst 3, 1) := by decide +kernel
theorem dX8_feed_76 : decode cX8_feed 76 = .ok (.dup2, 1) := by decide +kernel
theorem dX8_feed_77 : decode cX8_feed 77 = .ok (.iaload, 1) := by decide +kernel
theorem dX8_feed_78 : decode cX8_feed 78 = .ok (.iconst 1, 1) := by decide +kernel
theorem dX8_feed_79 : decode cX8_feed 79 = .ok (.iadd, 1) := by decide +kernel
theorem dX8_feed_80 : decode cX8_feed 80 = .ok (.iastore, 1) := by decide +kernel
theorem dX8_feed_81 : decode cX8_feed 81 = .ok (.iinc 4 1, 3) := by decide +kernel
theorem dX8_feed_84 : decode cX8_feed 84 = .ok (.goto (-46), 3) := by decide +kernel
theorem dX8_feed_87 : decode cX8_feed 87 = .ok (.aload_n 0, 1) := by decide +kernel
theorem dX8_feed_88 : decode cX8_feed 88 = .ok (.getfield 7, 3) := by decide +kernel
theorem dX8_feed_91 : decode cX8_feed 91 = .ok (.iconst 3, 1) := by decide +kernel
theorem dX8_feed_92 : decode cX8_feed 92 = .ok (.iaload, 1) := by decide +kernel
theorem dX8_feed_93 : decode cX8_feed 93 = .ok (.ireturn, 1) := by decide +kernel
theorem dX8_look_0 : decode cX8_look 0 = .ok (.aload_n 0, 1) := by decide +kernel
theorem dX8_look_1 : decode cX8_look 1 = .ok (.getfield 57, 3) := by decide +kernel
theorem dX8_look_4 : decode cX8_look 4 = .ok (.aload_n 0, 1) := by decide +kernel
theorem dX8_look_5 : decode cX8_look 5 = .ok (.getfield 7, 3) := by decide +kernel
theorem dX8_look_8 : decode cX8_look 8 = .ok (.iconst 3, 1) := by decide +kernel
theorem dX8_look_9 : decode cX8_look 9 = .ok (.iaload, 1) := by decide +kernel
theorem dX8_look_10 : decode cX8_look 10 = .ok (.if_icmp .ge 19, 3) := by decide +kernel
theorem dX8_look_13 : decode cX8_look 13 = .ok (.aload_n 0, 1) := by decide +kernel
theorem dX8_look_14 : decode cX8_look 14 = .ok (.getfield 7, 3) := by decide +kernel
theorem dX8_look_17 : decode cX8_look 17 = .ok (.sipush 288, 3) := by decide +kernel
theorem dX8_look_20 : decode cX8_look 20 = .ok (.aload_n 0, 1) := by decide +kernel
theorem dX8_look_21 : decode cX8_look 21 = .ok (.getfield 57, 3) := by decide +kernel
theorem dX8_look_24 : decode cX8_look 24 = .ok (.iadd, 1) := by decide +kernel
theorem dX8_look_25 : decode cX8_look 25 = .ok (.iaload, 1) := by decide +kernel
theorem dX8_look_26 : decode cX8_look 26 = .ok (.goto 4, 3) := by decide +kernel
theorem dX8_look_29 : decode cX8_look 29 = .ok (.iconst (-1), 1) := by decide +kernel
theorem dX8_look_30 : decode cX8_look 30 = .ok (.ireturn, 1) := by decide +kernel
theorem dX8_isName_0 : decode cX8_isName 0 = .ok (.iload_n 1, 1) := by decide +kernel
theorem dX8_isName_1 : decode cX8_isName 1 = .ok (.bipush 99, 2) := by decide +kernel
theorem dX8_isName_3 : decode cX8_isName 3 = .ok (.if_icmp .ne 5, 3) := by decide +kernel
theorem dX8_isName_6 : decode cX8_isName 6 = .ok (.iconst 1, 1) := by decide +kernel
theorem dX8_isName_7 : decode cX8_isName 7 = .ok (.ireturn, 1) := by decide +kernel
theorem dX8_isName_8 : decode cX8_isName 8 = .ok (.aload_n 0, 1) := by decide +kernel
theorem dX8_isName_9 : decode cX8_isName 9 = .ok (.getfield 61, 3) := by decide +kernel
theorem dX8_isName_12 : decode cX8_isName 12 = .ok (.ifCond .ne 23, 3) := by decide +kernel
theorem dX8_isName_15 : decode cX8_isName 15 = .ok (.iload_n 1, 1) := by decide +kernel
theorem dX8_isName_16 : decode cX8_isName 16 = .ok (.bipush 115, 2) := by decide +kernel
theorem dX8_isName_18 : decode cX8_isName 18 = .ok (.if_icmp .eq 9, 3) := by decide +kernel
theorem dX8_isName_21 : decode cX8_isName 21 = .ok (.iload_n 1, 1) := by decide +kernel
theorem dX8_isName_22 : decode cX8_isName 22 = .ok (.bipush 104, 2) := by decide +kernel
theorem dX8_isName_24 : decode cX8_isName 24 = .ok (.if_icmp .ne 7, 3) := by decide +kernel
theorem dX8_isName_27 : decode cX8_isName 27 = .ok (.iconst 1, 1) := by decide +kernel
theorem dX8_isName_28 : decode cX8_isName 28 = .ok (.goto 24, 3) := by decide +kernel
theorem dX8_isName_31 : decode cX8_isName 31 = .ok (.iconst 0, 1) := by decide +kernel
theorem dX8_isName_32 : decode cX8_isName 32 = .ok (.goto 20, 3) := by decide +kernel
theorem dX8_isName_35 : decode cX8_isName 35 = .ok (.iload_n 1, 1) := by decide +kernel
theorem dX8_isName_36 : decode cX8_isName 36 = .ok (.bipush 109, 2) := by decide +kernel
theorem dX8_isName_38 : decode cX8_isName 38 = .ok (.if_icmp .eq 9, 3) := by decide +kernel
theorem dX8_isName_41 : decode cX8_isName 41 = .ok (.iload_n 1, 1) := by decide +kernel
theorem dX8_isName_42 : decode cX8_isName 42 = .ok (.bipush 107, 2) := by decide +kernel
theorem dX8_isName_44 : decode cX8_isName 44 = .ok (.if_icmp .ne 7, 3) := by decide +kernel
theorem dX8_isName_47 : decode cX8_isName 47 = .ok (.iconst 1, 1) := by decide +kernel
theorem dX8_isName_48 : decode cX8_isName 48 = .ok (.goto 4, 3) := by decide +kernel
theorem dX8_isName_51 : decode cX8_isName 51 = .ok (.iconst 0, 1) := by decide +kernel
theorem dX8_isName_52 : decode cX8_isName 52 = .ok (.ireturn, 1) := by decide +kernel
theorem dX8_step1_0 : decode cX8_step1 0 = .ok (.aload_n 0, 1) := by decide +kernel
theorem dX8_step1_1 : decode cX8_step1 1 = .ok (.getfield 22, 3) := by decide +kernel
theorem dX8_step1_4 : decode cX8_step1 4 = .ok (.iconst 2, 1) := by decide +kernel
theorem dX8_step1_5 : decode cX8_step1 5 = .ok (.aload_n 0, 1) := by decide +kernel
theorem dX8_step1_6 : decode cX8_step1 6 = .ok (.getfield 64, 3) := by decide +kernel
theorem dX8_step1_9 : decode cX8_step1 9 = .ok (.imul, 1) := by decide +kernel
theorem dX8_step1_10 : decode cX8_step1 10 = .ok (.iload_n 1, 1) := by decide +kernel
theorem dX8_step1_11 : decode cX8_step1 11 = .ok (.iastore, 1) := by decide +kernel
theorem dX8_step1_12 : decode cX8_step1 12 = .ok (.aload_n 0, 1) := by decide +kernel
theorem dX8_step1_13 : decode cX8_step1 13 = .ok (.getfield 22, 3) := by decide +kernel
theorem dX8_step1_16 : decode cX8_step1 16 = .ok (.iconst 2, 1) := by decide +kernel
theorem dX8_step1_17 : decode cX8_step1 17 = .ok (.aload_n 0, 1) := by decide +kernel
theorem dX8_step1_18 : decode cX8_step1 18 = .ok (.getfield 64, 3) := by decide +kernel
theorem dX8_step1_21 : decode cX8_step1 21 = .ok (.imul, 1) := by decide +kernel
theorem dX8_step1_22 : decode cX8_step1 22 = .ok (.iconst 1, 1) := by decide +kernel
theorem dX8_step1_23 : decode cX8_step1 23 = .ok (.iadd, 1) := by decide +kernel
theorem dX8_step1_24 : decode cX8_step1 24 = .ok (.iload_n 2, 1) := by decide +kernel
theorem dX8_step1_25 : decode cX8_step1 25 = .ok (.iastore, 1) := by decide +kernel
theorem dX8_step1_26 : decode cX8_step1 26 = .ok (.aload_n 0, 1) := by decide +kernel
theorem dX8_step1_27 : decode cX8_step1 27 = .ok (.dup, 1) := by decide +kernel
theorem dX8_step1_28 : decode cX8_step1 28 = .ok (.getfield 64, 3) := by decide +kernel
theorem dX8_step1_31 : decode cX8_step1 31 = .ok (.iconst 1, 1) := by decide +kernel
theorem dX8_step1_32 : decode cX8_step1 32 = .ok (.iadd, 1) := by decide +kernel
theorem dX8_step1_33 : decode cX8_step1 33 = .ok (.putfield 64, 3) := by decide +kernel
theorem dX8_step1_36 : decode cX8_step1 36 = .ok (.return_, 1) := by decide +kernel
theorem dX8_whole_0 : decode cX8_whole 0 = .ok (.aload_n 0, 1) := by decide +kernel
theorem dX8_whole_1 : decode cX8_whole 1 = .ok (.invokevirtual 67, 3) := by decide +kernel
theorem dX8_whole_4 : decode cX8_whole 4 = .ok (.ifCond .ne 5, 3) := by decide +kernel
theorem dX8_whole_7 : decode cX8_whole 7 = .ok (.iconst 0, 1) := by decide +kernel
theorem dX8_whole_8 : decode cX8_whole 8 = .ok (.ireturn, 1) := by decide +kernel
theorem dX8_whole_9 : decode cX8_whole 9 = .ok (.aload_n 0, 1) := by decide +kernel
theorem dX8_whole_10 : decode cX8_whole 10 = .ok (.invokevirtual 71, 3) := by decide +kernel
theorem dX8_whole_13 : decode cX8_whole 13 = .ok (.bipush 124, 2) := by decide +kernel
theorem dX8_whole_15 : decode cX8_whole 15 = .ok (.if_icmp .ne 32, 3) := by decide +kernel
theorem dX8_whole_18 : decode cX8_whole 18 = .ok (.aload_n 0, 1) := by decide +kernel
theorem dX8_whole_19 : decode cX8_whole 19 = .ok (.dup, 1) := by decide +kernel
theorem dX8_whole_20 : decode cX8_whole 20 = .ok (.getfield 57, 3) := by decide +kernel
theorem dX8_whole_23 : decode cX8_whole 23 = .ok (.iconst 1, 1) := by decide +kernel
theorem dX8_whole_24 : decode cX8_whole 24 = .ok (.iadd, 1) := by decide +kernel
theorem dX8_whole_25 : decode cX8_whole 25 = .ok (.putfield 57, 3) := by decide +kernel
theorem dX8_whole_28 : decode cX8_whole 28 = .ok (.aload_n 0, 1) := by decide +kernel
theorem dX8_whole_29 : decode cX8_whole 29 = .ok (.invokevirtual 67, 3) := by decide +kernel
theorem dX8_whole_32 : decode cX8_whole 32 = .ok (.ifCond .ne 5, 3) := by decide +kernel
theorem dX8_whole_35 : decode cX8_whole 35 = .ok (.iconst 0, 1) := by decide +kernel
theorem dX8_whole_36 : decode cX8_whole 36 = .ok (.ireturn, 1) := by decide +kernel
theorem dX8_whole_37 : decode cX8_whole 37 = .ok (.aload_n 0, 1) := by decide +kernel
theorem dX8_whole_38 : decode cX8_whole 38 = .ok (.iconst 3, 1) := by decide +kernel
theorem dX8_whole_39 : decode cX8_whole 39 = .ok (.bipush 124, 2) := by decide +kernel
theorem dX8_whole_41 : decode cX8_whole 41 = .ok (.invokevirtual 75, 3) := by decide +kernel
theorem dX8_whole_44 : decode cX8_whole 44 = .ok (.goto (-35), 3) := by decide +kernel
theorem dX8_whole_47 : decode cX8_whole 47 = .ok (.iconst 1, 1) := by decide +kernel
theorem dX8_whole_48 : decode cX8_whole 48 = .ok (.ireturn, 1) := by decide +kernel
theorem dX8_both_0 : decode cX8_both 0 = .ok (.aload_n 0, 1) := by decide +kernel
theorem dX8_both_1 : decode cX8_both 1 = .ok (.invokevirtual 79, 3) := by decide +kernel
theorem dX8_both_4 : decode cX8_both 4 = .ok (.ifCond .ne 5, 3) := by decide +kernel
theorem dX8_both_7 : decode cX8_both 7 = .ok (.iconst 0, 1) := by decide +kernel
theorem dX8_both_8 : decode cX8_both 8 = .ok (.ireturn, 1) := by decide +kernel
theorem dX8_both_9 : decode cX8_both 9 = .ok (.aload_n 0, 1) := by decide +kernel
theorem dX8_both_10 : decode cX8_both 10 = .ok (.invokevirtual 71, 3) := by decide +kernel
theorem dX8_both_13 : decode cX8_both 13 = .ok (.bipush 38, 2) := by decide +kernel
theorem dX8_both_15 : decode cX8_both 15 = .ok (.if_icmp .ne 32, 3) := by decide +kernel
theorem dX8_both_18 : decode cX8_both 18 = .ok (.aload_n 0, 1) := by decide +kernel
theorem dX8_both_19 : decode cX8_both 19 = .ok (.dup, 1) := by decide +kernel
theorem dX8_both_20 : decode cX8_both 20 = .ok (.getfield 57, 3) := by decide +kernel
theorem dX8_both_23 : decode cX8_both 23 = .ok (.iconst 1, 1) := by decide +kernel
theorem dX8_both_24 : decode cX8_both 24 = .ok (.iadd, 1) := by decide +kernel
theorem dX8_both_25 : decode cX8_both 25 = .ok (.putfield 57, 3) := by decide +kernel
theorem dX8_both_28 : decode cX8_both 28 = .ok (.aload_n 0, 1) := by decide +kernel
theorem dX8_both_29 : decode cX8_both 29 = .ok (.invokevirtual 79, 3) := by decide +kernel
theorem dX8_both_32 : decode cX8_both 32 = .ok (.ifCond .ne 5, 3) := by decide +kernel
theorem dX8_both_35 : decode cX8_both 35 = .ok (.iconst 0, 1) := by decide +kernel
theorem dX8_both_36 : decode cX8_both 36 = .ok (.ireturn, 1) := by decide +kernel
theorem dX8_both_37 : decode cX8_both 37 = .ok (.aload_n 0, 1) := by decide +kernel
theorem dX8_both_38 : decode cX8_both 38 = .ok (.iconst 3, 1) := by decide +kernel
theorem dX8_both_39 : decode cX8_both 39 = .ok (.bipush 38, 2) := by decide +kernel
theorem dX8_both_41 : decode cX8_both 41 = .ok (.invokevirtual 75, 3) := by decide +kernel
theorem dX8_both_44 : decode cX8_both 44 = .ok (.goto (-35), 3) := by decide +kernel
theorem dX8_both_47 : decode cX8_both 47 = .ok (.iconst 1, 1) := by decide +kernel
theorem dX8_both_48 : decode cX8_both 48 = .ok (.ireturn, 1) := by decide +kernel
theorem dX8_compared_0 : decode cX8_compared 0 = .ok (.aload_n 0, 1) := by decide +kernel
theorem dX8_compared_1 : decode cX8_compared 1 = .ok (.invokevirtual 82, 3) := by decide +kernel
theorem dX8_compared_4 : decode cX8_compared 4 = .ok (.ifCond .ne 5, 3) := by decide +kernel
theorem dX8_compared_7 : decode cX8_compared 7 = .ok (.iconst 0, 1) := by decide +kernel
theorem dX8_compared_8 : decode cX8_compared 8 = .ok (.ireturn, 1) := by decide +kernel
theorem dX8_compared_9 : decode cX8_compared 9 = .ok (.aload_n 0, 1) := by decide +kernel
theorem dX8_compared_10 : decode cX8_compared 10 = .ok (.invokevirtual 71, 3) := by decide +kernel
theorem dX8_compared_13 : decode cX8_compared 13 = .ok (.istore_n 1, 1) := by decide +kernel
theorem dX8_compared_14 : decode cX8_compared 14 = .ok (.iload_n 1, 1) := by decide +kernel
theorem dX8_compared_15 : decode cX8_compared 15 = .ok (.bipush 60, 2) := by decide +kernel
theorem dX8_compared_17 : decode cX8_compared 17 = .ok (.if_icmp .eq 17, 3) := by decide +kernel
theorem dX8_compared_20 : decode cX8_compared 20 = .ok (.iload_n 1, 1) := by decide +kernel
theorem dX8_compared_21 : decode cX8_compared 21 = .ok (.bipush 61, 2) := by decide +kernel
theorem dX8_compared_23 : decode cX8_compared 23 = .ok (.if_icmp .eq 11, 3) := by decide +kernel
theorem dX8_compared_26 : decode cX8_compared 26 = .ok (.iload_n 1, 1) := by decide +kernel
theorem dX8_compared_27 : decode cX8_compared 27 = .ok (.bipush 62, 2) := by decide +kernel
theorem dX8_compared_29 : decode cX8_compared 29 = .ok (.if_icmp .eq 5, 3) := by decide +kernel
theorem dX8_compared_32 : decode cX8_compared 32 = .ok (.iconst 1, 1) := by decide +kernel
theorem dX8_compared_33 : decode cX8_compared 33 = .ok (.ireturn, 1) := by decide +kernel
theorem dX8_compared_34 : decode cX8_compared 34 = .ok (.aload_n 0, 1) := by decide +kernel
theorem dX8_compared_35 : decode cX8_compared 35 = .ok (.dup, 1) := by decide +kernel
theorem dX8_compared_36 : decode cX8_compared 36 = .ok (.getfield 57, 3) := by decide +kernel
theorem dX8_compared_39 : decode cX8_compared 39 = .ok (.iconst 1, 1) := by decide +kernel
theorem dX8_compared_40 : decode cX8_compared 40 = .ok (.iadd, 1) := by decide +kernel
theorem dX8_compared_41 : decode cX8_compared 41 = .ok (.putfield 57, 3) := by decide +kernel
theorem dX8_compared_44 : decode cX8_compared 44 = .ok (.aload_n 0, 1) := by decide +kernel
theorem dX8_compared_45 : decode cX8_compared 45 = .ok (.invokevirtual 82, 3) := by decide +kernel
theorem dX8_compared_48 : decode cX8_compared 48 = .ok (.ifCond .ne 5, 3) := by decide +kernel
theorem dX8_compared_51 : decode cX8_compared 51 = .ok (.iconst 0, 1) := by decide +kernel
theorem dX8_compared_52 : decode cX8_compared 52 = .ok (.ireturn, 1) := by decide +kernel
theorem dX8_compared_53 : decode cX8_compared 53 = .ok (.aload_n 0, 1) := by decide +kernel
theorem dX8_compared_54 : decode cX8_compared 54 = .ok (.iconst 3, 1) := by decide +kernel
theorem dX8_compared_55 : decode cX8_compared 55 = .ok (.iload_n 1, 1) := by decide +kernel
theorem dX8_compared_56 : decode cX8_compared 56 = .ok (.invokevirtual 75, 3) := by decide +kernel
theorem dX8_compared_59 : decode cX8_compared 59 = .ok (.iconst 1, 1) := by decide +kernel
theorem dX8_compared_60 : decode cX8_compared 60 = .ok (.ireturn, 1) := by decide +kernel
theorem dX8_sum_0 : decode cX8_sum 0 = .ok (.aload_n 0, 1) := by decide +kernel
theorem dX8_sum_1 : decode cX8_sum 1 = .ok (.invokevirtual 85, 3) := by decide +kernel
theorem dX8_sum_4 : decode cX8_sum 4 = .ok (.ifCond .ne 5, 3) := by decide +kernel
theorem dX8_sum_7 : decode cX8_sum 7 = .ok (.iconst 0, 1) := by decide +kernel
theorem dX8_sum_8 : decode cX8_sum 8 = .ok (.ireturn, 1) := by decide +kernel
theorem dX8_sum_9 : decode cX8_sum 9 = .ok (.aload_n 0, 1) := by decide +kernel
theorem dX8_sum_10 : decode cX8_sum 10 = .ok (.invokevirtual 71, 3) := by decide +kernel
theorem dX8_sum_13 : decode cX8_sum 13 = .ok (.bipush 43, 2) := by decide +kernel
theorem dX8_sum_15 : decode cX8_sum 15 = .ok (.if_icmp .eq 12, 3) := by decide +kernel
theorem dX8_sum_18 : decode cX8_sum 18 = .ok (.aload_n 0, 1) := by decide +kernel
theorem dX8_sum_19 : decode cX8_sum 19 = .ok (.invokevirtual 71, 3) := by decide +kernel
theorem dX8_sum_22 : decode cX8_sum 22 = .ok (.bipush 45, 2) := by decide +kernel
theorem dX8_sum_24 : decode cX8_sum 24 = .ok (.if_icmp .ne 36, 3) := by decide +kernel
theorem dX8_sum_27 : decode cX8_sum 27 = .ok (.aload_n 0, 1) := by decide +kernel
theorem dX8_sum_28 : decode cX8_sum 28 = .ok (.invokevirtual 71, 3) := by decide +kernel
theorem dX8_sum_31 : decode cX8_sum 31 = .ok (.istore_n 1, 1) := by decide +kernel
theorem dX8_sum_32 : decode cX8_sum 32 = .ok (.aload_n 0, 1) := by decide +kernel
theorem dX8_sum_33 : decode cX8_sum 33 = .ok (.dup, 1) := by decide +kernel
theorem dX8_sum_34 : decode cX8_sum 34 = .ok (.getfield 57, 3) := by decide +kernel
theorem dX8_sum_37 : decode cX8_sum 37 = .ok (.iconst 1, 1) := by decide +kernel
theorem dX8_sum_38 : decode cX8_sum 38 = .ok (.iadd, 1) := by decide +kernel
theorem dX8_sum_39 : decode cX8_sum 39 = .ok (.putfield 57, 3) := by decide +kernel
theorem dX8_sum_42 : decode cX8_sum 42 = .ok (.aload_n 0, 1) := by decide +kernel
theorem dX8_sum_43 : decode cX8_sum 43 = .ok (.invokevirtual 85, 3) := by decide +kernel
theorem dX8_sum_46 : decode cX8_sum 46 = .ok (.ifCond .ne 5, 3) := by decide +kernel
theorem dX8_sum_49 : decode cX8_sum 49 = .ok (.iconst 0, 1) := by decide +kernel
theorem dX8_sum_50 : decode cX8_sum 50 = .ok (.ireturn, 1) := by decide +kernel
theorem dX8_sum_51 : decode cX8_sum 51 = .ok (.aload_n 0, 1) := by decide +kernel
theorem dX8_sum_52 : decode cX8_sum 52 = .ok (.iconst 3, 1) := by decide +kernel
theorem dX8_sum_53 : decode cX8_sum 53 = .ok (.iload_n 1, 1) := by decide +kernel
theorem dX8_sum_54 : decode cX8_sum 54 = .ok (.invokevirtual 75, 3) := by decide +kernel
theorem dX8_sum_57 : decode cX8_sum 57 = .ok (.goto (-48), 3) := by decide +kernel
theorem dX8_sum_60 : decode cX8_sum 60 = .ok (.iconst 1, 1) := by decide +kernel
theorem dX8_sum_61 : decode cX8_sum 61 = .ok (.ireturn, 1) := by decide +kernel
theorem dX8_product_0 : decode cX8_product 0 = .ok (.aload_n 0, 1) := by decide +kernel
theorem dX8_product_1 : decode cX8_product 1 = .ok (.invokevirtual 88, 3) := by decide +kernel
theorem dX8_product_4 : decode cX8_product 4 = .ok (.ifCond .ne 5, 3) := by decide +kernel
theorem dX8_product_7 : decode cX8_product 7 = .ok (.iconst 0, 1) := by decide +kernel
theorem dX8_product_8 : decode cX8_product 8 = .ok (.ireturn, 1) := by decide +kernel
theorem dX8_product_9 : decode cX8_product 9 = .ok (.aload_n 0, 1) := by decide +kernel
theorem dX8_product_10 : decode cX8_product 10 = .ok (.invokevirtual 71, 3) := by decide +kernel
theorem dX8_product_13 : decode cX8_product 13 = .ok (.bipush 42, 2) := by decide +kernel
theorem dX8_product_15 : decode cX8_product 15 = .ok (.if_icmp .eq 21, 3) := by decide +kernel
theorem dX8_product_18 : decode cX8_product 18 = .ok (.aload_n 0, 1) := by decide +kernel
theorem dX8_product_19 : decode cX8_product 19 = .ok (.invokevirtual 71, 3) := by decide +kernel
theorem dX8_product_22 : decode cX8_product 22 = .ok (.bipush 47, 2) := by decide +kernel
theorem dX8_product_24 : decode cX8_product 24 = .ok (.if_icmp .eq 12, 3) := by decide +kernel
theorem dX8_product_27 : decode cX8_product 27 = .ok (.aload_n 0, 1) := by decide +kernel
theorem dX8_product_28 : decode cX8_product 28 = .ok (.invokevirtual 71, 3) := by decide +kernel
theorem dX8_product_31 : decode cX8_product 31 = .ok (.bipush 37, 2) := by decide +kernel
theorem dX8_product_33 : decode cX8_product 33 = .ok (.if_icmp .ne 36, 3) := by decide +kernel
theorem dX8_product_36 : decode cX8_product 36 = .ok (.aload_n 0, 1) := by decide +kernel
theorem dX8_product_37 : decode cX8_product 37 = .ok (.invokevirtual 71, 3) := by decide +kernel
theorem dX8_product_40 : decode cX8_product 40 = .ok (.istore_n 1, 1) := by decide +kernel
theorem dX8_product_41 : decode cX8_product 41 = .ok (.aload_n 0, 1) := by decide +kernel
theorem dX8_product_42 : decode cX8_product 42 = .ok (.dup, 1) := by decide +kernel
theorem dX8_product_43 : decode cX8_product 43 = .ok (.getfield 57, 3) := by decide +kernel
theorem dX8_product_46 : decode cX8_product 46 = .ok (.iconst 1, 1) := by decide +kernel
theorem dX8_product_47 : decode cX8_product 47 = .ok (.iadd, 1) := by decide +kernel
theorem dX8_product_48 : decode cX8_product 48 = .ok (.putfield 57, 3) := by decide +kernel
theorem dX8_product_51 : decode cX8_product 51 = .ok (.aload_n 0, 1) := by decide +kernel
theorem dX8_product_52 : decode cX8_product 52 = .ok (.invokevirtual 88, 3) := by decide +kernel
theorem dX8_product_55 : decode cX8_product 55 = .ok (.ifCond .ne 5, 3) := by decide +kernel
theorem dX8_product_58 : decode cX8_product 58 = .ok (.iconst 0, 1) := by decide +kernel
theorem dX8_product_59 : decode cX8_product 59 = .ok (.ireturn, 1) := by decide +kernel
theorem dX8_product_60 : decode cX8_product 60 = .ok (.aload_n 0, 1) := by decide +kernel
theorem dX8_product_61 : decode cX8_product 61 = .ok (.iconst 3, 1) := by decide +kernel
theorem dX8_product_62 : decode cX8_product 62 = .ok (.iload_n 1, 1) := by decide +kernel
theorem dX8_product_63 : decode cX8_product 63 = .ok (.invokevirtual 75, 3) := by decide +kernel
theorem dX8_product_66 : decode cX8_product 66 = .ok (.goto (-57), 3) := by decide +kernel
theorem dX8_product_69 : decode cX8_product 69 = .ok (.iconst 1, 1) := by decide +kernel
theorem dX8_product_70 : decode cX8_product 70 = .ok (.ireturn, 1) := by decide +kernel
theorem dX8_opens_0 : decode cX8_opens 0 = .ok (.aload_n 0, 1) := by decide +kernel
theorem dX8_opens_1 : decode cX8_opens 1 = .ok (.getfield 91, 3) := by decide +kernel
theorem dX8_opens_4 : decode cX8_opens 4 = .ok (.iconst 5, 1) := by decide +kernel
theorem dX8_opens_5 : decode cX8_opens 5 = .ok (.if_icmp .ne 5, 3) := by decide +kernel
theorem dX8_opens_8 : decode cX8_opens 8 = .ok (.iconst 0, 1) := by decide +kernel
theorem dX8_opens_9 : decode cX8_opens 9 = .ok (.ireturn, 1) := by decide +kernel
theorem dX8_opens_10 : decode cX8_opens 10 = .ok (.aload_n 0, 1) := by decide +kernel
theorem dX8_opens_11 : decode cX8_opens 11 = .ok (.dup, 1) := by decide +kernel
theorem dX8_opens_12 : decode cX8_opens 12 = .ok (.getfield 91, 3) := by decide +kernel
theorem dX8_opens_15 : decode cX8_opens 15 = .ok (.iconst 1, 1) := by decide +kernel
theorem dX8_opens_16 : decode cX8_opens 16 = .ok (.iadd, 1) := by decide +kernel
theorem dX8_opens_17 : decode cX8_opens 17 = .ok (.putfield 91, 3) := by decide +kernel
theorem dX8_opens_20 : decode cX8_opens 20 = .ok (.aload_n 0, 1) := by decide +kernel
theorem dX8_opens_21 : decode cX8_opens 21 = .ok (.dup, 1) := by decide +kernel
theorem dX8_opens_22 : decode cX8_opens 22 = .ok (.getfield 57, 3) := by decide +kernel
theorem dX8_opens_25 : decode cX8_opens 25 = .ok (.iconst 1, 1) := by decide +kernel
theorem dX8_opens_26 : decode cX8_opens 26 = .ok (.iadd, 1) := by decide +kernel
theorem dX8_opens_27 : decode cX8_opens 27 = .ok (.putfield 57, 3) := by decide +kernel
theorem dX8_opens_30 : decode cX8_opens 30 = .ok (.iconst 1, 1) := by decide +kernel
theorem dX8_opens_31 : decode cX8_opens 31 = .ok (.ireturn, 1) := by decide +kernel
theorem dX8_one_0 : decode cX8_one 0 = .ok (.aload_n 0, 1) := by decide +kernel
theorem dX8_one_1 : decode cX8_one 1 = .ok (.invokevirtual 71, 3) := by decide +kernel
theorem dX8_one_4 : decode cX8_one 4 = .ok (.istore_n 1, 1) := by decide +kernel
theorem dX8_one_5 : decode cX8_one 5 = .ok (.aload_n 0, 1) := by decide +kernel
theorem dX8_one_6 : decode cX8_one 6 = .ok (.iload_n 1, 1) := by decide +kernel
theorem dX8_one_7 : decode cX8_one 7 = .ok (.invokevirtual 94, 3) := by decide +kernel
theorem dX8_one_10 : decode cX8_one 10 = .ok (.ifCond .eq 21, 3) := by decide +kernel
theorem dX8_one_13 : decode cX8_one 13 = .ok (.aload_n 0, 1) := by decide +kernel
theorem dX8_one_14 : decode cX8_one 14 = .ok (.dup, 1) := by decide +kernel
theorem dX8_one_15 : decode cX8_one 15 = .ok (.getfield 57, 3) := by decide +kernel
theorem dX8_one_18 : decode cX8_one 18 = .ok (.iconst 1, 1) := by decide +kernel
theorem dX8_one_19 : decode cX8_one 19 = .ok (.iadd, 1) := by decide +kernel
theorem dX8_one_20 : decode cX8_one 20 = .ok (.putfield 57, 3) := by decide +kernel
theorem dX8_one_23 : decode cX8_one 23 = .ok (.aload_n 0, 1) := by decide +kernel
theorem dX8_one_24 : decode cX8_one 24 = .ok (.iconst 1, 1) := by decide +kernel
theorem dX8_one_25 : decode cX8_one 25 = .ok (.iload_n 1, 1) := by decide +kernel
theorem dX8_one_26 : decode cX8_one 26 = .ok (.invokevirtual 75, 3) := by decide +kernel
theorem dX8_one_29 : decode cX8_one 29 = .ok (.iconst 1, 1) := by decide +kernel
theorem dX8_one_30 : decode cX8_one 30 = .ok (.ireturn, 1) := by decide +kernel
theorem dX8_one_31 : decode cX8_one 31 = .ok (.iload_n 1, 1) := by decide +kernel
theorem dX8_one_32 : decode cX8_one 32 = .ok (.bipush 48, 2) := by decide +kernel
theorem dX8_one_34 : decode cX8_one 34 = .ok (.bipush 57, 2) := by decide +kernel
theorem dX8_one_36 : decode cX8_one 36 = .ok (.invokestatic 47, 3) := by decide +kernel
theorem dX8_one_39 : decode cX8_one 39 = .ok (.ifCond .eq 63, 3) := by decide +kernel
theorem dX8_one_42 : decode cX8_one 42 = .ok (.iconst 0, 1) := by decide +kernel
theorem dX8_one_43 : decode cX8_one 43 = .ok (.istore_n 2, 1) := by decide +kernel
theorem dX8_one_44 : decode cX8_one 44 = .ok (.iconst 0, 1) := by decide +kernel
theorem dX8_one_45 : decode cX8_one 45 = .ok (.istore_n 3, 1) := by decide +kernel
theorem dX8_one_46 : decode cX8_one 46 = .ok (.iload_n 3, 1) := by decide +kernel
theorem dX8_one_47 : decode cX8_one 47 = .ok (.iconst 4, 1) := by decide +kernel
theorem dX8_one_48 : decode cX8_one 48 = .ok (.if_icmp .ge 46, 3) := by decide +kernel
theorem dX8_one_51 : decode cX8_one 51 = .ok (.aload_n 0, 1) := by decide +kernel
theorem dX8_one_52 : decode cX8_one 52 = .ok (.invokevirtual 71, 3) := by decide +kernel
theorem dX8_one_55 : decode cX8_one 55 = .ok (.bipush 48, 2) := by decide +kernel
theorem dX8_one_57 : decode cX8_one 57 = .ok (.bipush 57, 2) := by decide +kernel
theorem dX8_one_59 : decode cX8_one 59 = .ok (.invokestatic 47, 3) := by decide +kernel
theorem dX8_one_62 : decode cX8_one 62 = .ok (.ifCond .eq 32, 3) := by decide +kernel
theorem dX8_one_65 : decode cX8_one 65 = .ok (.bipush 10, 2) := by decide +kernel
theorem dX8_one_67 : decode cX8_one 67 = .ok (.iload_n 2, 1) := by decide +kernel
theorem dX8_one_68 : decode cX8_one 68 = .ok (.imul, 1) := by decide +kernel
theorem dX8_one_69 : decode cX8_one 69 = .ok (.aload_n 0, 1) := by decide +kernel
theorem dX8_one_70 : decode cX8_one 70 = .ok (.invokevirtual 71, 3) := by decide +kernel
theorem dX8_one_73 : decode cX8_one 73 = .ok (.iadd, 1) := by decide +kernel
theorem dX8_one_74 : decode cX8_one 74 = .ok (.bipush 48, 2) := by decide +kernel
theorem dX8_one_76 : decode cX8_one 76 = .ok (.isub, 1) := by decide +kernel
theorem dX8_one_77 : decode cX8_one 77 = .ok (.istore_n 2, 1) := by decide +kernel
theorem dX8_one_78 : decode cX8_one 78 = .ok (.aload_n 0, 1) := by decide +kernel
theorem dX8_one_79 : decode cX8_one 79 = .ok (.dup, 1) := by decide +kernel
theorem dX8_one_80 : decode cX8_one 80 = .ok (.getfield 57, 3) := by decide +kernel
theorem dX8_one_83 : decode cX8_one 83 = .ok (.iconst 1, 1) := by decide +kernel
theorem dX8_one_84 : decode cX8_one 84 = .ok (.iadd, 1) := by decide +kernel
theorem dX8_one_85 : decode cX8_one 85 = .ok (.putfield 57, 3) := by decide +kernel
theorem dX8_one_88 : decode cX8_one 88 = .ok (.iinc 3 1, 3) := by decide +kernel
theorem dX8_one_91 : decode cX8_one 91 = .ok (.goto (-45), 3) := by decide +kernel
theorem dX8_one_94 : decode cX8_one 94 = .ok (.aload_n 0, 1) := by decide +kernel
theorem dX8_one_95 : decode cX8_one 95 = .ok (.iconst 0, 1) := by decide +kernel
theorem dX8_one_96 : decode cX8_one 96 = .ok (.iload_n 2, 1) := by decide +kernel
theorem dX8_one_97 : decode cX8_one 97 = .ok (.invokevirtual 75, 3) := by decide +kernel
theorem dX8_one_100 : decode cX8_one 100 = .ok (.iconst 1, 1) := by decide +kernel
theorem dX8_one_101 : decode cX8_one 101 = .ok (.ireturn, 1) := by decide +kernel
theorem dX8_one_102 : decode cX8_one 102 = .ok (.iload_n 1, 1) := by decide +kernel
theorem dX8_one_103 : decode cX8_one 103 = .ok (.bipush 33, 2) := by decide +kernel
theorem dX8_one_105 : decode cX8_one 105 = .ok (.if_icmp .ne 37, 3) := by decide +kernel
theorem dX8_one_108 : decode cX8_one 108 = .ok (.aload_n 0, 1) := by decide +kernel
theorem dX8_one_109 : decode cX8_one 109 = .ok (.invokevirtual 98, 3) := by decide +kernel
theorem dX8_one_112 : decode cX8_one 112 = .ok (.ifCond .eq 10, 3) := by decide +kernel
theorem dX8_one_115 : decode cX8_one 115 = .ok (.aload_n 0, 1) := by decide +kernel
theorem dX8_one_116 : decode cX8_one 116 = .ok (.invokevirtual 88, 3) := by decide +kernel
theorem dX8_one_119 : decode cX8_one 119 = .ok (.ifCond .ne 5, 3) := by decide +kernel
theorem dX8_one_122 : decode cX8_one 122 = .ok (.iconst 0, 1) := by decide +kernel
theorem dX8_one_123 : decode cX8_one 123 = .ok (.ireturn, 1) := by decide +kernel
theorem dX8_one_124 : decode cX8_one 124 = .ok (.aload_n 0, 1) := by decide +kernel
theorem dX8_one_125 : decode cX8_one 125 = .ok (.dup, 1) := by decide +kernel
theorem dX8_one_126 : decode cX8_one 126 = .ok (.getfield 91, 3) := by decide +kernel
theorem dX8_one_129 : decode cX8_one 129 = .ok (.iconst 1, 1) := by decide +kernel
theorem dX8_one_130 : decode cX8_one 130 = .ok (.isub, 1) := by decide +kernel
theorem dX8_one_131 : decode cX8_one 131 = .ok (.putfield 91, 3) := by decide +kernel
theorem dX8_one_134 : decode cX8_one 134 = .ok (.aload_n 0, 1) := by decide +kernel
theorem dX8_one_135 : decode cX8_one 135 = .ok (.iconst 2, 1) := by decide +kernel
theorem dX8_one_136 : decode cX8_one 136 = .ok (.iconst 0, 1) := by decide +kernel
theorem dX8_one_137 : decode cX8_one 137 = .ok (.invokevirtual 75, 3) := by decide +kernel
theorem dX8_one_140 : decode cX8_one 140 = .ok (.iconst 1, 1) := by decide +kernel
theorem dX8_one_141 : decode cX8_one 141 = .ok (.ireturn, 1) := by decide +kernel
theorem dX8_one_142 : decode cX8_one 142 = .ok (.iload_n 1, 1) := by decide +kernel
theorem dX8_one_143 : decode cX8_one 143 = .ok (.bipush 40, 2) := by decide +kernel
theorem dX8_one_145 : decode cX8_one 145 = .ok (.if_icmp .ne 26, 3) := by decide +kernel
theorem dX8_one_148 : decode cX8_one 148 = .ok (.aload_n 0, 1) := by decide +kernel
theorem dX8_one_149 : decode cX8_one 149 = .ok (.invokevirtual 98, 3) := by decide +kernel
theorem dX8_one_152 : decode cX8_one 152 = .ok (.ifCond .eq 19, 3) := by decide +kernel
theorem dX8_one_155 : decode cX8_one 155 = .ok (.aload_n 0, 1) := by decide +kernel
theorem dX8_one_156 : decode cX8_one 156 = .ok (.invokevirtual 101, 3) := by decide +kernel
theorem dX8_one_159 : decode cX8_one 159 = .ok (.ifCond .eq 12, 3) := by decide +kernel
theorem dX8_one_162 : decode cX8_one 162 = .ok (.aload_n 0, 1) := by decide +kernel
theorem dX8_one_163 : decode cX8_one 163 = .ok (.invokevirtual 71, 3) := by decide +kernel
theorem dX8_one_166 : decode cX8_one 166 = .ok (.bipush 41, 2) := by decide +kernel
theorem dX8_one_168 : decode cX8_one 168 = .ok (.if_icmp .eq 5, 3) := by decide +kernel
theorem dX8_one_171 : decode cX8_one 171 = .ok (.iconst 0, 1) := by decide +kernel
theorem dX8_one_172 : decode cX8_one 172 = .ok (.ireturn, 1) := by decide +kernel
theorem dX8_one_173 : decode cX8_one 173 = .ok (.aload_n 0, 1) := by decide +kernel
theorem dX8_one_174 : decode cX8_one 174 = .ok (.dup, 1) := by decide +kernel
theorem dX8_one_175 : decode cX8_one 175 = .ok (.getfield 57, 3) := by decide +kernel
theorem dX8_one_178 : decode cX8_one 178 = .ok (.iconst 1, 1) := by decide +kernel
theorem dX8_one_179 : decode cX8_one 179 = .ok (.iadd, 1) := by decide +kernel
theorem dX8_one_180 : decode cX8_one 180 = .ok (.putfield 57, 3) := by decide +kernel
theorem dX8_one_183 : decode cX8_one 183 = .ok (.aload_n 0, 1) := by decide +kernel
theorem dX8_one_184 : decode cX8_one 184 = .ok (.dup, 1) := by decide +kernel
theorem dX8_one_185 : decode cX8_one 185 = .ok (.getfield 91, 3) := by decide +kernel
theorem dX8_one_188 : decode cX8_one 188 = .ok (.iconst 1, 1) := by decide +kernel
theorem dX8_one_189 : decode cX8_one 189 = .ok (.isub, 1) := by decide +kernel
theorem dX8_one_190 : decode cX8_one 190 = .ok (.putfield 91, 3) := by decide +kernel
theorem dX8_one_193 : decode cX8_one 193 = .ok (.iconst 1, 1) := by decide +kernel
theorem dX8_one_194 : decode cX8_one 194 = .ok (.ireturn, 1) := by decide +kernel
theorem dX8_hasText_0 : decode cX8_hasText 0 = .ok (.aload_n 0, 1) := by decide +kernel
theorem dX8_hasText_1 : decode cX8_hasText 1 = .ok (.getfield 7, 3) := by decide +kernel
theorem dX8_hasText_4 : decode cX8_hasText 4 = .ok (.bipush 38, 2) := by decide +kernel
theorem dX8_hasText_6 : decode cX8_hasText 6 = .ok (.bipush 125, 2) := by decide +kernel
theorem dX8_hasText_8 : decode cX8_hasText 8 = .ok (.iload_n 1, 1) := by decide +kernel
theorem dX8_hasText_9 : decode cX8_hasText 9 = .ok (.imul, 1) := by decide +kernel
theorem dX8_hasText_10 : decode cX8_hasText 10 = .ok (.iadd, 1) := by decide +kernel
theorem dX8_hasText_11 : decode cX8_hasText 11 = .ok (.iaload, 1) := by decide +kernel
theorem dX8_hasText_12 : decode cX8_hasText 12 = .ok (.ifCond .le 7, 3) := by decide +kernel
theorem dX8_hasText_15 : decode cX8_hasText 15 = .ok (.iconst 1, 1) := by decide +kernel
theorem dX8_hasText_16 : decode cX8_hasText 16 = .ok (.goto 4, 3) := by decide +kernel
theorem dX8_hasText_19 : decode cX8_hasText 19 = .ok (.iconst 0, 1) := by decide +kernel
theorem dX8_hasText_20 : decode cX8_hasText 20 = .ok (.ireturn, 1) := by decide +kernel
theorem dX8_text_0 : decode cX8_text 0 = .ok (.iload_n 1, 1) := by decide +kernel
theorem dX8_text_1 : decode cX8_text 1 = .ok (.iconst 0, 1) := by decide +kernel
theorem dX8_text_2 : decode cX8_text 2 = .ok (.iconst 1, 1) := by decide +kernel
theorem dX8_text_3 : decode cX8_text 3 = .ok (.invokestatic 47, 3) := by decide +kernel
theorem dX8_text_6 : decode cX8_text 6 = .ok (.ifCond .ne 9, 3) := by decide +kernel
theorem dX8_text_9 : decode cX8_text 9 = .ok (.aload_n 0, 1) := by decide +kernel
theorem dX8_text_10 : decode cX8_text 10 = .ok (.iconst 1, 1) := by decide +kernel
theorem dX8_text_11 : decode cX8_text 11 = .ok (.invokevirtual 51, 3) := by decide +kernel
theorem dX8_text_14 : decode cX8_text 14 = .ok (.ireturn, 1) := by decide +kernel
theorem dX8_text_15 : decode cX8_text 15 = .ok (.aload_n 0, 1) := by decide +kernel
theorem dX8_text_16 : decode cX8_text 16 = .ok (.iload_n 1, 1) := by decide +kernel
theorem dX8_text_17 : decode cX8_text 17 = .ok (.putfield 61, 3) := by decide +kernel
theorem dX8_text_20 : decode cX8_text 20 = .ok (.aload_n 0, 1) := by decide +kernel
theorem dX8_text_21 : decode cX8_text 21 = .ok (.iconst 0, 1) := by decide +kernel
theorem dX8_text_22 : decode cX8_text 22 = .ok (.putfield 57, 3) := by decide +kernel
theorem dX8_text_25 : decode cX8_text 25 = .ok (.aload_n 0, 1) := by decide +kernel
theorem dX8_text_26 : decode cX8_text 26 = .ok (.iconst 0, 1) := by decide +kernel
theorem dX8_text_27 : decode cX8_text 27 = .ok (.putfield 91, 3) := by decide +kernel
theorem dX8_text_30 : decode cX8_text 30 = .ok (.aload_n 0, 1) := by decide +kernel
theorem dX8_text_31 : decode cX8_text 31 = .ok (.iconst 0, 1) := by decide +kernel
theorem dX8_text_32 : decode cX8_text 32 = .ok (.putfield 64, 3) := by decide +kernel
theorem dX8_text_35 : decode cX8_text 35 = .ok (.aload_n 0, 1) := by decide +kernel
theorem dX8_text_36 : decode cX8_text 36 = .ok (.invokevirtual 101, 3) := by decide +kernel
theorem dX8_text_39 : decode cX8_text 39 = .ok (.ifCond .eq 20, 3) := by decide +kernel
theorem dX8_text_42 : decode cX8_text 42 = .ok (.aload_n 0, 1) := by decide +kernel
theorem dX8_text_43 : decode cX8_text 43 = .ok (.getfield 57, 3) := by decide +kernel
theorem dX8_text_46 : decode cX8_text 46 = .ok (.aload_n 0, 1) := by decide +kernel
theorem dX8_text_47 : decode cX8_text 47 = .ok (.getfield 7, 3) := by decide +kernel
theorem dX8_text_50 : decode cX8_text 50 = .ok (.iconst 3, 1) := by decide +kernel
theorem dX8_text_51 : decode cX8_text 51 = .ok (.iaload, 1) := by decide +kernel
theorem dX8_text_52 : decode cX8_text 52 = .ok (.if_icmp .ne 7, 3) := by decide +kernel
theorem dX8_text_55 : decode cX8_text 55 = .ok (.iconst 1, 1) := by decide +kernel
theorem dX8_text_56 : decode cX8_text 56 = .ok (.goto 4, 3) := by decide +kernel
theorem dX8_text_59 : decode cX8_text 59 = .ok (.iconst 0, 1) := by decide +kernel
theorem dX8_text_60 : decode cX8_text 60 = .ok (.istore_n 2, 1) := by decide +kernel
theorem dX8_text_61 : decode cX8_text 61 = .ok (.aload_n 0, 1) := by decide +kernel
theorem dX8_text_62 : decode cX8_text 62 = .ok (.getfield 7, 3) := by decide +kernel
theorem dX8_text_65 : decode cX8_text 65 = .ok (.iconst 3, 1) := by decide +kernel
theorem dX8_text_66 : decode cX8_text 66 = .ok (.iconst 0, 1) := by decide +kernel
theorem dX8_text_67 : decode cX8_text 67 = .ok (.iastore, 1) := by decide +kernel
theorem dX8_text_68 : decode cX8_text 68 = .ok (.iload_n 2, 1) := by decide +kernel
theorem dX8_text_69 : decode cX8_text 69 = .ok (.ifCond .ne 11, 3) := by decide +kernel
theorem dX8_text_72 : decode cX8_text 72 = .ok (.bipush (-10), 2) := by decide +kernel
theorem dX8_text_74 : decode cX8_text 74 = .ok (.aload_n 0, 1) := by decide +kernel
theorem dX8_text_75 : decode cX8_text 75 = .ok (.getfield 57, 3) := by decide +kernel
theorem dX8_text_78 : decode cX8_text 78 = .ok (.isub, 1) := by decide +kernel
theorem dX8_text_79 : decode cX8_text 79 = .ok (.ireturn, 1) := by decide +kernel
theorem dX8_text_80 : decode cX8_text 80 = .ok (.bipush 38, 2) := by decide +kernel
theorem dX8_text_82 : decode cX8_text 82 = .ok (.bipush 125, 2) := by decide +kernel
theorem dX8_text_84 : decode cX8_text 84 = .ok (.iload_n 1, 1) := by decide +kernel
theorem dX8_text_85 : decode cX8_text 85 = .ok (.imul, 1) := by decide +kernel
theorem dX8_text_86 : decode cX8_text 86 = .ok (.iadd, 1) := by decide +kernel
theorem dX8_text_87 : decode cX8_text 87 = .ok (.istore_n 3, 1) := by decide +kernel
theorem dX8_text_88 : decode cX8_text 88 = .ok (.aload_n 0, 1) := by decide +kernel
theorem dX8_text_89 : decode cX8_text 89 = .ok (.getfield 7, 3) := by decide +kernel
theorem dX8_text_92 : decode cX8_text 92 = .ok (.iload_n 3, 1) := by decide +kernel
theorem dX8_text_93 : decode cX8_text 93 = .ok (.aload_n 0, 1) := by decide +kernel
theorem dX8_text_94 : decode cX8_text 94 = .ok (.getfield 64, 3) := by decide +kernel
theorem dX8_text_97 : decode cX8_text 97 = .ok (.iastore, 1) := by decide +kernel
theorem dX8_text_98 : decode cX8_text 98 = .ok (.iconst 0, 1) := by decide +kernel
theorem dX8_text_99 : decode cX8_text 99 = .ok (.istore 4, 2) := by decide +kernel
theorem dX8_text_101 : decode cX8_text 101 = .ok (.iload 4, 2) := by decide +kernel
theorem dX8_text_103 : decode cX8_text 103 = .ok (.iconst 2, 1) := by decide +kernel
theorem dX8_text_104 : decode cX8_text 104 = .ok (.aload_n 0, 1) := by decide +kernel
theorem dX8_text_105 : decode cX8_text 105 = .ok (.getfield 64, 3) := by decide +kernel
theorem dX8_text_108 : decode cX8_text 108 = .ok (.imul, 1) := by decide +kernel
theorem dX8_text_109 : decode cX8_text 109 = .ok (.if_icmp .ge 27, 3) := by decide +kernel
theorem dX8_text_112 : decode cX8_text 112 = .ok (.aload_n 0, 1) := by decide +kernel
theorem dX8_text_113 : decode cX8_text 113 = .ok (.getfield 7, 3) := by decide +kernel
theorem dX8_text_116 : decode cX8_text 116 = .ok (.iload_n 3, 1) := by decide +kernel
theorem dX8_text_117 : decode cX8_text 117 = .ok (.iconst 1, 1) := by decide +kernel
theorem dX8_text_118 : decode cX8_text 118 = .ok (.iadd, 1) := by decide +kernel
theorem dX8_text_119 : decode cX8_text 119 = .ok (.iload 4, 2) := by decide +kernel
theorem dX8_text_121 : decode cX8_text 121 = .ok (.iadd, 1) := by decide +kernel
theorem dX8_text_122 : decode cX8_text 122 = .ok (.aload_n 0, 1) := by decide +kernel
theorem dX8_text_123 : decode cX8_text 123 = .ok (.getfield 22, 3) := by decide +kernel
theorem dX8_text_126 : decode cX8_text 126 = .ok (.iload 4, 2) := by decide +kernel
theorem dX8_text_128 : decode cX8_text 128 = .ok (.iaload, 1) := by decide +kernel
theorem dX8_text_129 : decode cX8_text 129 = .ok (.iastore, 1) := by decide +kernel
theorem dX8_text_130 : decode cX8_text 130 = .ok (.iinc 4 1, 3) := by decide +kernel
theorem dX8_text_133 : decode cX8_text 133 = .ok (.goto (-32), 3) := by decide +kernel
theorem dX8_text_136 : decode cX8_text 136 = .ok (.iconst 1, 1) := by decide +kernel
theorem dX8_text_137 : decode cX8_text 137 = .ok (.ireturn, 1) := by decide +kernel
theorem dX8_untell_0 : decode cX8_untell 0 = .ok (.iload_n 1, 1) := by decide +kernel
theorem dX8_untell_1 : decode cX8_untell 1 = .ok (.iconst 0, 1) := by decide +kernel
theorem dX8_untell_2 : decode cX8_untell 2 = .ok (.iconst 1, 1) := by decide +kernel
theorem dX8_untell_3 : decode cX8_untell 3 = .ok (.invokestatic 47, 3) := by decide +kernel
theorem dX8_untell_6 : decode cX8_untell 6 = .ok (.ifCond .ne 9, 3) := by decide +kernel
theorem dX8_untell_9 : decode cX8_untell 9 = .ok (.aload_n 0, 1) := by decide +kernel
theorem dX8_untell_10 : decode cX8_untell 10 = .ok (.iconst 1, 1) := by decide +kernel
theorem dX8_untell_11 : decode cX8_untell 11 = .ok (.invokevirtual 51, 3) := by decide +kernel
theorem dX8_untell_14 : decode cX8_untell 14 = .ok (.ireturn, 1) := by decide +kernel
theorem dX8_untell_15 : decode cX8_untell 15 = .ok (.aload_n 0, 1) := by decide +kernel
theorem dX8_untell_16 : decode cX8_untell 16 = .ok (.iload_n 1, 1) := by decide +kernel
theorem dX8_untell_17 : decode cX8_untell 17 = .ok (.invokevirtual 104, 3) := by decide +kernel
theorem dX8_untell_20 : decode cX8_untell 20 = .ok (.ifCond .eq 7, 3) := by decide +kernel
theorem dX8_untell_23 : decode cX8_untell 23 = .ok (.iconst 1, 1) := by decide +kernel
theorem dX8_untell_24 : decode cX8_untell 24 = .ok (.goto 4, 3) := by decide +kernel
theorem dX8_untell_27 : decode cX8_untell 27 = .ok (.iconst 0, 1) := by decide +kernel
theorem dX8_untell_28 : decode cX8_untell 28 = .ok (.istore_n 2, 1) := by decide +kernel
theorem dX8_untell_29 : decode cX8_untell 29 = .ok (.aload_n 0, 1) := by decide +kernel
theorem dX8_untell_30 : decode cX8_untell 30 = .ok (.getfield 7, 3) := by decide +kernel
theorem dX8_untell_33 : decode cX8_untell 33 = .ok (.bipush 38, 2) := by decide +kernel
theorem dX8_untell_35 : decode cX8_untell 35 = .ok (.bipush 125, 2) := by decide +kernel
theorem dX8_untell_37 : decode cX8_untell 37 = .ok (.iload_n 1, 1) := by decide +kernel
theorem dX8_untell_38 : decode cX8_untell 38 = .ok (.imul, 1) := by decide +kernel
theorem dX8_untell_39 : decode cX8_untell 39 = .ok (.iadd, 1) := by decide +kernel
theorem dX8_untell_40 : decode cX8_untell 40 = .ok (.iconst 0, 1) := by decide +kernel
theorem dX8_untell_41 : decode cX8_untell 41 = .ok (.iastore, 1) := by decide +kernel
theorem dX8_untell_42 : decode cX8_untell 42 = .ok (.iload_n 2, 1) := by decide +kernel
theorem dX8_untell_43 : decode cX8_untell 43 = .ok (.ireturn, 1) := by decide +kernel
theorem dX8_joined_0 : decode cX8_joined 0 = .ok (.iload_n 0, 1) := by decide +kernel
theorem dX8_joined_1 : decode cX8_joined 1 = .ok (.tableswitch 217 37 62 #[153, 203, 217, 217, 217, 127, 119, 217, 123, 217, 131, 217, 217, 217, 217, 217, 217, 217, 217, 217, 217, 217, 217, 170, 192, 181], 119) := by decide +kernel
theorem dX8_joined_120 : decode cX8_joined 120 = .ok (.iload_n 1, 1) := by decide +kernel
theorem dX8_joined_121 : decode cX8_joined 121 = .ok (.iload_n 2, 1) := by decide +kernel
theorem dX8_joined_122 : decode cX8_joined 122 = .ok (.iadd, 1) := by decide +kernel
theorem dX8_joined_123 : decode cX8_joined 123 = .ok (.ireturn, 1) := by decide +kernel
theorem dX8_joined_124 : decode cX8_joined 124 = .ok (.iload_n 1, 1) := by decide +kernel
theorem dX8_joined_125 : decode cX8_joined 125 = .ok (.iload_n 2, 1) := by decide +kernel
theorem dX8_joined_126 : decode cX8_joined 126 = .ok (.isub, 1) := by decide +kernel
theorem dX8_joined_127 : decode cX8_joined 127 = .ok (.ireturn, 1) := by decide +kernel
theorem dX8_joined_128 : decode cX8_joined 128 = .ok (.iload_n 1, 1) := by decide +kernel
theorem dX8_joined_129 : decode cX8_joined 129 = .ok (.iload_n 2, 1) := by decide +kernel
theorem dX8_joined_130 : decode cX8_joined 130 = .ok (.imul, 1) := by decide +kernel
theorem dX8_joined_131 : decode cX8_joined 131 = .ok (.ireturn, 1) := by decide +kernel
theorem dX8_joined_132 : decode cX8_joined 132 = .ok (.iload_n 2, 1) := by decide +kernel
theorem dX8_joined_133 : decode cX8_joined 133 = .ok (.ifCond .ne 7, 3) := by decide +kernel
theorem dX8_joined_136 : decode cX8_joined 136 = .ok (.iconst 0, 1) := by decide +kernel
theorem dX8_joined_137 : decode cX8_joined 137 = .ok (.goto 16, 3) := by decide +kernel
theorem dX8_joined_140 : decode cX8_joined 140 = .ok (.iload_n 2, 1) := by decide +kernel
theorem dX8_joined_141 : decode cX8_joined 141 = .ok (.iconst (-1), 1) := by decide +kernel
theorem dX8_joined_142 : decode cX8_joined 142 = .ok (.if_icmp .ne 8, 3) := by decide +kernel
theorem dX8_joined_145 : decode cX8_joined 145 = .ok (.iload_n 1, 1) := by decide +kernel
theorem dX8_joined_146 : decode cX8_joined 146 = .ok (.ineg, 1) := by decide +kernel
theorem dX8_joined_147 : decode cX8_joined 147 = .ok (.goto 6, 3) := by decide +kernel
theorem dX8_joined_150 : decode cX8_joined 150 = .ok (.iload_n 1, 1) := by decide +kernel
theorem dX8_joined_151 : decode cX8_joined 151 = .ok (.iload_n 2, 1) := by decide +kernel
theorem dX8_joined_152 : decode cX8_joined 152 = .ok (.idiv, 1) := by decide +kernel
theorem dX8_joined_153 : decode cX8_joined 153 = .ok (.ireturn, 1) := by decide +kernel
theorem dX8_joined_154 : decode cX8_joined 154 = .ok (.iload_n 2, 1) := by decide +kernel
theorem dX8_joined_155 : decode cX8_joined 155 = .ok (.ifCond .eq 8, 3) := by decide +kernel
theorem dX8_joined_158 : decode cX8_joined 158 = .ok (.iload_n 2, 1) := by decide +kernel
theorem dX8_joined_159 : decode cX8_joined 159 = .ok (.iconst (-1), 1) := by decide +kernel
theorem dX8_joined_160 : decode cX8_joined 160 = .ok (.if_icmp .ne 7, 3) := by decide +kernel
theorem dX8_joined_163 : decode cX8_joined 163 = .ok (.iconst 0, 1) := by decide +kernel
theorem dX8_joined_164 : decode cX8_joined 164 = .ok (.goto 6, 3) := by decide +kernel
theorem dX8_joined_167 : decode cX8_joined 167 = .ok (.iload_n 1, 1) := by decide +kernel
theorem dX8_joined_168 : decode cX8_joined 168 = .ok (.iload_n 2, 1) := by decide +kernel
theorem dX8_joined_169 : decode cX8_joined 169 = .ok (.irem, 1) := by decide +kernel
theorem dX8_joined_170 : decode cX8_joined 170 = .ok (.ireturn, 1) := by decide +kernel
theorem dX8_joined_171 : decode cX8_joined 171 = .ok (.iload_n 1, 1) := by decide +kernel
theorem dX8_joined_172 : decode cX8_joined 172 = .ok (.iload_n 2, 1) := by decide +kernel
theorem dX8_joined_173 : decode cX8_joined 173 = .ok (.if_icmp .ge 7, 3) := by decide +kernel
theorem dX8_joined_176 : decode cX8_joined 176 = .ok (.iconst 1, 1) := by decide +kernel
theorem dX8_joined_177 : decode cX8_joined 177 = .ok (.goto 4, 3) := by decide +kernel
theorem dX8_joined_180 : decode cX8_joined 180 = .ok (.iconst 0, 1) := by decide +kernel
theorem dX8_joined_181 : decode cX8_joined 181 = .ok (.ireturn, 1) := by decide +kernel
theorem dX8_joined_182 : decode cX8_joined 182 = .ok (.iload_n 1, 1) := by decide +kernel
theorem dX8_joined_183 : decode cX8_joined 183 = .ok (.iload_n 2, 1) := by decide +kernel
theorem dX8_joined_184 : decode cX8_joined 184 = .ok (.if_icmp .le 7, 3) := by decide +kernel
theorem dX8_joined_187 : decode cX8_joined 187 = .ok (.iconst 1, 1) := by decide +kernel
theorem dX8_joined_188 : decode cX8_joined 188 = .ok (.goto 4, 3) := by decide +kernel
theorem dX8_joined_191 : decode cX8_joined 191 = .ok (.iconst 0, 1) := by decide +kernel
theorem dX8_joined_192 : decode cX8_joined 192 = .ok (.ireturn, 1) := by decide +kernel
theorem dX8_joined_193 : decode cX8_joined 193 = .ok (.iload_n 1, 1) := by decide +kernel
theorem dX8_joined_194 : decode cX8_joined 194 = .ok (.iload_n 2, 1) := by decide +kernel
theorem dX8_joined_195 : decode cX8_joined 195 = .ok (.if_icmp .ne 7, 3) := by decide +kernel
theorem dX8_joined_198 : decode cX8_joined 198 = .ok (.iconst 1, 1) := by decide +kernel
theorem dX8_joined_199 : decode cX8_joined 199 = .ok (.goto 4, 3) := by decide +kernel
theorem dX8_joined_202 : decode cX8_joined 202 = .ok (.iconst 0, 1) := by decide +kernel
theorem dX8_joined_203 : decode cX8_joined 203 = .ok (.ireturn, 1) := by decide +kernel
theorem dX8_joined_204 : decode cX8_joined 204 = .ok (.iload_n 1, 1) := by decide +kernel
theorem dX8_joined_205 : decode cX8_joined 205 = .ok (.ifCond .eq 11, 3) := by decide +kernel
theorem dX8_joined_208 : decode cX8_joined 208 = .ok (.iload_n 2, 1) := by decide +kernel
theorem dX8_joined_209 : decode cX8_joined 209 = .ok (.ifCond .eq 7, 3) := by decide +kernel
theorem dX8_joined_212 : decode cX8_joined 212 = .ok (.iconst 1, 1) := by decide +kernel
theorem dX8_joined_213 : decode cX8_joined 213 = .ok (.goto 4, 3) := by decide +kernel
theorem dX8_joined_216 : decode cX8_joined 216 = .ok (.iconst 0, 1) := by decide +kernel
theorem dX8_joined_217 : decode cX8_joined 217 = .ok (.ireturn, 1) := by decide +kernel
theorem dX8_joined_218 : decode cX8_joined 218 = .ok (.iload_n 1, 1) := by decide +kernel
theorem dX8_joined_219 : decode cX8_joined 219 = .ok (.ifCond .ne 7, 3) := by decide +kernel
theorem dX8_joined_222 : decode cX8_joined 222 = .ok (.iload_n 2, 1) := by decide +kernel
theorem dX8_joined_223 : decode cX8_joined 223 = .ok (.ifCond .eq 7, 3) := by decide +kernel
theorem dX8_joined_226 : decode cX8_joined 226 = .ok (.iconst 1, 1) := by decide +kernel
theorem dX8_joined_227 : decode cX8_joined 227 = .ok (.goto 4, 3) := by decide +kernel
theorem dX8_joined_230 : decode cX8_joined 230 = .ok (.iconst 0, 1) := by decide +kernel
theorem dX8_joined_231 : decode cX8_joined 231 = .ok (.ireturn, 1) := by decide +kernel
theorem dX8_worked_0 : decode cX8_worked 0 = .ok (.bipush 38, 2) := by decide +kernel
theorem dX8_worked_2 : decode cX8_worked 2 = .ok (.bipush 125, 2) := by decide +kernel
theorem dX8_worked_4 : decode cX8_worked 4 = .ok (.iload_n 1, 1) := by decide +kernel
theorem dX8_worked_5 : decode cX8_worked 5 = .ok (.imul, 1) := by decide +kernel
theorem dX8_worked_6 : decode cX8_worked 6 = .ok (.iadd, 1) := by decide +kernel
theorem dX8_worked_7 : decode cX8_worked 7 = .ok (.istore_n 2, 1) := by decide +kernel
theorem dX8_worked_8 : decode cX8_worked 8 = .ok (.iconst 0, 1) := by decide +kernel
theorem dX8_worked_9 : decode cX8_worked 9 = .ok (.istore_n 3, 1) := by decide +kernel
theorem dX8_worked_10 : decode cX8_worked 10 = .ok (.iconst 0, 1) := by decide +kernel
theorem dX8_worked_11 : decode cX8_worked 11 = .ok (.istore 4, 2) := by decide +kernel
theorem dX8_worked_13 : decode cX8_worked 13 = .ok (.iload 4, 2) := by decide +kernel
theorem dX8_worked_15 : decode cX8_worked 15 = .ok (.aload_n 0, 1) := by decide +kernel
theorem dX8_worked_16 : decode cX8_worked 16 = .ok (.getfield 7, 3) := by decide +kernel
theorem dX8_worked_19 : decode cX8_worked 19 = .ok (.iload_n 2, 1) := by decide +kernel
theorem dX8_worked_20 : decode cX8_worked 20 = .ok (.iaload, 1) := by decide +kernel
theorem dX8_worked_21 : decode cX8_worked 21 = .ok (.if_icmp .ge 142, 3) := by decide +kernel
theorem dX8_worked_24 : decode cX8_worked 24 = .ok (.aload_n 0, 1) := by decide +kernel
theorem dX8_worked_25 : decode cX8_worked 25 = .ok (.getfield 7, 3) := by decide +kernel
theorem dX8_worked_28 : decode cX8_worked 28 = .ok (.iload_n 2, 1) := by decide +kernel
theorem dX8_worked_29 : decode cX8_worked 29 = .ok (.iconst 1, 1) := by decide +kernel
theorem dX8_worked_30 : decode cX8_worked 30 = .ok (.iadd, 1) := by decide +kernel
theorem dX8_worked_31 : decode cX8_worked 31 = .ok (.iconst 2, 1) := by decide +kernel
theorem dX8_worked_32 : decode cX8_worked 32 = .ok (.iload 4, 2) := by decide +kernel
theorem dX8_worked_34 : decode cX8_worked 34 = .ok (.imul, 1) := by decide +kernel
theorem dX8_worked_35 : decode cX8_worked 35 = .ok (.iadd, 1) := by decide +kernel
theorem dX8_worked_36 : decode cX8_worked 36 = .ok (.iaload, 1) := by decide +kernel
theorem dX8_worked_37 : decode cX8_worked 37 = .ok (.istore 5, 2) := by decide +kernel
theorem dX8_worked_39 : decode cX8_worked 39 = .ok (.aload_n 0, 1) := by decide +kernel
theorem dX8_worked_40 : decode cX8_worked 40 = .ok (.getfield 7, 3) := by decide +kernel
theorem dX8_worked_43 : decode cX8_worked 43 = .ok (.iload_n 2, 1) := by decide +kernel
theorem dX8_worked_44 : decode cX8_worked 44 = .ok (.iconst 2, 1) := by decide +kernel
theorem dX8_worked_45 : decode cX8_worked 45 = .ok (.iadd, 1) := by decide +kernel
theorem dX8_worked_46 : decode cX8_worked 46 = .ok (.iconst 2, 1) := by decide +kernel
theorem dX8_worked_47 : decode cX8_worked 47 = .ok (.iload 4, 2) := by decide +kernel
theorem dX8_worked_49 : decode cX8_worked 49 = .ok (.imul, 1) := by decide +kernel
theorem dX8_worked_50 : decode cX8_worked 50 = .ok (.iadd, 1) := by decide +kernel
theorem dX8_worked_51 : decode cX8_worked 51 = .ok (.iaload, 1) := by decide +kernel
theorem dX8_worked_52 : decode cX8_worked 52 = .ok (.istore 6, 2) := by decide +kernel
theorem dX8_worked_54 : decode cX8_worked 54 = .ok (.iload 5, 2) := by decide +kernel
theorem dX8_worked_56 : decode cX8_worked 56 = .ok (.ifCond .eq 9, 3) := by decide +kernel
theorem dX8_worked_59 : decode cX8_worked 59 = .ok (.iload 5, 2) := by decide +kernel
theorem dX8_worked_61 : decode cX8_worked 61 = .ok (.iconst 1, 1) := by decide +kernel
theorem dX8_worked_62 : decode cX8_worked 62 = .ok (.if_icmp .ne 32, 3) := by decide +kernel
theorem dX8_worked_65 : decode cX8_worked 65 = .ok (.aload_n 0, 1) := by decide +kernel
theorem dX8_worked_66 : decode cX8_worked 66 = .ok (.getfield 28, 3) := by decide +kernel
theorem dX8_worked_69 : decode cX8_worked 69 = .ok (.iload_n 3, 1) := by decide +kernel
theorem dX8_worked_70 : decode cX8_worked 70 = .ok (.iload 5, 2) := by decide +kernel
theorem dX8_worked_72 : decode cX8_worked 72 = .ok (.ifCond .ne 8, 3) := by decide +kernel
theorem dX8_worked_75 : decode cX8_worked 75 = .ok (.iload 6, 2) := by decide +kernel
theorem dX8_worked_77 : decode cX8_worked 77 = .ok (.goto 10, 3) := by decide +kernel
theorem dX8_worked_80 : decode cX8_worked 80 = .ok (.aload_n 0, 1) := by decide +kernel
theorem dX8_worked_81 : decode cX8_worked 81 = .ok (.getfield 25, 3) := by decide +kernel
theorem dX8_worked_84 : decode cX8_worked 84 = .ok (.iload 6, 2) := by decide +kernel
theorem dX8_worked_86 : decode cX8_worked 86 = .ok (.iaload, 1) := by decide +kernel
theorem dX8_worked_87 : decode cX8_worked 87 = .ok (.iastore, 1) := by decide +kernel
theorem dX8_worked_88 : decode cX8_worked 88 = .ok (.iinc 3 1, 3) := by decide +kernel
theorem dX8_worked_91 : decode cX8_worked 91 = .ok (.goto 66, 3) := by decide +kernel
theorem dX8_worked_94 : decode cX8_worked 94 = .ok (.iload 5, 2) := by decide +kernel
theorem dX8_worked_96 : decode cX8_worked 96 = .ok (.iconst 2, 1) := by decide +kernel
theorem dX8_worked_97 : decode cX8_worked 97 = .ok (.if_icmp .ne 30, 3) := by decide +kernel
theorem dX8_worked_100 : decode cX8_worked 100 = .ok (.aload_n 0, 1) := by decide +kernel
theorem dX8_worked_101 : decode cX8_worked 101 = .ok (.getfield 28, 3) := by decide +kernel
theorem dX8_worked_104 : decode cX8_worked 104 = .ok (.iload_n 3, 1) := by decide +kernel
theorem dX8_worked_105 : decode cX8_worked 105 = .ok (.iconst 1, 1) := by decide +kernel
theorem dX8_worked_106 : decode cX8_worked 106 = .ok (.isub, 1) := by decide +kernel
theorem dX8_worked_107 : decode cX8_worked 107 = .ok (.aload_n 0, 1) := by decide +kernel
theorem dX8_worked_108 : decode cX8_worked 108 = .ok (.getfield 28, 3) := by decide +kernel
theorem dX8_worked_111 : decode cX8_worked 111 = .ok (.iload_n 3, 1) := by decide +kernel
theorem dX8_worked_112 : decode cX8_worked 112 = .ok (.iconst 1, 1) := by decide +kernel
theorem dX8_worked_113 : decode cX8_worked 113 = .ok (.isub, 1) := by decide +kernel
theorem dX8_worked_114 : decode cX8_worked 114 = .ok (.iaload, 1) := by decide +kernel
theorem dX8_worked_115 : decode cX8_worked 115 = .ok (.ifCond .ne 7, 3) := by decide +kernel
theorem dX8_worked_118 : decode cX8_worked 118 = .ok (.iconst 1, 1) := by decide +kernel
theorem dX8_worked_119 : decode cX8_worked 119 = .ok (.goto 4, 3) := by decide +kernel
theorem dX8_worked_122 : decode cX8_worked 122 = .ok (.iconst 0, 1) := by decide +kernel
theorem dX8_worked_123 : decode cX8_worked 123 = .ok (.iastore, 1) := by decide +kernel
theorem dX8_worked_124 : decode cX8_worked 124 = .ok (.goto 33, 3) := by decide +kernel
theorem dX8_worked_127 : decode cX8_worked 127 = .ok (.iinc 3 (-1), 3) := by decide +kernel
theorem dX8_worked_130 : decode cX8_worked 130 = .ok (.aload_n 0, 1) := by decide +kernel
theorem dX8_worked_131 : decode cX8_worked 131 = .ok (.getfield 28, 3) := by decide +kernel
theorem dX8_worked_134 : decode cX8_worked 134 = .ok (.iload_n 3, 1) := by decide +kernel
theorem dX8_worked_135 : decode cX8_worked 135 = .ok (.iconst 1, 1) := by decide +kernel
theorem dX8_worked_136 : decode cX8_worked 136 = .ok (.isub, 1) := by decide +kernel
theorem dX8_worked_137 : decode cX8_worked 137 = .ok (.iload 6, 2) := by decide +kernel
theorem dX8_worked_139 : decode cX8_worked 139 = .ok (.aload_n 0, 1) := by decide +kernel
theorem dX8_worked_140 : decode cX8_worked 140 = .ok (.getfield 28, 3) := by decide +kernel
theorem dX8_worked_143 : decode cX8_worked 143 = .ok (.iload_n 3, 1) := by decide +kernel
theorem dX8_worked_144 : decode cX8_worked 144 = .ok (.iconst 1, 1) := by decide +kernel
theorem dX8_worked_145 : decode cX8_worked 145 = .ok (.isub, 1) := by decide +kernel
theorem dX8_worked_146 : decode cX8_worked 146 = .ok (.iaload, 1) := by decide +kernel
theorem dX8_worked_147 : decode cX8_worked 147 = .ok (.aload_n 0, 1) := by decide +kernel
theorem dX8_worked_148 : decode cX8_worked 148 = .ok (.getfield 28, 3) := by decide +kernel
theorem dX8_worked_151 : decode cX8_worked 151 = .ok (.iload_n 3, 1) := by decide +kernel
theorem dX8_worked_152 : decode cX8_worked 152 = .ok (.iaload, 1) := by decide +kernel
theorem dX8_worked_153 : decode cX8_worked 153 = .ok (.invokestatic 107, 3) := by decide +kernel
theorem dX8_worked_156 : decode cX8_worked 156 = .ok (.iastore, 1) := by decide +kernel
theorem dX8_worked_157 : decode cX8_worked 157 = .ok (.iinc 4 1, 3) := by decide +kernel
theorem dX8_worked_160 : decode cX8_worked 160 = .ok (.goto (-147), 3) := by decide +kernel
theorem dX8_worked_163 : decode cX8_worked 163 = .ok (.aload_n 0, 1) := by decide +kernel
theorem dX8_worked_164 : decode cX8_worked 164 = .ok (.getfield 28, 3) := by decide +kernel
theorem dX8_worked_167 : decode cX8_worked 167 = .ok (.iconst 0, 1) := by decide +kernel
theorem dX8_worked_168 : decode cX8_worked 168 = .ok (.iaload, 1) := by decide +kernel
theorem dX8_worked_169 : decode cX8_worked 169 = .ok (.ireturn, 1) := by decide +kernel
theorem dX8_together_0 : decode cX8_together 0 = .ok (.iconst 0, 1) := by decide +kernel
theorem dX8_together_1 : decode cX8_together 1 = .ok (.istore_n 2, 1) := by decide +kernel
theorem dX8_together_2 : decode cX8_together 2 = .ok (.iconst 0, 1) := by decide +kernel
theorem dX8_together_3 : decode cX8_together 3 = .ok (.istore_n 3, 1) := by decide +kernel
theorem dX8_together_4 : decode cX8_together 4 = .ok (.iload_n 3, 1) := by decide +kernel
theorem dX8_together_5 : decode cX8_together 5 = .ok (.aload_n 0, 1) := by decide +kernel
theorem dX8_together_6 : decode cX8_together 6 = .ok (.getfield 7, 3) := by decide +kernel
theorem dX8_together_9 : decode cX8_together 9 = .ok (.iconst 5, 1) := by decide +kernel
theorem dX8_together_10 : decode cX8_together 10 = .ok (.iaload, 1) := by decide +kernel
theorem dX8_together_11 : decode cX8_together 11 = .ok (.if_icmp .ge 46, 3) := by decide +kernel
theorem dX8_together_14 : decode cX8_together 14 = .ok (.iload_n 2, 1) := by decide +kernel
theorem dX8_together_15 : decode cX8_together 15 = .ok (.iload_n 3, 1) := by decide +kernel
theorem dX8_together_16 : decode cX8_together 16 = .ok (.iload_n 1, 1) := by decide +kernel
theorem dX8_together_17 : decode cX8_together 17 = .ok (.if_icmp .eq 31, 3) := by decide +kernel
theorem dX8_together_20 : decode cX8_together 20 = .ok (.aload_n 0, 1) := by decide +kernel
theorem dX8_together_21 : decode cX8_together 21 = .ok (.iload_n 3, 1) := by decide +kernel
theorem dX8_together_22 : decode cX8_together 22 = .ok (.iconst 3, 1) := by decide +kernel
theorem dX8_together_23 : decode cX8_together 23 = .ok (.invokevirtual 111, 3) := by decide +kernel
theorem dX8_together_26 : decode cX8_together 26 = .ok (.aload_n 0, 1) := by decide +kernel
theorem dX8_together_27 : decode cX8_together 27 = .ok (.iload_n 1, 1) := by decide +kernel
theorem dX8_together_28 : decode cX8_together 28 = .ok (.iconst 3, 1) := by decide +kernel
theorem dX8_together_29 : decode cX8_together 29 = .ok (.invokevirtual 111, 3) := by decide +kernel
theorem dX8_together_32 : decode cX8_together 32 = .ok (.if_icmp .ne 16, 3) := by decide +kernel
theorem dX8_together_35 : decode cX8_together 35 = .ok (.aload_n 0, 1) := by decide +kernel
theorem dX8_together_36 : decode cX8_together 36 = .ok (.iload_n 3, 1) := by decide +kernel
theorem dX8_together_37 : decode cX8_together 37 = .ok (.iconst 4, 1) := by decide +kernel
theorem dX8_together_38 : decode cX8_together 38 = .ok (.invokevirtual 111, 3) := by decide +kernel
theorem dX8_together_41 : decode cX8_together 41 = .ok (.ifCond .ne 7, 3) := by decide +kernel
theorem dX8_together_44 : decode cX8_together 44 = .ok (.iconst 1, 1) := by decide +kernel
theorem dX8_together_45 : decode cX8_together 45 = .ok (.goto 4, 3) := by decide +kernel
theorem dX8_together_48 : decode cX8_together 48 = .ok (.iconst 0, 1) := by decide +kernel
theorem dX8_together_49 : decode cX8_together 49 = .ok (.iadd, 1) := by decide +kernel
theorem dX8_together_50 : decode cX8_together 50 = .ok (.istore_n 2, 1) := by decide +kernel
theorem dX8_together_51 : decode cX8_together 51 = .ok (.iinc 3 1, 3) := by decide +kernel
theorem dX8_together_54 : decode cX8_together 54 = .ok (.goto (-50), 3) := by decide +kernel
theorem dX8_together_57 : decode cX8_together 57 = .ok (.iload_n 2, 1) := by decide +kernel
theorem dX8_together_58 : decode cX8_together 58 = .ok (.ireturn, 1) := by decide +kernel
theorem dX8_seesOf_0 : decode cX8_seesOf 0 = .ok (.aload_n 0, 1) := by decide +kernel
theorem dX8_seesOf_1 : decode cX8_seesOf 1 = .ok (.iload_n 1, 1) := by decide +kernel
theorem dX8_seesOf_2 : decode cX8_seesOf 2 = .ok (.iconst 2, 1) := by decide +kernel
theorem dX8_seesOf_3 : decode cX8_seesOf 3 = .ok (.invokevirtual 111, 3) := by decide +kernel
theorem dX8_seesOf_6 : decode cX8_seesOf 6 = .ok (.bipush 10, 2) := by decide +kernel
theorem dX8_seesOf_8 : decode cX8_seesOf 8 = .ok (.idiv, 1) := by decide +kernel
theorem dX8_seesOf_9 : decode cX8_seesOf 9 = .ok (.istore_n 2, 1) := by decide +kernel
theorem dX8_seesOf_10 : decode cX8_seesOf 10 = .ok (.aload_n 0, 1) := by decide +kernel
theorem dX8_seesOf_11 : decode cX8_seesOf 11 = .ok (.iload_n 1, 1) := by decide +kernel
theorem dX8_seesOf_12 : decode cX8_seesOf 12 = .ok (.iconst 1, 1) := by decide +kernel
theorem dX8_seesOf_13 : decode cX8_seesOf 13 = .ok (.invokevirtual 111, 3) := by decide +kernel
theorem dX8_seesOf_16 : decode cX8_seesOf 16 = .ok (.istore_n 3, 1) := by decide +kernel
theorem dX8_seesOf_17 : decode cX8_seesOf 17 = .ok (.aload_n 0, 1) := by decide +kernel
theorem dX8_seesOf_18 : decode cX8_seesOf 18 = .ok (.iload_n 1, 1) := by decide +kernel
theorem dX8_seesOf_19 : decode cX8_seesOf 19 = .ok (.iconst 0, 1) := by decide +kernel
theorem dX8_seesOf_20 : decode cX8_seesOf 20 = .ok (.invokevirtual 111, 3) := by decide +kernel
theorem dX8_seesOf_23 : decode cX8_seesOf 23 = .ok (.tableswitch 86 1 6 #[37, 41, 54, 59, 69, 75], 37) := by decide +kernel
theorem dX8_seesOf_60 : decode cX8_seesOf 60 = .ok (.iload_n 2, 1) := by decide +kernel
theorem dX8_seesOf_61 : decode cX8_seesOf 61 = .ok (.iconst 2, 1) := by decide +kernel
theorem dX8_seesOf_62 : decode cX8_seesOf 62 = .ok (.idiv, 1) := by decide +kernel
theorem dX8_seesOf_63 : decode cX8_seesOf 63 = .ok (.ireturn, 1) := by decide +kernel
theorem dX8_seesOf_64 : decode cX8_seesOf 64 = .ok (.iload_n 2, 1) := by decide +kernel
theorem dX8_seesOf_65 : decode cX8_seesOf 65 = .ok (.iconst 3, 1) := by decide +kernel
theorem dX8_seesOf_66 : decode cX8_seesOf 66 = .ok (.if_icmp .le 9, 3) := by decide +kernel
theorem dX8_seesOf_69 : decode cX8_seesOf 69 = .ok (.iload_n 2, 1) := by decide +kernel
theorem dX8_seesOf_70 : decode cX8_seesOf 70 = .ok (.iconst 3, 1) := by decide +kernel
theorem dX8_seesOf_71 : decode cX8_seesOf 71 = .ok (.isub, 1) := by decide +kernel
theorem dX8_seesOf_72 : decode cX8_seesOf 72 = .ok (.goto 4, 3) := by decide +kernel
theorem dX8_seesOf_75 : decode cX8_seesOf 75 = .ok (.iconst 0, 1) := by decide +kernel
theorem dX8_seesOf_76 : decode cX8_seesOf 76 = .ok (.ireturn, 1) := by decide +kernel
theorem dX8_seesOf_77 : decode cX8_seesOf 77 = .ok (.bipush 9, 2) := by decide +kernel
theorem dX8_seesOf_79 : decode cX8_seesOf 79 = .ok (.iload_n 3, 1) := by decide +kernel
theorem dX8_seesOf_80 : decode cX8_seesOf 80 = .ok (.iadd, 1) := by decide +kernel
theorem dX8_seesOf_81 : decode cX8_seesOf 81 = .ok (.ireturn, 1) := by decide +kernel
theorem dX8_seesOf_82 : decode cX8_seesOf 82 = .ok (.iload_n 2, 1) := by decide +kernel
theorem dX8_seesOf_83 : decode cX8_seesOf 83 = .ok (.iconst 2, 1) := by decide +kernel
theorem dX8_seesOf_84 : decode cX8_seesOf 84 = .ok (.idiv, 1) := by decide +kernel
theorem dX8_seesOf_85 : decode cX8_seesOf 85 = .ok (.aload_n 0, 1) := by decide +kernel
theorem dX8_seesOf_86 : decode cX8_seesOf 86 = .ok (.iload_n 1, 1) := by decide +kernel
theorem dX8_seesOf_87 : decode cX8_seesOf 87 = .ok (.invokevirtual 115, 3) := by decide +kernel
theorem dX8_seesOf_90 : decode cX8_seesOf 90 = .ok (.iadd, 1) := by decide +kernel
theorem dX8_seesOf_91 : decode cX8_seesOf 91 = .ok (.ireturn, 1) := by decide +kernel
theorem dX8_seesOf_92 : decode cX8_seesOf 92 = .ok (.iconst 1, 1) := by decide +kernel
theorem dX8_seesOf_93 : decode cX8_seesOf 93 = .ok (.iload_n 3, 1) := by decide +kernel
theorem dX8_seesOf_94 : decode cX8_seesOf 94 = .ok (.iconst 2, 1) := by decide +kernel
theorem dX8_seesOf_95 : decode cX8_seesOf 95 = .ok (.irem, 1) := by decide +kernel
theorem dX8_seesOf_96 : decode cX8_seesOf 96 = .ok (.iadd, 1) := by decide +kernel
theorem dX8_seesOf_97 : decode cX8_seesOf 97 = .ok (.ireturn, 1) := by decide +kernel
theorem dX8_seesOf_98 : decode cX8_seesOf 98 = .ok (.iload_n 2, 1) := by decide +kernel
theorem dX8_seesOf_99 : decode cX8_seesOf 99 = .ok (.aload_n 0, 1) := by decide +kernel
theorem dX8_seesOf_100 : decode cX8_seesOf 100 = .ok (.getfield 7, 3) := by decide +kernel
theorem dX8_seesOf_103 : decode cX8_seesOf 103 = .ok (.iconst 0, 1) := by decide +kernel
theorem dX8_seesOf_104 : decode cX8_seesOf 104 = .ok (.iaload, 1) := by decide +kernel
theorem dX8_seesOf_105 : decode cX8_seesOf 105 = .ok (.iconst 5, 1) := by decide +kernel
theorem dX8_seesOf_106 : decode cX8_seesOf 106 = .ok (.irem, 1) := by decide +kernel
theorem dX8_seesOf_107 : decode cX8_seesOf 107 = .ok (.iadd, 1) := by decide +kernel
theorem dX8_seesOf_108 : decode cX8_seesOf 108 = .ok (.ireturn, 1) := by decide +kernel
theorem dX8_seesOf_109 : decode cX8_seesOf 109 = .ok (.iload_n 2, 1) := by decide +kernel
theorem dX8_seesOf_110 : decode cX8_seesOf 110 = .ok (.ireturn, 1) := by decide +kernel
theorem dX8_doesFall_0 : decode cX8_doesFall 0 = .ok (.aload_n 0, 1) := by decide +kernel
theorem dX8_doesFall_1 : decode cX8_doesFall 1 = .ok (.iload_n 1, 1) := by decide +kernel
theorem dX8_doesFall_2 : decode cX8_doesFall 2 = .ok (.iconst 1, 1) := by decide +kernel
theorem dX8_doesFall_3 : decode cX8_doesFall 3 = .ok (.invokevirtual 111, 3) := by decide +kernel
theorem dX8_doesFall_6 : decode cX8_doesFall 6 = .ok (.istore_n 2, 1) := by decide +kernel
theorem dX8_doesFall_7 : decode cX8_doesFall 7 = .ok (.aload_n 0, 1) := by decide +kernel
theorem dX8_doesFall_8 : decode cX8_doesFall 8 = .ok (.iload_n 1, 1) := by decide +kernel
theorem dX8_doesFall_9 : decode cX8_doesFall 9 = .ok (.iconst 0, 1) := by decide +kernel
theorem dX8_doesFall_10 : decode cX8_doesFall 10 = .ok (.invokevirtual 111, 3) := by decide +kernel
theorem dX8_doesFall_13 : decode cX8_doesFall 13 = .ok (.tableswitch 78 2 6 #[35, 54, 78, 78, 56], 35) := by decide +kernel
theorem dX8_doesFall_48 : decode cX8_doesFall 48 = .ok (.aload_n 0, 1) := by decide +kernel
theorem dX8_doesFall_49 : decode cX8_doesFall 49 = .ok (.iload_n 1, 1) := by decide +kernel
theorem dX8_doesFall_50 : decode cX8_doesFall 50 = .ok (.iconst 2, 1) := by decide +kernel
theorem dX8_doesFall_51 : decode cX8_doesFall 51 = .ok (.invokevirtual 111, 3) := by decide +kernel
theorem dX8_doesFall_54 : decode cX8_doesFall 54 = .ok (.bipush 10, 2) := by decide +kernel
theorem dX8_doesFall_56 : decode cX8_doesFall 56 = .ok (.iload_n 2, 1) := by decide +kernel
theorem dX8_doesFall_57 : decode cX8_doesFall 57 = .ok (.iadd, 1) := by decide +kernel
theorem dX8_doesFall_58 : decode cX8_doesFall 58 = .ok (.if_icmp .ge 7, 3) := by decide +kernel
theorem dX8_doesFall_61 : decode cX8_doesFall 61 = .ok (.iconst 1, 1) := by decide +kernel
theorem dX8_doesFall_62 : decode cX8_doesFall 62 = .ok (.goto 4, 3) := by decide +kernel
theorem dX8_doesFall_65 : decode cX8_doesFall 65 = .ok (.iconst 0, 1) := by decide +kernel
theorem dX8_doesFall_66 : decode cX8_doesFall 66 = .ok (.ireturn, 1) := by decide +kernel
theorem dX8_doesFall_67 : decode cX8_doesFall 67 = .ok (.iconst 1, 1) := by decide +kernel
theorem dX8_doesFall_68 : decode cX8_doesFall 68 = .ok (.ireturn, 1) := by decide +kernel
theorem dX8_doesFall_69 : decode cX8_doesFall 69 = .ok (.aload_n 0, 1) := by decide +kernel
theorem dX8_doesFall_70 : decode cX8_doesFall 70 = .ok (.getfield 7, 3) := by decide +kernel
theorem dX8_doesFall_73 : decode cX8_doesFall 73 = .ok (.iconst 0, 1) := by decide +kernel
theorem dX8_doesFall_74 : decode cX8_doesFall 74 = .ok (.iaload, 1) := by decide +kernel
theorem dX8_doesFall_75 : decode cX8_doesFall 75 = .ok (.bipush 24, 2) := by decide +kernel
theorem dX8_doesFall_77 : decode cX8_doesFall 77 = .ok (.irem, 1) := by decide +kernel
theorem dX8_doesFall_78 : decode cX8_doesFall 78 = .ok (.bipush 20, 2) := by decide +kernel
theorem dX8_doesFall_80 : decode cX8_doesFall 80 = .ok (.iload_n 2, 1) := by decide +kernel
theorem dX8_doesFall_81 : decode cX8_doesFall 81 = .ok (.isub, 1) := by decide +kernel
theorem dX8_doesFall_82 : decode cX8_doesFall 82 = .ok (.if_icmp .le 7, 3) := by decide +kernel
theorem dX8_doesFall_85 : decode cX8_doesFall 85 = .ok (.iconst 1, 1) := by decide +kernel
theorem dX8_doesFall_86 : decode cX8_doesFall 86 = .ok (.goto 4, 3) := by decide +kernel
theorem dX8_doesFall_89 : decode cX8_doesFall 89 = .ok (.iconst 0, 1) := by decide +kernel
theorem dX8_doesFall_90 : decode cX8_doesFall 90 = .ok (.ireturn, 1) := by decide +kernel
theorem dX8_doesFall_91 : decode cX8_doesFall 91 = .ok (.iconst 0, 1) := by decide +kernel
theorem dX8_doesFall_92 : decode cX8_doesFall 92 = .ok (.ireturn, 1) := by decide +kernel
theorem dX8_clearTold_0 : decode cX8_clearTold 0 = .ok (.aload_n 0, 1) := by decide +kernel
theorem dX8_clearTold_1 : decode cX8_clearTold 1 = .ok (.getfield 25, 3) := by decide +kernel
theorem dX8_clearTold_4 : decode cX8_clearTold 4 = .ok (.bipush 99, 2) := by decide +kernel
theorem dX8_clearTold_6 : decode cX8_clearTold 6 = .ok (.iload_n 1, 1) := by decide +kernel
theorem dX8_clearTold_7 : decode cX8_clearTold 7 = .ok (.iastore, 1) := by decide +kernel
theorem dX8_clearTold_8 : decode cX8_clearTold 8 = .ok (.aload_n 0, 1) := by decide +kernel
theorem dX8_clearTold_9 : decode cX8_clearTold 9 = .ok (.getfield 25, 3) := by decide +kernel
theorem dX8_clearTold_12 : decode cX8_clearTold 12 = .ok (.bipush 115, 2) := by decide +kernel
theorem dX8_clearTold_14 : decode cX8_clearTold 14 = .ok (.iload_n 2, 1) := by decide +kernel
theorem dX8_clearTold_15 : decode cX8_clearTold 15 = .ok (.iastore, 1) := by decide +kernel
theorem dX8_clearTold_16 : decode cX8_clearTold 16 = .ok (.aload_n 0, 1) := by decide +kernel
theorem dX8_clearTold_17 : decode cX8_clearTold 17 = .ok (.getfield 25, 3) := by decide +kernel
theorem dX8_clearTold_20 : decode cX8_clearTold 20 = .ok (.bipush 104, 2) := by decide +kernel
theorem dX8_clearTold_22 : decode cX8_clearTold 22 = .ok (.iload_n 3, 1) := by decide +kernel
theorem dX8_clearTold_23 : decode cX8_clearTold 23 = .ok (.iastore, 1) := by decide +kernel
theorem dX8_clearTold_24 : decode cX8_clearTold 24 = .ok (.aload_n 0, 1) := by decide +kernel
theorem dX8_clearTold_25 : decode cX8_clearTold 25 = .ok (.iconst 0, 1) := by decide +kernel
theorem dX8_clearTold_26 : decode cX8_clearTold 26 = .ok (.invokevirtual 104, 3) := by decide +kernel
theorem dX8_clearTold_29 : decode cX8_clearTold 29 = .ok (.ifCond .eq 11, 3) := by decide +kernel
theorem dX8_clearTold_32 : decode cX8_clearTold 32 = .ok (.aload_n 0, 1) := by decide +kernel
theorem dX8_clearTold_33 : decode cX8_clearTold 33 = .ok (.iconst 0, 1) := by decide +kernel
theorem dX8_clearTold_34 : decode cX8_clearTold 34 = .ok (.invokevirtual 118, 3) := by decide +kernel
theorem dX8_clearTold_37 : decode cX8_clearTold 37 = .ok (.goto 4, 3) := by decide +kernel
theorem dX8_clearTold_40 : decode cX8_clearTold 40 = .ok (.iload_n 1, 1) := by decide +kernel
theorem dX8_clearTold_41 : decode cX8_clearTold 41 = .ok (.iconst 0, 1) := by decide +kernel
theorem dX8_clearTold_42 : decode cX8_clearTold 42 = .ok (.bipush 20, 2) := by decide +kernel
theorem dX8_clearTold_44 : decode cX8_clearTold 44 = .ok (.invokestatic 121, 3) := by decide +kernel
theorem dX8_clearTold_47 : decode cX8_clearTold 47 = .ok (.ireturn, 1) := by decide +kernel
theorem dX8_paceTold_0 : decode cX8_paceTold 0 = .ok (.aload_n 0, 1) := by decide +kernel
theorem dX8_paceTold_1 : decode cX8_paceTold 1 = .ok (.getfield 25, 3) := by decide +kernel
theorem dX8_paceTold_4 : decode cX8_paceTold 4 = .ok (.bipush 99, 2) := by decide +kernel
theorem dX8_paceTold_6 : decode cX8_paceTold 6 = .ok (.iload_n 1, 1) := by decide +kernel
theorem dX8_paceTold_7 : decode cX8_paceTold 7 = .ok (.iastore, 1) := by decide +kernel
theorem dX8_paceTold_8 : decode cX8_paceTold 8 = .ok (.aload_n 0, 1) := by decide +kernel
theorem dX8_paceTold_9 : decode cX8_paceTold 9 = .ok (.getfield 25, 3) := by decide +kernel
theorem dX8_paceTold_12 : decode cX8_paceTold 12 = .ok (.bipush 109, 2) := by decide +kernel
theorem dX8_paceTold_14 : decode cX8_paceTold 14 = .ok (.iload_n 2, 1) := by decide +kernel
theorem dX8_paceTold_15 : decode cX8_paceTold 15 = .ok (.iastore, 1) := by decide +kernel
theorem dX8_paceTold_16 : decode cX8_paceTold 16 = .ok (.aload_n 0, 1) := by decide +kernel
theorem dX8_paceTold_17 : decode cX8_paceTold 17 = .ok (.getfield 25, 3) := by decide +kernel
theorem dX8_paceTold_20 : decode cX8_paceTold 20 = .ok (.bipush 107, 2) := by decide +kernel
theorem dX8_paceTold_22 : decode cX8_paceTold 22 = .ok (.iload_n 3, 1) := by decide +kernel
theorem dX8_paceTold_23 : decode cX8_paceTold 23 = .ok (.iastore, 1) := by decide +kernel
theorem dX8_paceTold_24 : decode cX8_paceTold 24 = .ok (.aload_n 0, 1) := by decide +kernel
theorem dX8_paceTold_25 : decode cX8_paceTold 25 = .ok (.iconst 1, 1) := by decide +kernel
theorem dX8_paceTold_26 : decode cX8_paceTold 26 = .ok (.invokevirtual 104, 3) := by decide +kernel
theorem dX8_paceTold_29 : decode cX8_paceTold 29 = .ok (.ifCond .eq 11, 3) := by decide +kernel
theorem dX8_paceTold_32 : decode cX8_paceTold 32 = .ok (.aload_n 0, 1) := by decide +kernel
theorem dX8_paceTold_33 : decode cX8_paceTold 33 = .ok (.iconst 1, 1) := by decide +kernel
theorem dX8_paceTold_34 : decode cX8_paceTold 34 = .ok (.invokevirtual 118, 3) := by decide +kernel
theorem dX8_paceTold_37 : decode cX8_paceTold 37 = .ok (.goto 13, 3) := by decide +kernel
theorem dX8_paceTold_40 : decode cX8_paceTold 40 = .ok (.iload_n 1, 1) := by decide +kernel
theorem dX8_paceTold_41 : decode cX8_paceTold 41 = .ok (.iconst 3, 1) := by decide +kernel
theorem dX8_paceTold_42 : decode cX8_paceTold 42 = .ok (.if_icmp .le 7, 3) := by decide +kernel
theorem dX8_paceTold_45 : decode cX8_paceTold 45 = .ok (.iconst 2, 1) := by decide +kernel
theorem dX8_paceTold_46 : decode cX8_paceTold 46 = .ok (.goto 4, 3) := by decide +kernel
theorem dX8_paceTold_49 : decode cX8_paceTold 49 = .ok (.iconst 1, 1) := by decide +kernel
theorem dX8_paceTold_50 : decode cX8_paceTold 50 = .ok (.iconst 0, 1) := by decide +kernel
theorem dX8_paceTold_51 : decode cX8_paceTold 51 = .ok (.iconst 3, 1) := by decide +kernel
theorem dX8_paceTold_52 : decode cX8_paceTold 52 = .ok (.invokestatic 121, 3) := by decide +kernel
theorem dX8_paceTold_55 : decode cX8_paceTold 55 = .ok (.ireturn, 1) := by decide +kernel
theorem dX8_clearOf_0 : decode cX8_clearOf 0 = .ok (.aload_n 0, 1) := by decide +kernel
theorem dX8_clearOf_1 : decode cX8_clearOf 1 = .ok (.aload_n 0, 1) := by decide +kernel
theorem dX8_clearOf_2 : decode cX8_clearOf 2 = .ok (.iload_n 1, 1) := by decide +kernel
theorem dX8_clearOf_3 : decode cX8_clearOf 3 = .ok (.invokevirtual 124, 3) := by decide +kernel
theorem dX8_clearOf_6 : decode cX8_clearOf 6 = .ok (.aload_n 0, 1) := by decide +kernel
theorem dX8_clearOf_7 : decode cX8_clearOf 7 = .ok (.iload_n 1, 1) := by decide +kernel
theorem dX8_clearOf_8 : decode cX8_clearOf 8 = .ok (.iconst 2, 1) := by decide +kernel
theorem dX8_clearOf_9 : decode cX8_clearOf 9 = .ok (.invokevirtual 111, 3) := by decide +kernel
theorem dX8_clearOf_12 : decode cX8_clearOf 12 = .ok (.aload_n 0, 1) := by decide +kernel
theorem dX8_clearOf_13 : decode cX8_clearOf 13 = .ok (.getfield 7, 3) := by decide +kernel
theorem dX8_clearOf_16 : decode cX8_clearOf 16 = .ok (.iconst 0, 1) := by decide +kernel
theorem dX8_clearOf_17 : decode cX8_clearOf 17 = .ok (.iaload, 1) := by decide +kernel
theorem dX8_clearOf_18 : decode cX8_clearOf 18 = .ok (.bipush 24, 2) := by decide +kernel
theorem dX8_clearOf_20 : decode cX8_clearOf 20 = .ok (.irem, 1) := by decide +kernel
theorem dX8_clearOf_21 : decode cX8_clearOf 21 = .ok (.invokevirtual 127, 3) := by decide +kernel
theorem dX8_clearOf_24 : decode cX8_clearOf 24 = .ok (.ireturn, 1) := by decide +kernel
theorem dX8_paceOf_0 : decode cX8_paceOf 0 = .ok (.aload_n 0, 1) := by decide +kernel
theorem dX8_paceOf_1 : decode cX8_paceOf 1 = .ok (.aload_n 0, 1) := by decide +kernel
theorem dX8_paceOf_2 : decode cX8_paceOf 2 = .ok (.iload_n 1, 1) := by decide +kernel
theorem dX8_paceOf_3 : decode cX8_paceOf 3 = .ok (.invokevirtual 130, 3) := by decide +kernel
theorem dX8_paceOf_6 : decode cX8_paceOf 6 = .ok (.aload_n 0, 1) := by decide +kernel
theorem dX8_paceOf_7 : decode cX8_paceOf 7 = .ok (.iload_n 1, 1) := by decide +kernel
theorem dX8_paceOf_8 : decode cX8_paceOf 8 = .ok (.iconst 1, 1) := by decide +kernel
theorem dX8_paceOf_9 : decode cX8_paceOf 9 = .ok (.invokevirtual 111, 3) := by decide +kernel
theorem dX8_paceOf_12 : decode cX8_paceOf 12 = .ok (.aload_n 0, 1) := by decide +kernel
theorem dX8_paceOf_13 : decode cX8_paceOf 13 = .ok (.iload_n 1, 1) := by decide +kernel
theorem dX8_paceOf_14 : decode cX8_paceOf 14 = .ok (.iconst 0, 1) := by decide +kernel
theorem dX8_paceOf_15 : decode cX8_paceOf 15 = .ok (.invokevirtual 111, 3) := by decide +kernel
theorem dX8_paceOf_18 : decode cX8_paceOf 18 = .ok (.invokevirtual 133, 3) := by decide +kernel
theorem dX8_paceOf_21 : decode cX8_paceOf 21 = .ok (.ireturn, 1) := by decide +kernel
theorem dX8_walks1_0 : decode cX8_walks1 0 = .ok (.aload_n 0, 1) := by decide +kernel
theorem dX8_walks1_1 : decode cX8_walks1 1 = .ok (.iload_n 1, 1) := by decide +kernel
theorem dX8_walks1_2 : decode cX8_walks1 2 = .ok (.invokevirtual 130, 3) := by decide +kernel
theorem dX8_walks1_5 : decode cX8_walks1 5 = .ok (.istore_n 2, 1) := by decide +kernel
theorem dX8_walks1_6 : decode cX8_walks1 6 = .ok (.aload_n 0, 1) := by decide +kernel
theorem dX8_walks1_7 : decode cX8_walks1 7 = .ok (.iload_n 2, 1) := by decide +kernel
theorem dX8_walks1_8 : decode cX8_walks1 8 = .ok (.aload_n 0, 1) := by decide +kernel
theorem dX8_walks1_9 : decode cX8_walks1 9 = .ok (.iload_n 1, 1) := by decide +kernel
theorem dX8_walks1_10 : decode cX8_walks1 10 = .ok (.iconst 1, 1) := by decide +kernel
theorem dX8_walks1_11 : decode cX8_walks1 11 = .ok (.invokevirtual 111, 3) := by decide +kernel
theorem dX8_walks1_14 : decode cX8_walks1 14 = .ok (.aload_n 0, 1) := by decide +kernel
theorem dX8_walks1_15 : decode cX8_walks1 15 = .ok (.iload_n 1, 1) := by decide +kernel
theorem dX8_walks1_16 : decode cX8_walks1 16 = .ok (.iconst 0, 1) := by decide +kernel
theorem dX8_walks1_17 : decode cX8_walks1 17 = .ok (.invokevirtual 111, 3) := by decide +kernel
theorem dX8_walks1_20 : decode cX8_walks1 20 = .ok (.invokevirtual 133, 3) := by decide +kernel
theorem dX8_walks1_23 : decode cX8_walks1 23 = .ok (.istore_n 3, 1) := by decide +kernel
theorem dX8_walks1_24 : decode cX8_walks1 24 = .ok (.iload_n 3, 1) := by decide +kernel
theorem dX8_walks1_25 : decode cX8_walks1 25 = .ok (.iload_n 2, 1) := by decide +kernel
theorem dX8_walks1_26 : decode cX8_walks1 26 = .ok (.if_icmp .ge 7, 3) := by decide +kernel
theorem dX8_walks1_29 : decode cX8_walks1 29 = .ok (.iload_n 3, 1) := by decide +kernel
theorem dX8_walks1_30 : decode cX8_walks1 30 = .ok (.goto 4, 3) := by decide +kernel
theorem dX8_walks1_33 : decode cX8_walks1 33 = .ok (.iload_n 2, 1) := by decide +kernel
theorem dX8_walks1_34 : decode cX8_walks1 34 = .ok (.istore 4, 2) := by decide +kernel
theorem dX8_walks1_36 : decode cX8_walks1 36 = .ok (.aload_n 0, 1) := by decide +kernel
theorem dX8_walks1_37 : decode cX8_walks1 37 = .ok (.iload_n 1, 1) := by decide +kernel
theorem dX8_walks1_38 : decode cX8_walks1 38 = .ok (.invokevirtual 136, 3) := by decide +kernel
theorem dX8_walks1_41 : decode cX8_walks1 41 = .ok (.istore 5, 2) := by decide +kernel
theorem dX8_walks1_43 : decode cX8_walks1 43 = .ok (.iconst 1, 1) := by decide +kernel
theorem dX8_walks1_44 : decode cX8_walks1 44 = .ok (.istore 6, 2) := by decide +kernel
theorem dX8_walks1_46 : decode cX8_walks1 46 = .ok (.iconst 0, 1) := by decide +kernel
theorem dX8_walks1_47 : decode cX8_walks1 47 = .ok (.istore 7, 2) := by decide +kernel
theorem dX8_walks1_49 : decode cX8_walks1 49 = .ok (.iload 7, 2) := by decide +kernel
theorem dX8_walks1_51 : decode cX8_walks1 51 = .ok (.iload 4, 2) := by decide +kernel
theorem dX8_walks1_53 : decode cX8_walks1 53 = .ok (.if_icmp .ge 91, 3) := by decide +kernel
theorem dX8_walks1_56 : decode cX8_walks1 56 = .ok (.iload 6, 2) := by decide +kernel
theorem dX8_walks1_58 : decode cX8_walks1 58 = .ok (.ifCond .eq 86, 3) := by decide +kernel
theorem dX8_walks1_61 : decode cX8_walks1 61 = .ok (.aload_n 0, 1) := by decide +kernel
theorem dX8_walks1_62 : decode cX8_walks1 62 = .ok (.iload_n 1, 1) := by decide +kernel
theorem dX8_walks1_63 : decode cX8_walks1 63 = .ok (.iconst 3, 1) := by decide +kernel
theorem dX8_walks1_64 : decode cX8_walks1 64 = .ok (.invokevirtual 111, 3) := by decide +kernel
theorem dX8_walks1_67 : decode cX8_walks1 67 = .ok (.bipush 15, 2) := by decide +kernel
theorem dX8_walks1_69 : decode cX8_walks1 69 = .ok (.if_icmp .ge 75, 3) := by decide +kernel
theorem dX8_walks1_72 : decode cX8_walks1 72 = .ok (.aload_n 0, 1) := by decide +kernel
theorem dX8_walks1_73 : decode cX8_walks1 73 = .ok (.aload_n 0, 1) := by decide +kernel
theorem dX8_walks1_74 : decode cX8_walks1 74 = .ok (.iload_n 1, 1) := by decide +kernel
theorem dX8_walks1_75 : decode cX8_walks1 75 = .ok (.iconst 3, 1) := by decide +kernel
theorem dX8_walks1_76 : decode cX8_walks1 76 = .ok (.invokevirtual 111, 3) := by decide +kernel
theorem dX8_walks1_79 : decode cX8_walks1 79 = .ok (.iconst 1, 1) := by decide +kernel
theorem dX8_walks1_80 : decode cX8_walks1 80 = .ok (.iadd, 1) := by decide +kernel
theorem dX8_walks1_81 : decode cX8_walks1 81 = .ok (.invokevirtual 139, 3) := by decide +kernel
theorem dX8_walks1_84 : decode cX8_walks1 84 = .ok (.istore 8, 2) := by decide +kernel
theorem dX8_walks1_86 : decode cX8_walks1 86 = .ok (.iload 8, 2) := by decide +kernel
theorem dX8_walks1_88 : decode cX8_walks1 88 = .ok (.ifCond .ne 7, 3) := by decide +kernel
theorem dX8_walks1_91 : decode cX8_walks1 91 = .ok (.iconst 1, 1) := by decide +kernel
theorem dX8_walks1_92 : decode cX8_walks1 92 = .ok (.goto 4, 3) := by decide +kernel
theorem dX8_walks1_95 : decode cX8_walks1 95 = .ok (.iconst 0, 1) := by decide +kernel
theorem dX8_walks1_96 : decode cX8_walks1 96 = .ok (.istore 6, 2) := by decide +kernel
theorem dX8_walks1_98 : decode cX8_walks1 98 = .ok (.iload 8, 2) := by decide +kernel
theorem dX8_walks1_100 : decode cX8_walks1 100 = .ok (.ifCond .eq 8, 3) := by decide +kernel
theorem dX8_walks1_103 : decode cX8_walks1 103 = .ok (.iload 5, 2) := by decide +kernel
theorem dX8_walks1_105 : decode cX8_walks1 105 = .ok (.ifCond .eq 33, 3) := by decide +kernel
theorem dX8_walks1_108 : decode cX8_walks1 108 = .ok (.aload_n 0, 1) := by decide +kernel
theorem dX8_walks1_109 : decode cX8_walks1 109 = .ok (.iload_n 1, 1) := by decide +kernel
theorem dX8_walks1_110 : decode cX8_walks1 110 = .ok (.iconst 3, 1) := by decide +kernel
theorem dX8_walks1_111 : decode cX8_walks1 111 = .ok (.aload_n 0, 1) := by decide +kernel
theorem dX8_walks1_112 : decode cX8_walks1 112 = .ok (.iload_n 1, 1) := by decide +kernel
theorem dX8_walks1_113 : decode cX8_walks1 113 = .ok (.iconst 3, 1) := by decide +kernel
theorem dX8_walks1_114 : decode cX8_walks1 114 = .ok (.invokevirtual 111, 3) := by decide +kernel
theorem dX8_walks1_117 : decode cX8_walks1 117 = .ok (.iconst 1, 1) := by decide +kernel
theorem dX8_walks1_118 : decode cX8_walks1 118 = .ok (.iadd, 1) := by decide +kernel
theorem dX8_walks1_119 : decode cX8_walks1 119 = .ok (.invokevirtual 142, 3) := by decide +kernel
theorem dX8_walks1_122 : decode cX8_walks1 122 = .ok (.aload_n 0, 1) := by decide +kernel
theorem dX8_walks1_123 : decode cX8_walks1 123 = .ok (.iload_n 1, 1) := by decide +kernel
theorem dX8_walks1_124 : decode cX8_walks1 124 = .ok (.iconst 4, 1) := by decide +kernel
theorem dX8_walks1_125 : decode cX8_walks1 125 = .ok (.iload 8, 2) := by decide +kernel
theorem dX8_walks1_127 : decode cX8_walks1 127 = .ok (.ifCond .eq 7, 3) := by decide +kernel
theorem dX8_walks1_130 : decode cX8_walks1 130 = .ok (.iconst 1, 1) := by decide +kernel
theorem dX8_walks1_131 : decode cX8_walks1 131 = .ok (.goto 4, 3) := by decide +kernel
theorem dX8_walks1_134 : decode cX8_walks1 134 = .ok (.iconst 0, 1) := by decide +kernel
theorem dX8_walks1_135 : decode cX8_walks1 135 = .ok (.invokevirtual 142, 3) := by decide +kernel
theorem dX8_walks1_138 : decode cX8_walks1 138 = .ok (.iinc 7 1, 3) := by decide +kernel
theorem dX8_walks1_141 : decode cX8_walks1 141 = .ok (.goto (-92), 3) := by decide +kernel
theorem dX8_walks1_144 : decode cX8_walks1 144 = .ok (.return_, 1) := by decide +kernel
theorem dX8_anHour_0 : decode cX8_anHour 0 = .ok (.iconst 0, 1) := by decide +kernel
theorem dX8_anHour_1 : decode cX8_anHour 1 = .ok (.istore_n 1, 1) := by decide +kernel
theorem dX8_anHour_2 : decode cX8_anHour 2 = .ok (.iload_n 1, 1) := by decide +kernel
theorem dX8_anHour_3 : decode cX8_anHour 3 = .ok (.aload_n 0, 1) := by decide +kernel
theorem dX8_anHour_4 : decode cX8_anHour 4 = .ok (.getfield 7, 3) := by decide +kernel
theorem dX8_anHour_7 : decode cX8_anHour 7 = .ok (.iconst 5, 1) := by decide +kernel
theorem dX8_anHour_8 : decode cX8_anHour 8 = .ok (.iaload, 1) := by decide +kernel
theorem dX8_anHour_9 : decode cX8_anHour 9 = .ok (.if_icmp .ge 23, 3) := by decide +kernel
theorem dX8_anHour_12 : decode cX8_anHour 12 = .ok (.aload_n 0, 1) := by decide +kernel
theorem dX8_anHour_13 : decode cX8_anHour 13 = .ok (.iload_n 1, 1) := by decide +kernel
theorem dX8_anHour_14 : decode cX8_anHour 14 = .ok (.iconst 4, 1) := by decide +kernel
theorem dX8_anHour_15 : decode cX8_anHour 15 = .ok (.invokevirtual 111, 3) := by decide +kernel
theorem dX8_anHour_18 : decode cX8_anHour 18 = .ok (.ifCond .ne 8, 3) := by decide +kernel
theorem dX8_anHour_21 : decode cX8_anHour 21 = .ok (.aload_n 0, 1) := by decide +kernel
theorem dX8_anHour_22 : decode cX8_anHour 22 = .ok (.iload_n 1, 1) := by decide +kernel
theorem dX8_anHour_23 : decode cX8_anHour 23 = .ok (.invokevirtual 146, 3) := by decide +kernel
theorem dX8_anHour_26 : decode cX8_anHour 26 = .ok (.iinc 1 1, 3) := by decide +kernel
theorem dX8_anHour_29 : decode cX8_anHour 29 = .ok (.goto (-27), 3) := by decide +kernel
theorem dX8_anHour_32 : decode cX8_anHour 32 = .ok (.aload_n 0, 1) := by decide +kernel
theorem dX8_anHour_33 : decode cX8_anHour 33 = .ok (.getfield 7, 3) := by decide +kernel
theorem dX8_anHour_36 : decode cX8_anHour 36 = .ok (.iconst 0, 1) := by decide +kernel
theorem dX8_anHour_37 : decode cX8_anHour 37 = .ok (.dup2, 1) := by decide +kernel
theorem dX8_anHour_38 : decode cX8_anHour 38 = .ok (.iaload, 1) := by decide +kernel
theorem dX8_anHour_39 : decode cX8_anHour 39 = .ok (.iconst 1, 1) := by decide +kernel
theorem dX8_anHour_40 : decode cX8_anHour 40 = .ok (.iadd, 1) := by decide +kernel
theorem dX8_anHour_41 : decode cX8_anHour 41 = .ok (.iastore, 1) := by decide +kernel
theorem dX8_anHour_42 : decode cX8_anHour 42 = .ok (.return_, 1) := by decide +kernel
theorem dX8_goes_0 : decode cX8_goes 0 = .ok (.iconst 0, 1) := by decide +kernel
theorem dX8_goes_1 : decode cX8_goes 1 = .ok (.istore_n 2, 1) := by decide +kernel
theorem dX8_goes_2 : decode cX8_goes 2 = .ok (.iload_n 2, 1) := by decide +kernel
theorem dX8_goes_3 : decode cX8_goes 3 = .ok (.iload_n 1, 1) := by decide +kernel
theorem dX8_goes_4 : decode cX8_goes 4 = .ok (.if_icmp .ge 13, 3) := by decide +kernel
theorem dX8_goes_7 : decode cX8_goes 7 = .ok (.aload_n 0, 1) := by decide +kernel
theorem dX8_goes_8 : decode cX8_goes 8 = .ok (.invokevirtual 150, 3) := by decide +kernel
theorem dX8_goes_11 : decode cX8_goes 11 = .ok (.iinc 2 1, 3) := by decide +kernel
theorem dX8_goes_14 : decode cX8_goes 14 = .ok (.goto (-12), 3) := by decide +kernel
theorem dX8_goes_17 : decode cX8_goes 17 = .ok (.return_, 1) := by decide +kernel
theorem dX8_through_0 : decode cX8_through 0 = .ok (.iconst 0, 1) := by decide +kernel
theorem dX8_through_1 : decode cX8_through 1 = .ok (.istore_n 1, 1) := by decide +kernel
theorem dX8_through_2 : decode cX8_through 2 = .ok (.iconst 0, 1) := by decide +kernel
theorem dX8_through_3 : decode cX8_through 3 = .ok (.istore_n 2, 1) := by decide +kernel
theorem dX8_through_4 : decode cX8_through 4 = .ok (.iload_n 2, 1) := by decide +kernel
theorem dX8_through_5 : decode cX8_through 5 = .ok (.aload_n 0, 1) := by decide +kernel
theorem dX8_through_6 : decode cX8_through 6 = .ok (.getfield 7, 3) := by decide +kernel
theorem dX8_through_9 : decode cX8_through 9 = .ok (.iconst 5, 1) := by decide +kernel
theorem dX8_through_10 : decode cX8_through 10 = .ok (.iaload, 1) := by decide +kernel
theorem dX8_through_11 : decode cX8_through 11 = .ok (.if_icmp .ge 30, 3) := by decide +kernel
theorem dX8_through_14 : decode cX8_through 14 = .ok (.iload_n 1, 1) := by decide +kernel
theorem dX8_through_15 : decode cX8_through 15 = .ok (.aload_n 0, 1) := by decide +kernel
theorem dX8_through_16 : decode cX8_through 16 = .ok (.iload_n 2, 1) := by decide +kernel
theorem dX8_through_17 : decode cX8_through 17 = .ok (.iconst 3, 1) := by decide +kernel
theorem dX8_through_18 : decode cX8_through 18 = .ok (.invokevirtual 111, 3) := by decide +kernel
theorem dX8_through_21 : decode cX8_through 21 = .ok (.bipush 15, 2) := by decide +kernel
theorem dX8_through_23 : decode cX8_through 23 = .ok (.if_icmp .ne 9, 3) := by decide +kernel
theorem dX8_through_26 : decode cX8_through 26 = .ok (.iconst 1, 1) := by decide +kernel
theorem dX8_through_27 : decode cX8_through 27 = .ok (.iload_n 2, 1) := by decide +kernel
theorem dX8_through_28 : decode cX8_through 28 = .ok (.ishl, 1) := by decide +kernel
theorem dX8_through_29 : decode cX8_through 29 = .ok (.goto 4, 3) := by decide +kernel
theorem dX8_through_32 : decode cX8_through 32 = .ok (.iconst 0, 1) := by decide +kernel
theorem dX8_through_33 : decode cX8_through 33 = .ok (.ior, 1) := by decide +kernel
theorem dX8_through_34 : decode cX8_through 34 = .ok (.istore_n 1, 1) := by decide +kernel
theorem dX8_through_35 : decode cX8_through 35 = .ok (.iinc 2 1, 3) := by decide +kernel
theorem dX8_through_38 : decode cX8_through 38 = .ok (.goto (-34), 3) := by decide +kernel
theorem dX8_through_41 : decode cX8_through 41 = .ok (.iload_n 1, 1) := by decide +kernel
theorem dX8_through_42 : decode cX8_through 42 = .ok (.ireturn, 1) := by decide +kernel
theorem dX8_draw_0 : decode cX8_draw 0 = .ok (.aload_n 0, 1) := by decide +kernel
theorem dX8_draw_1 : decode cX8_draw 1 = .ok (.getfield 7, 3) := by decide +kernel
theorem dX8_draw_4 : decode cX8_draw 4 = .ok (.iconst 2, 1) := by decide +kernel
theorem dX8_draw_5 : decode cX8_draw 5 = .ok (.aload_n 0, 1) := by decide +kernel
theorem dX8_draw_6 : decode cX8_draw 6 = .ok (.getfield 7, 3) := by decide +kernel
theorem dX8_draw_9 : decode cX8_draw 9 = .ok (.iconst 2, 1) := by decide +kernel
theorem dX8_draw_10 : decode cX8_draw 10 = .ok (.iaload, 1) := by decide +kernel
theorem dX8_draw_11 : decode cX8_draw 11 = .ok (.ldc 153, 2) := by decide +kernel
theorem dX8_draw_13 : decode cX8_draw 13 = .ok (.imul, 1) := by decide +kernel
theorem dX8_draw_14 : decode cX8_draw 14 = .ok (.sipush 12345, 3) := by decide +kernel
theorem dX8_draw_17 : decode cX8_draw 17 = .ok (.iadd, 1) := by decide +kernel
theorem dX8_draw_18 : decode cX8_draw 18 = .ok (.iastore, 1) := by decide +kernel
theorem dX8_draw_19 : decode cX8_draw 19 = .ok (.aload_n 0, 1) := by decide +kernel
theorem dX8_draw_20 : decode cX8_draw 20 = .ok (.getfield 7, 3) := by decide +kernel
theorem dX8_draw_23 : decode cX8_draw 23 = .ok (.iconst 2, 1) := by decide +kernel
theorem dX8_draw_24 : decode cX8_draw 24 = .ok (.iaload, 1) := by decide +kernel
theorem dX8_draw_25 : decode cX8_draw 25 = .ok (.bipush 8, 2) := by decide +kernel
theorem dX8_draw_27 : decode cX8_draw 27 = .ok (.iushr, 1) := by decide +kernel
theorem dX8_draw_28 : decode cX8_draw 28 = .ok (.ireturn, 1) := by decide +kernel
theorem dX8_isKind_0 : decode cX8_isKind 0 = .ok (.iload_n 0, 1) := by decide +kernel
theorem dX8_isKind_1 : decode cX8_isKind 1 = .ok (.iconst 0, 1) := by decide +kernel
theorem dX8_isKind_2 : decode cX8_isKind 2 = .ok (.bipush 69, 2) := by decide +kernel
theorem dX8_isKind_4 : decode cX8_isKind 4 = .ok (.invokestatic 47, 3) := by decide +kernel
theorem dX8_isKind_7 : decode cX8_isKind 7 = .ok (.ireturn, 1) := by decide +kernel
theorem dX8_person_0 : decode cX8_person 0 = .ok (.iload_n 1, 1) := by decide +kernel
theorem dX8_person_1 : decode cX8_person 1 = .ok (.invokestatic 154, 3) := by decide +kernel
theorem dX8_person_4 : decode cX8_person 4 = .ok (.ifCond .eq 13, 3) := by decide +kernel
theorem dX8_person_7 : decode cX8_person 7 = .ok (.iload_n 2, 1) := by decide +kernel
theorem dX8_person_8 : decode cX8_person 8 = .ok (.iconst 0, 1) := by decide +kernel
theorem dX8_person_9 : decode cX8_person 9 = .ok (.bipush 99, 2) := by decide +kernel
theorem dX8_person_11 : decode cX8_person 11 = .ok (.invokestatic 47, 3) := by decide +kernel
theorem dX8_person_14 : decode cX8_person 14 = .ok (.ifCond .ne 9, 3) := by decide +kernel
theorem dX8_person_17 : decode cX8_person 17 = .ok (.aload_n 0, 1) := by decide +kernel
theorem dX8_person_18 : decode cX8_person 18 = .ok (.iconst 1, 1) := by decide +kernel
theorem dX8_person_19 : decode cX8_person 19 = .ok (.invokevirtual 51, 3) := by decide +kernel
theorem dX8_person_22 : decode cX8_person 22 = .ok (.ireturn, 1) := by decide +kernel
theorem dX8_person_23 : decode cX8_person 23 = .ok (.aload_n 0, 1) := by decide +kernel
theorem dX8_person_24 : decode cX8_person 24 = .ok (.getfield 7, 3) := by decide +kernel
theorem dX8_person_27 : decode cX8_person 27 = .ok (.iconst 5, 1) := by decide +kernel
theorem dX8_person_28 : decode cX8_person 28 = .ok (.iaload, 1) := by decide +kernel
theorem dX8_person_29 : decode cX8_person 29 = .ok (.bipush 6, 2) := by decide +kernel
theorem dX8_person_31 : decode cX8_person 31 = .ok (.if_icmp .ne 9, 3) := by decide +kernel
theorem dX8_person_34 : decode cX8_person 34 = .ok (.aload_n 0, 1) := by decide +kernel
theorem dX8_person_35 : decode cX8_person 35 = .ok (.iconst 4, 1) := by decide +kernel
theorem dX8_person_36 : decode cX8_person 36 = .ok (.invokevirtual 51, 3) := by decide +kernel
theorem dX8_person_39 : decode cX8_person 39 = .ok (.ireturn, 1) := by decide +kernel
theorem dX8_person_40 : decode cX8_person 40 = .ok (.aload_n 0, 1) := by decide +kernel
theorem dX8_person_41 : decode cX8_person 41 = .ok (.getfield 7, 3) := by decide +kernel
theorem dX8_person_44 : decode cX8_person 44 = .ok (.iconst 5, 1) := by decide +kernel
theorem dX8_person_45 : decode cX8_person 45 = .ok (.iaload, 1) := by decide +kernel
theorem dX8_person_46 : decode cX8_person 46 = .ok (.istore_n 3, 1) := by decide +kernel
theorem dX8_person_47 : decode cX8_person 47 = .ok (.aload_n 0, 1) := by decide +kernel
theorem dX8_person_48 : decode cX8_person 48 = .ok (.iload_n 3, 1) := by decide +kernel
theorem dX8_person_49 : decode cX8_person 49 = .ok (.iconst 0, 1) := by decide +kernel
theorem dX8_person_50 : decode cX8_person 50 = .ok (.iload_n 1, 1) := by decide +kernel
theorem dX8_person_51 : decode cX8_person 51 = .ok (.bipush 10, 2) := by decide +kernel
theorem dX8_person_53 : decode cX8_person 53 = .ok (.idiv, 1) := by decide +kernel
theorem dX8_person_54 : decode cX8_person 54 = .ok (.invokevirtual 142, 3) := by decide +kernel
theorem dX8_person_57 : decode cX8_person 57 = .ok (.aload_n 0, 1) := by decide +kernel
theorem dX8_person_58 : decode cX8_person 58 = .ok (.iload_n 3, 1) := by decide +kernel
theorem dX8_person_59 : decode cX8_person 59 = .ok (.iconst 1, 1) := by decide +kernel
theorem dX8_person_60 : decode cX8_person 60 = .ok (.iload_n 1, 1) := by decide +kernel
theorem dX8_person_61 : decode cX8_person 61 = .ok (.bipush 10, 2) := by decide +kernel
theorem dX8_person_63 : decode cX8_person 63 = .ok (.irem, 1) := by decide +kernel
theorem dX8_person_64 : decode cX8_person 64 = .ok (.invokevirtual 142, 3) := by decide +kernel
theorem dX8_person_67 : decode cX8_person 67 = .ok (.aload_n 0, 1) := by decide +kernel
theorem dX8_person_68 : decode cX8_person 68 = .ok (.iload_n 3, 1) := by decide +kernel
theorem dX8_person_69 : decode cX8_person 69 = .ok (.iconst 2, 1) := by decide +kernel
theorem dX8_person_70 : decode cX8_person 70 = .ok (.iload_n 2, 1) := by decide +kernel
theorem dX8_person_71 : decode cX8_person 71 = .ok (.invokevirtual 142, 3) := by decide +kernel
theorem dX8_person_74 : decode cX8_person 74 = .ok (.aload_n 0, 1) := by decide +kernel
theorem dX8_person_75 : decode cX8_person 75 = .ok (.iload_n 3, 1) := by decide +kernel
theorem dX8_person_76 : decode cX8_person 76 = .ok (.iconst 3, 1) := by decide +kernel
theorem dX8_person_77 : decode cX8_person 77 = .ok (.iconst 0, 1) := by decide +kernel
theorem dX8_person_78 : decode cX8_person 78 = .ok (.invokevirtual 142, 3) := by decide +kernel
theorem dX8_person_81 : decode cX8_person 81 = .ok (.aload_n 0, 1) := by decide +kernel
theorem dX8_person_82 : decode cX8_person 82 = .ok (.iload_n 3, 1) := by decide +kernel
theorem dX8_person_83 : decode cX8_person 83 = .ok (.iconst 4, 1) := by decide +kernel
theorem dX8_person_84 : decode cX8_person 84 = .ok (.iconst 0, 1) := by decide +kernel
theorem dX8_person_85 : decode cX8_person 85 = .ok (.invokevirtual 142, 3) := by decide +kernel
theorem dX8_person_88 : decode cX8_person 88 = .ok (.aload_n 0, 1) := by decide +kernel
theorem dX8_person_89 : decode cX8_person 89 = .ok (.getfield 7, 3) := by decide +kernel
theorem dX8_person_92 : decode cX8_person 92 = .ok (.iconst 5, 1) := by decide +kernel
theorem dX8_person_93 : decode cX8_person 93 = .ok (.dup2, 1) := by decide +kernel
theorem dX8_person_94 : decode cX8_person 94 = .ok (.iaload, 1) := by decide +kernel
theorem dX8_person_95 : decode cX8_person 95 = .ok (.iconst 1, 1) := by decide +kernel
theorem dX8_person_96 : decode cX8_person 96 = .ok (.iadd, 1) := by decide +kernel
theorem dX8_person_97 : decode cX8_person 97 = .ok (.iastore, 1) := by decide +kernel
theorem dX8_person_98 : decode cX8_person 98 = .ok (.iload_n 3, 1) := by decide +kernel
theorem dX8_person_99 : decode cX8_person 99 = .ok (.ireturn, 1) := by decide +kernel
theorem dX8_personIs_0 : decode cX8_personIs 0 = .ok (.aload_n 0, 1) := by decide +kernel
theorem dX8_personIs_1 : decode cX8_personIs 1 = .ok (.iload_n 1, 1) := by decide +kernel
theorem dX8_personIs_2 : decode cX8_personIs 2 = .ok (.invokevirtual 157, 3) := by decide +kernel
theorem dX8_personIs_5 : decode cX8_personIs 5 = .ok (.ifCond .eq 13, 3) := by decide +kernel
theorem dX8_personIs_8 : decode cX8_personIs 8 = .ok (.iload_n 2, 1) := by decide +kernel
theorem dX8_personIs_9 : decode cX8_personIs 9 = .ok (.iconst 0, 1) := by decide +kernel
theorem dX8_personIs_10 : decode cX8_personIs 10 = .ok (.bipush 7, 2) := by decide +kernel
theorem dX8_personIs_12 : decode cX8_personIs 12 = .ok (.invokestatic 47, 3) := by decide +kernel
theorem dX8_personIs_15 : decode cX8_personIs 15 = .ok (.ifCond .ne 9, 3) := by decide +kernel
theorem dX8_personIs_18 : decode cX8_personIs 18 = .ok (.aload_n 0, 1) := by decide +kernel
theorem dX8_personIs_19 : decode cX8_personIs 19 = .ok (.iconst 1, 1) := by decide +kernel
theorem dX8_personIs_20 : decode cX8_personIs 20 = .ok (.invokevirtual 51, 3) := by decide +kernel
theorem dX8_personIs_23 : decode cX8_personIs 23 = .ok (.ireturn, 1) := by decide +kernel
theorem dX8_personIs_24 : decode cX8_personIs 24 = .ok (.iload_n 2, 1) := by decide +kernel
theorem dX8_personIs_25 : decode cX8_personIs 25 = .ok (.tableswitch 53 5 7 #[27, 33, 39], 27) := by decide +kernel
theorem dX8_personIs_52 : decode cX8_personIs 52 = .ok (.aload_n 0, 1) := by decide +kernel
theorem dX8_personIs_53 : decode cX8_personIs 53 = .ok (.iload_n 1, 1) := by decide +kernel
theorem dX8_personIs_54 : decode cX8_personIs 54 = .ok (.invokevirtual 130, 3) := by decide +kernel
theorem dX8_personIs_57 : decode cX8_personIs 57 = .ok (.ireturn, 1) := by decide +kernel
theorem dX8_personIs_58 : decode cX8_personIs 58 = .ok (.aload_n 0, 1) := by decide +kernel
theorem dX8_personIs_59 : decode cX8_personIs 59 = .ok (.iload_n 1, 1) := by decide +kernel
theorem dX8_personIs_60 : decode cX8_personIs 60 = .ok (.invokevirtual 160, 3) := by decide +kernel
theorem dX8_personIs_63 : decode cX8_personIs 63 = .ok (.ireturn, 1) := by decide +kernel
theorem dX8_personIs_64 : decode cX8_personIs 64 = .ok (.aload_n 0, 1) := by decide +kernel
theorem dX8_personIs_65 : decode cX8_personIs 65 = .ok (.iload_n 1, 1) := by decide +kernel
theorem dX8_personIs_66 : decode cX8_personIs 66 = .ok (.invokevirtual 136, 3) := by decide +kernel
theorem dX8_personIs_69 : decode cX8_personIs 69 = .ok (.ifCond .eq 7, 3) := by decide +kernel
theorem dX8_personIs_72 : decode cX8_personIs 72 = .ok (.iconst 1, 1) := by decide +kernel
theorem dX8_personIs_73 : decode cX8_personIs 73 = .ok (.goto 4, 3) := by decide +kernel
theorem dX8_personIs_76 : decode cX8_personIs 76 = .ok (.iconst 0, 1) := by decide +kernel
theorem dX8_personIs_77 : decode cX8_personIs 77 = .ok (.ireturn, 1) := by decide +kernel
theorem dX8_personIs_78 : decode cX8_personIs 78 = .ok (.aload_n 0, 1) := by decide +kernel
theorem dX8_personIs_79 : decode cX8_personIs 79 = .ok (.iload_n 1, 1) := by decide +kernel
theorem dX8_personIs_80 : decode cX8_personIs 80 = .ok (.iload_n 2, 1) := by decide +kernel
theorem dX8_personIs_81 : decode cX8_personIs 81 = .ok (.invokevirtual 111, 3) := by decide +kernel
theorem dX8_personIs_84 : decode cX8_personIs 84 = .ok (.ireturn, 1) := by decide +kernel
theorem dX8_become_0 : decode cX8_become 0 = .ok (.aload_n 0, 1) := by decide +kernel
theorem dX8_become_1 : decode cX8_become 1 = .ok (.iload_n 1, 1) := by decide +kernel
theorem dX8_become_2 : decode cX8_become 2 = .ok (.invokevirtual 157, 3) := by decide +kernel
theorem dX8_become_5 : decode cX8_become 5 = .ok (.ifCond .eq 10, 3) := by decide +kernel
theorem dX8_become_8 : decode cX8_become 8 = .ok (.iload_n 2, 1) := by decide +kernel
theorem dX8_become_9 : decode cX8_become 9 = .ok (.invokestatic 154, 3) := by decide +kernel
theorem dX8_become_12 : decode cX8_become 12 = .ok (.ifCond .ne 9, 3) := by decide +kernel
theorem dX8_become_15 : decode cX8_become 15 = .ok (.aload_n 0, 1) := by decide +kernel
theorem dX8_become_16 : decode cX8_become 16 = .ok (.iconst 1, 1) := by decide +kernel
theorem dX8_become_17 : decode cX8_become 17 = .ok (.invokevirtual 51, 3) := by decide +kernel
theorem dX8_become_20 : decode cX8_become 20 = .ok (.ireturn, 1) := by decide +kernel
theorem dX8_become_21 : decode cX8_become 21 = .ok (.aload_n 0, 1) := by decide +kernel
theorem dX8_become_22 : decode cX8_become 22 = .ok (.iload_n 1, 1) := by decide +kernel
theorem dX8_become_23 : decode cX8_become 23 = .ok (.iconst 1, 1) := by decide +kernel
theorem dX8_become_24 : decode cX8_become 24 = .ok (.iload_n 2, 1) := by decide +kernel
theorem dX8_become_25 : decode cX8_become 25 = .ok (.bipush 10, 2) := by decide +kernel
theorem dX8_become_27 : decode cX8_become 27 = .ok (.irem, 1) := by decide +kernel
theorem dX8_become_28 : decode cX8_become 28 = .ok (.invokevirtual 142, 3) := by decide +kernel
theorem dX8_become_31 : decode cX8_become 31 = .ok (.aload_n 0, 1) := by decide +kernel
theorem dX8_become_32 : decode cX8_become 32 = .ok (.bipush 8, 2) := by decide +kernel
theorem dX8_become_34 : decode cX8_become 34 = .ok (.iconst 5, 1) := by decide +kernel
theorem dX8_become_35 : decode cX8_become 35 = .ok (.iload_n 1, 1) := by decide +kernel
theorem dX8_become_36 : decode cX8_become 36 = .ok (.imul, 1) := by decide +kernel
theorem dX8_become_37 : decode cX8_become 37 = .ok (.iadd, 1) := by decide +kernel
theorem dX8_become_38 : decode cX8_become 38 = .ok (.iconst 0, 1) := by decide +kernel
theorem dX8_become_39 : decode cX8_become 39 = .ok (.iadd, 1) := by decide +kernel
theorem dX8_become_40 : decode cX8_become 40 = .ok (.iload_n 2, 1) := by decide +kernel
theorem dX8_become_41 : decode cX8_become 41 = .ok (.bipush 10, 2) := by decide +kernel
theorem dX8_become_43 : decode cX8_become 43 = .ok (.idiv, 1) := by decide +kernel
theorem dX8_become_44 : decode cX8_become 44 = .ok (.invokevirtual 163, 3) := by decide +kernel
theorem dX8_become_47 : decode cX8_become 47 = .ok (.ireturn, 1) := by decide +kernel
theorem dX8_as_0 : decode cX8_as 0 = .ok (.aload_n 0, 1) := by decide +kernel
theorem dX8_as_1 : decode cX8_as 1 = .ok (.iload_n 1, 1) := by decide +kernel
theorem dX8_as_2 : decode cX8_as 2 = .ok (.invokevirtual 157, 3) := by decide +kernel
theorem dX8_as_5 : decode cX8_as 5 = .ok (.ifCond .eq 13, 3) := by decide +kernel
theorem dX8_as_8 : decode cX8_as 8 = .ok (.iload_n 2, 1) := by decide +kernel
theorem dX8_as_9 : decode cX8_as 9 = .ok (.iconst 0, 1) := by decide +kernel
theorem dX8_as_10 : decode cX8_as 10 = .ok (.bipush 6, 2) := by decide +kernel
theorem dX8_as_12 : decode cX8_as 12 = .ok (.invokestatic 47, 3) := by decide +kernel
theorem dX8_as_15 : decode cX8_as 15 = .ok (.ifCond .ne 9, 3) := by decide +kernel
theorem dX8_as_18 : decode cX8_as 18 = .ok (.aload_n 0, 1) := by decide +kernel
theorem dX8_as_19 : decode cX8_as 19 = .ok (.iconst 1, 1) := by decide +kernel
theorem dX8_as_20 : decode cX8_as 20 = .ok (.invokevirtual 51, 3) := by decide +kernel
theorem dX8_as_23 : decode cX8_as 23 = .ok (.ireturn, 1) := by decide +kernel
theorem dX8_as_24 : decode cX8_as 24 = .ok (.aload_n 0, 1) := by decide +kernel
theorem dX8_as_25 : decode cX8_as 25 = .ok (.iload_n 1, 1) := by decide +kernel
theorem dX8_as_26 : decode cX8_as 26 = .ok (.iconst 0, 1) := by decide +kernel
theorem dX8_as_27 : decode cX8_as 27 = .ok (.invokevirtual 111, 3) := by decide +kernel
theorem dX8_as_30 : decode cX8_as 30 = .ok (.istore_n 3, 1) := by decide +kernel
theorem dX8_as_31 : decode cX8_as 31 = .ok (.iload_n 3, 1) := by decide +kernel
theorem dX8_as_32 : decode cX8_as 32 = .ok (.iload_n 2, 1) := by decide +kernel
theorem dX8_as_33 : decode cX8_as 33 = .ok (.if_icmp .eq 15, 3) := by decide +kernel
theorem dX8_as_36 : decode cX8_as 36 = .ok (.iload_n 3, 1) := by decide +kernel
theorem dX8_as_37 : decode cX8_as 37 = .ok (.ifCond .eq 11, 3) := by decide +kernel
theorem dX8_as_40 : decode cX8_as 40 = .ok (.iload_n 3, 1) := by decide +kernel
theorem dX8_as_41 : decode cX8_as 41 = .ok (.invokestatic 166, 3) := by decide +kernel
theorem dX8_as_44 : decode cX8_as 44 = .ok (.istore_n 3, 1) := by decide +kernel
theorem dX8_as_45 : decode cX8_as 45 = .ok (.goto (-14), 3) := by decide +kernel
theorem dX8_as_48 : decode cX8_as 48 = .ok (.iload_n 3, 1) := by decide +kernel
theorem dX8_as_49 : decode cX8_as 49 = .ok (.iload_n 2, 1) := by decide +kernel
theorem dX8_as_50 : decode cX8_as 50 = .ok (.if_icmp .ne 12, 3) := by decide +kernel
theorem dX8_as_53 : decode cX8_as 53 = .ok (.aload_n 0, 1) := by decide +kernel
theorem dX8_as_54 : decode cX8_as 54 = .ok (.iload_n 1, 1) := by decide +kernel
theorem dX8_as_55 : decode cX8_as 55 = .ok (.iconst 1, 1) := by decide +kernel
theorem dX8_as_56 : decode cX8_as 56 = .ok (.invokevirtual 111, 3) := by decide +kernel
theorem dX8_as_59 : decode cX8_as 59 = .ok (.goto 8, 3) := by decide +kernel
theorem dX8_as_62 : decode cX8_as 62 = .ok (.aload_n 0, 1) := by decide +kernel
theorem dX8_as_63 : decode cX8_as 63 = .ok (.iconst 5, 1) := by decide +kernel
theorem dX8_as_64 : decode cX8_as 64 = .ok (.invokevirtual 51, 3) := by decide +kernel
theorem dX8_as_67 : decode cX8_as 67 = .ok (.ireturn, 1) := by decide +kernel
theorem dX8_answers_0 : decode cX8_answers 0 = .ok (.aload_n 0, 1) := by decide +kernel
theorem dX8_answers_1 : decode cX8_answers 1 = .ok (.iload_n 1, 1) := by decide +kernel
theorem dX8_answers_2 : decode cX8_answers 2 = .ok (.invokevirtual 157, 3) := by decide +kernel
theorem dX8_answers_5 : decode cX8_answers 5 = .ok (.ifCond .eq 29, 3) := by decide +kernel
theorem dX8_answers_8 : decode cX8_answers 8 = .ok (.iload_n 2, 1) := by decide +kernel
theorem dX8_answers_9 : decode cX8_answers 9 = .ok (.iconst 0, 1) := by decide +kernel
theorem dX8_answers_10 : decode cX8_answers 10 = .ok (.bipush 99, 2) := by decide +kernel
theorem dX8_answers_12 : decode cX8_answers 12 = .ok (.invokestatic 47, 3) := by decide +kernel
theorem dX8_answers_15 : decode cX8_answers 15 = .ok (.ifCond .eq 19, 3) := by decide +kernel
theorem dX8_answers_18 : decode cX8_answers 18 = .ok (.aload_n 0, 1) := by decide +kernel
theorem dX8_answers_19 : decode cX8_answers 19 = .ok (.bipush 8, 2) := by decide +kernel
theorem dX8_answers_21 : decode cX8_answers 21 = .ok (.iconst 5, 1) := by decide +kernel
theorem dX8_answers_22 : decode cX8_answers 22 = .ok (.iload_n 1, 1) := by decide +kernel
theorem dX8_answers_23 : decode cX8_answers 23 = .ok (.imul, 1) := by decide +kernel
theorem dX8_answers_24 : decode cX8_answers 24 = .ok (.iadd, 1) := by decide +kernel
theorem dX8_answers_25 : decode cX8_answers 25 = .ok (.iconst 2, 1) := by decide +kernel
theorem dX8_answers_26 : decode cX8_answers 26 = .ok (.iadd, 1) := by decide +kernel
theorem dX8_answers_27 : decode cX8_answers 27 = .ok (.iload_n 2, 1) := by decide +kernel
theorem dX8_answers_28 : decode cX8_answers 28 = .ok (.invokevirtual 163, 3) := by decide +kernel
theorem dX8_answers_31 : decode cX8_answers 31 = .ok (.goto 8, 3) := by decide +kernel
theorem dX8_answers_34 : decode cX8_answers 34 = .ok (.aload_n 0, 1) := by decide +kernel
theorem dX8_answers_35 : decode cX8_answers 35 = .ok (.iconst 1, 1) := by decide +kernel
theorem dX8_answers_36 : decode cX8_answers 36 = .ok (.invokevirtual 51, 3) := by decide +kernel
theorem dX8_answers_39 : decode cX8_answers 39 = .ok (.ireturn, 1) := by decide +kernel
theorem dX8_puts_0 : decode cX8_puts 0 = .ok (.aload_n 0, 1) := by decide +kernel
theorem dX8_puts_1 : decode cX8_puts 1 = .ok (.iload_n 1, 1) := by decide +kernel
theorem dX8_puts_2 : decode cX8_puts 2 = .ok (.invokevirtual 157, 3) := by decide +kernel
theorem dX8_puts_5 : decode cX8_puts 5 = .ok (.ifCond .eq 10, 3) := by decide +kernel
theorem dX8_puts_8 : decode cX8_puts 8 = .ok (.iload_n 2, 1) := by decide +kernel
theorem dX8_puts_9 : decode cX8_puts 9 = .ok (.invokestatic 169, 3) := by decide +kernel
theorem dX8_puts_12 : decode cX8_puts 12 = .ok (.ifCond .ne 9, 3) := by decide +kernel
theorem dX8_puts_15 : decode cX8_puts 15 = .ok (.aload_n 0, 1) := by decide +kernel
theorem dX8_puts_16 : decode cX8_puts 16 = .ok (.iconst 1, 1) := by decide +kernel
theorem dX8_puts_17 : decode cX8_puts 17 = .ok (.invokevirtual 51, 3) := by decide +kernel
theorem dX8_puts_20 : decode cX8_puts 20 = .ok (.ireturn, 1) := by decide +kernel
theorem dX8_puts_21 : decode cX8_puts 21 = .ok (.aload_n 0, 1) := by decide +kernel
theorem dX8_puts_22 : decode cX8_puts 22 = .ok (.iload_n 1, 1) := by decide +kernel
theorem dX8_puts_23 : decode cX8_puts 23 = .ok (.iconst 4, 1) := by decide +kernel
theorem dX8_puts_24 : decode cX8_puts 24 = .ok (.iconst 0, 1) := by decide +kernel
theorem dX8_puts_25 : decode cX8_puts 25 = .ok (.invokevirtual 142, 3) := by decide +kernel
theorem dX8_puts_28 : decode cX8_puts 28 = .ok (.aload_n 0, 1) := by decide +kernel
theorem dX8_puts_29 : decode cX8_puts 29 = .ok (.bipush 8, 2) := by decide +kernel
theorem dX8_puts_31 : decode cX8_puts 31 = .ok (.iconst 5, 1) := by decide +kernel
theorem dX8_puts_32 : decode cX8_puts 32 = .ok (.iload_n 1, 1) := by decide +kernel
theorem dX8_puts_33 : decode cX8_puts 33 = .ok (.imul, 1) := by decide +kernel
theorem dX8_puts_34 : decode cX8_puts 34 = .ok (.iadd, 1) := by decide +kernel
theorem dX8_puts_35 : decode cX8_puts 35 = .ok (.iconst 3, 1) := by decide +kernel
theorem dX8_puts_36 : decode cX8_puts 36 = .ok (.iadd, 1) := by decide +kernel
theorem dX8_puts_37 : decode cX8_puts 37 = .ok (.iload_n 2, 1) := by decide +kernel
theorem dX8_puts_38 : decode cX8_puts 38 = .ok (.invokevirtual 163, 3) := by decide +kernel
theorem dX8_puts_41 : decode cX8_puts 41 = .ok (.ireturn, 1) := by decide +kernel
theorem dX8_drop_0 : decode cX8_drop 0 = .ok (.iload_n 1, 1) := by decide +kernel
theorem dX8_drop_1 : decode cX8_drop 1 = .ok (.iconst 1, 1) := by decide +kernel
theorem dX8_drop_2 : decode cX8_drop 2 = .ok (.bipush 14, 2) := by decide +kernel
theorem dX8_drop_4 : decode cX8_drop 4 = .ok (.invokestatic 47, 3) := by decide +kernel
theorem dX8_drop_7 : decode cX8_drop 7 = .ok (.ifCond .eq 12, 3) := by decide +kernel
theorem dX8_drop_10 : decode cX8_drop 10 = .ok (.iload_n 2, 1) := by decide +kernel
theorem dX8_drop_11 : decode cX8_drop 11 = .ok (.iconst 0, 1) := by decide +kernel
theorem dX8_drop_12 : decode cX8_drop 12 = .ok (.iconst 1, 1) := by decide +kernel
theorem dX8_drop_13 : decode cX8_drop 13 = .ok (.invokestatic 47, 3) := by decide +kernel
theorem dX8_drop_16 : decode cX8_drop 16 = .ok (.ifCond .ne 9, 3) := by decide +kernel
theorem dX8_drop_19 : decode cX8_drop 19 = .ok (.aload_n 0, 1) := by decide +kernel
theorem dX8_drop_20 : decode cX8_drop 20 = .ok (.iconst 1, 1) := by decide +kernel
theorem dX8_drop_21 : decode cX8_drop 21 = .ok (.invokevirtual 51, 3) := by decide +kernel
theorem dX8_drop_24 : decode cX8_drop 24 = .ok (.ireturn, 1) := by decide +kernel
theorem dX8_drop_25 : decode cX8_drop 25 = .ok (.aload_n 0, 1) := by decide +kernel
theorem dX8_drop_26 : decode cX8_drop 26 = .ok (.getfield 7, 3) := by decide +kernel
theorem dX8_drop_29 : decode cX8_drop 29 = .ok (.iconst 1, 1) := by decide +kernel
theorem dX8_drop_30 : decode cX8_drop 30 = .ok (.iaload, 1) := by decide +kernel
theorem dX8_drop_31 : decode cX8_drop 31 = .ok (.iload_n 1, 1) := by decide +kernel
theorem dX8_drop_32 : decode cX8_drop 32 = .ok (.ishr, 1) := by decide +kernel
theorem dX8_drop_33 : decode cX8_drop 33 = .ok (.iconst 1, 1) := by decide +kernel
theorem dX8_drop_34 : decode cX8_drop 34 = .ok (.iand, 1) := by decide +kernel
theorem dX8_drop_35 : decode cX8_drop 35 = .ok (.istore_n 3, 1) := by decide +kernel
theorem dX8_drop_36 : decode cX8_drop 36 = .ok (.aload_n 0, 1) := by decide +kernel
theorem dX8_drop_37 : decode cX8_drop 37 = .ok (.getfield 7, 3) := by decide +kernel
theorem dX8_drop_40 : decode cX8_drop 40 = .ok (.iconst 1, 1) := by decide +kernel
theorem dX8_drop_41 : decode cX8_drop 41 = .ok (.aload_n 0, 1) := by decide +kernel
theorem dX8_drop_42 : decode cX8_drop 42 = .ok (.getfield 7, 3) := by decide +kernel
theorem dX8_drop_45 : decode cX8_drop 45 = .ok (.iconst 1, 1) := by decide +kernel
theorem dX8_drop_46 : decode cX8_drop 46 = .ok (.iaload, 1) := by decide +kernel
theorem dX8_drop_47 : decode cX8_drop 47 = .ok (.iconst 1, 1) := by decide +kernel
theorem dX8_drop_48 : decode cX8_drop 48 = .ok (.iload_n 1, 1) := by decide +kernel
theorem dX8_drop_49 : decode cX8_drop 49 = .ok (.ishl, 1) := by decide +kernel
theorem dX8_drop_50 : decode cX8_drop 50 = .ok (.iconst (-1), 1) := by decide +kernel
theorem dX8_drop_51 : decode cX8_drop 51 = .ok (.ixor, 1) := by decide +kernel
theorem dX8_drop_52 : decode cX8_drop 52 = .ok (.iand, 1) := by decide +kernel
theorem dX8_drop_53 : decode cX8_drop 53 = .ok (.iload_n 2, 1) := by decide +kernel
theorem dX8_drop_54 : decode cX8_drop 54 = .ok (.iload_n 1, 1) := by decide +kernel
theorem dX8_drop_55 : decode cX8_drop 55 = .ok (.ishl, 1) := by decide +kernel
theorem dX8_drop_56 : decode cX8_drop 56 = .ok (.ior, 1) := by decide +kernel
theorem dX8_drop_57 : decode cX8_drop 57 = .ok (.iastore, 1) := by decide +kernel
theorem dX8_drop_58 : decode cX8_drop 58 = .ok (.iload_n 3, 1) := by decide +kernel
theorem dX8_drop_59 : decode cX8_drop 59 = .ok (.ireturn, 1) := by decide +kernel
theorem dX8_law_0 : decode cX8_law 0 = .ok (.iload_n 1, 1) := by decide +kernel
theorem dX8_law_1 : decode cX8_law 1 = .ok (.iconst 0, 1) := by decide +kernel
theorem dX8_law_2 : decode cX8_law 2 = .ok (.iconst 1, 1) := by decide +kernel
theorem dX8_law_3 : decode cX8_law 3 = .ok (.invokestatic 47, 3) := by decide +kernel
theorem dX8_law_6 : decode cX8_law 6 = .ok (.ifCond .ne 9, 3) := by decide +kernel
theorem dX8_law_9 : decode cX8_law 9 = .ok (.aload_n 0, 1) := by decide +kernel
theorem dX8_law_10 : decode cX8_law 10 = .ok (.iconst 1, 1) := by decide +kernel
theorem dX8_law_11 : decode cX8_law 11 = .ok (.invokevirtual 51, 3) := by decide +kernel
theorem dX8_law_14 : decode cX8_law 14 = .ok (.ireturn, 1) := by decide +kernel
theorem dX8_law_15 : decode cX8_law 15 = .ok (.iload_n 1, 1) := by decide +kernel
theorem dX8_law_16 : decode cX8_law 16 = .ok (.ifCond .ne 14, 3) := by decide +kernel
theorem dX8_law_19 : decode cX8_law 19 = .ok (.aload_n 0, 1) := by decide +kernel
theorem dX8_law_20 : decode cX8_law 20 = .ok (.iload_n 2, 1) := by decide +kernel
theorem dX8_law_21 : decode cX8_law 21 = .ok (.iload_n 3, 1) := by decide +kernel
theorem dX8_law_22 : decode cX8_law 22 = .ok (.iload 4, 2) := by decide +kernel
theorem dX8_law_24 : decode cX8_law 24 = .ok (.invokevirtual 127, 3) := by decide +kernel
theorem dX8_law_27 : decode cX8_law 27 = .ok (.goto 11, 3) := by decide +kernel
theorem dX8_law_30 : decode cX8_law 30 = .ok (.aload_n 0, 1) := by decide +kernel
theorem dX8_law_31 : decode cX8_law 31 = .ok (.iload_n 2, 1) := by decide +kernel
theorem dX8_law_32 : decode cX8_law 32 = .ok (.iload_n 3, 1) := by decide +kernel
theorem dX8_law_33 : decode cX8_law 33 = .ok (.iload 4, 2) := by decide +kernel
theorem dX8_law_35 : decode cX8_law 35 = .ok (.invokevirtual 133, 3) := by decide +kernel
theorem dX8_law_38 : decode cX8_law 38 = .ok (.ireturn, 1) := by decide +kernel
theorem dX8_whyNot_0 : decode cX8_whyNot 0 = .ok (.iload_n 1, 1) := by decide +kernel
theorem dX8_whyNot_1 : decode cX8_whyNot 1 = .ok (.iconst 1, 1) := by decide +kernel
theorem dX8_whyNot_2 : decode cX8_whyNot 2 = .ok (.iload_n 2, 1) := by decide +kernel
theorem dX8_whyNot_3 : decode cX8_whyNot 3 = .ok (.invokestatic 47, 3) := by decide +kernel
theorem dX8_whyNot_6 : decode cX8_whyNot 6 = .ok (.ifCond .ne 7, 3) := by decide +kernel
theorem dX8_whyNot_9 : decode cX8_whyNot 9 = .ok (.iconst 1, 1) := by decide +kernel
theorem dX8_whyNot_10 : decode cX8_whyNot 10 = .ok (.goto 22, 3) := by decide +kernel
theorem dX8_whyNot_13 : decode cX8_whyNot 13 = .ok (.aload_n 0, 1) := by decide +kernel
theorem dX8_whyNot_14 : decode cX8_whyNot 14 = .ok (.getfield 7, 3) := by decide +kernel
theorem dX8_whyNot_17 : decode cX8_whyNot 17 = .ok (.iconst 0, 1) := by decide +kernel
theorem dX8_whyNot_18 : decode cX8_whyNot 18 = .ok (.iaload, 1) := by decide +kernel
theorem dX8_whyNot_19 : decode cX8_whyNot 19 = .ok (.iload_n 1, 1) := by decide +kernel
theorem dX8_whyNot_20 : decode cX8_whyNot 20 = .ok (.iadd, 1) := by decide +kernel
theorem dX8_whyNot_21 : decode cX8_whyNot 21 = .ok (.sipush 9999, 3) := by decide +kernel
theorem dX8_whyNot_24 : decode cX8_whyNot 24 = .ok (.if_icmp .le 7, 3) := by decide +kernel
theorem dX8_whyNot_27 : decode cX8_whyNot 27 = .ok (.iconst 3, 1) := by decide +kernel
theorem dX8_whyNot_28 : decode cX8_whyNot 28 = .ok (.goto 4, 3) := by decide +kernel
theorem dX8_whyNot_31 : decode cX8_whyNot 31 = .ok (.iconst 0, 1) := by decide +kernel
theorem dX8_whyNot_32 : decode cX8_whyNot 32 = .ok (.ireturn, 1) := by decide +kernel
theorem dX8_hours_0 : decode cX8_hours 0 = .ok (.aload_n 0, 1) := by decide +kernel
theorem dX8_hours_1 : decode cX8_hours 1 = .ok (.iload_n 1, 1) := by decide +kernel
theorem dX8_hours_2 : decode cX8_hours 2 = .ok (.bipush 60, 2) := by decide +kernel
theorem dX8_hours_4 : decode cX8_hours 4 = .ok (.invokevirtual 172, 3) := by decide +kernel
theorem dX8_hours_7 : decode cX8_hours 7 = .ok (.istore_n 2, 1) := by decide +kernel
theorem dX8_hours_8 : decode cX8_hours 8 = .ok (.iload_n 2, 1) := by decide +kernel
theorem dX8_hours_9 : decode cX8_hours 9 = .ok (.ifCond .eq 9, 3) := by decide +kernel
theorem dX8_hours_12 : decode cX8_hours 12 = .ok (.aload_n 0, 1) := by decide +kernel
theorem dX8_hours_13 : decode cX8_hours 13 = .ok (.iload_n 2, 1) := by decide +kernel
theorem dX8_hours_14 : decode cX8_hours 14 = .ok (.invokevirtual 51, 3) := by decide +kernel
theorem dX8_hours_17 : decode cX8_hours 17 = .ok (.ireturn, 1) := by decide +kernel
theorem dX8_hours_18 : decode cX8_hours 18 = .ok (.aload_n 0, 1) := by decide +kernel
theorem dX8_hours_19 : decode cX8_hours 19 = .ok (.iload_n 1, 1) := by decide +kernel
theorem dX8_hours_20 : decode cX8_hours 20 = .ok (.invokevirtual 175, 3) := by decide +kernel
theorem dX8_hours_23 : decode cX8_hours 23 = .ok (.aload_n 0, 1) := by decide +kernel
theorem dX8_hours_24 : decode cX8_hours 24 = .ok (.invokevirtual 178, 3) := by decide +kernel
theorem dX8_hours_27 : decode cX8_hours 27 = .ok (.ireturn, 1) := by decide +kernel
theorem dX8_chances_0 : decode cX8_chances 0 = .ok (.aload_n 0, 1) := by decide +kernel
theorem dX8_chances_1 : decode cX8_chances 1 = .ok (.getfield 7, 3) := by decide +kernel
theorem dX8_chances_4 : decode cX8_chances 4 = .ok (.iconst 5, 1) := by decide +kernel
theorem dX8_chances_5 : decode cX8_chances 5 = .ok (.iaload, 1) := by decide +kernel
theorem dX8_chances_6 : decode cX8_chances 6 = .ok (.ifCond .le 44, 3) := by decide +kernel
theorem dX8_chances_9 : decode cX8_chances 9 = .ok (.aload_n 0, 1) := by decide +kernel
theorem dX8_chances_10 : decode cX8_chances 10 = .ok (.invokevirtual 181, 3) := by decide +kernel
theorem dX8_chances_13 : decode cX8_chances 13 = .ok (.aload_n 0, 1) := by decide +kernel
theorem dX8_chances_14 : decode cX8_chances 14 = .ok (.getfield 7, 3) := by decide +kernel
theorem dX8_chances_17 : decode cX8_chances 17 = .ok (.iconst 5, 1) := by decide +kernel
theorem dX8_chances_18 : decode cX8_chances 18 = .ok (.iaload, 1) := by decide +kernel
theorem dX8_chances_19 : decode cX8_chances 19 = .ok (.irem, 1) := by decide +kernel
theorem dX8_chances_20 : decode cX8_chances 20 = .ok (.istore_n 1, 1) := by decide +kernel
theorem dX8_chances_21 : decode cX8_chances 21 = .ok (.aload_n 0, 1) := by decide +kernel
theorem dX8_chances_22 : decode cX8_chances 22 = .ok (.iload_n 1, 1) := by decide +kernel
theorem dX8_chances_23 : decode cX8_chances 23 = .ok (.iconst 2, 1) := by decide +kernel
theorem dX8_chances_24 : decode cX8_chances 24 = .ok (.aload_n 0, 1) := by decide +kernel
theorem dX8_chances_25 : decode cX8_chances 25 = .ok (.iload_n 1, 1) := by decide +kernel
theorem dX8_chances_26 : decode cX8_chances 26 = .ok (.iconst 2, 1) := by decide +kernel
theorem dX8_chances_27 : decode cX8_chances 27 = .ok (.invokevirtual 111, 3) := by decide +kernel
theorem dX8_chances_30 : decode cX8_chances 30 = .ok (.aload_n 0, 1) := by decide +kernel
theorem dX8_chances_31 : decode cX8_chances 31 = .ok (.invokevirtual 181, 3) := by decide +kernel
theorem dX8_chances_34 : decode cX8_chances 34 = .ok (.bipush 21, 2) := by decide +kernel
theorem dX8_chances_36 : decode cX8_chances 36 = .ok (.irem, 1) := by decide +kernel
theorem dX8_chances_37 : decode cX8_chances 37 = .ok (.iadd, 1) := by decide +kernel
theorem dX8_chances_38 : decode cX8_chances 38 = .ok (.bipush 10, 2) := by decide +kernel
theorem dX8_chances_40 : decode cX8_chances 40 = .ok (.isub, 1) := by decide +kernel
theorem dX8_chances_41 : decode cX8_chances 41 = .ok (.iconst 0, 1) := by decide +kernel
theorem dX8_chances_42 : decode cX8_chances 42 = .ok (.bipush 99, 2) := by decide +kernel
theorem dX8_chances_44 : decode cX8_chances 44 = .ok (.invokestatic 121, 3) := by decide +kernel
theorem dX8_chances_47 : decode cX8_chances 47 = .ok (.invokevirtual 142, 3) := by decide +kernel
theorem dX8_chances_50 : decode cX8_chances 50 = .ok (.iconst 1, 1) := by decide +kernel
theorem dX8_chances_51 : decode cX8_chances 51 = .ok (.aload_n 0, 1) := by decide +kernel
theorem dX8_chances_52 : decode cX8_chances 52 = .ok (.invokevirtual 181, 3) := by decide +kernel
theorem dX8_chances_55 : decode cX8_chances 55 = .ok (.bipush 14, 2) := by decide +kernel
theorem dX8_chances_57 : decode cX8_chances 57 = .ok (.irem, 1) := by decide +kernel
theorem dX8_chances_58 : decode cX8_chances 58 = .ok (.iadd, 1) := by decide +kernel
theorem dX8_chances_59 : decode cX8_chances 59 = .ok (.istore_n 1, 1) := by decide +kernel
theorem dX8_chances_60 : decode cX8_chances 60 = .ok (.aload_n 0, 1) := by decide +kernel
theorem dX8_chances_61 : decode cX8_chances 61 = .ok (.invokevirtual 181, 3) := by decide +kernel
theorem dX8_chances_64 : decode cX8_chances 64 = .ok (.bipush 8, 2) := by decide +kernel
theorem dX8_chances_66 : decode cX8_chances 66 = .ok (.irem, 1) := by decide +kernel
theorem dX8_chances_67 : decode cX8_chances 67 = .ok (.ifCond .ne 15, 3) := by decide +kernel
theorem dX8_chances_70 : decode cX8_chances 70 = .ok (.aload_n 0, 1) := by decide +kernel
theorem dX8_chances_71 : decode cX8_chances 71 = .ok (.getfield 7, 3) := by decide +kernel
theorem dX8_chances_74 : decode cX8_chances 74 = .ok (.iconst 1, 1) := by decide +kernel
theorem dX8_chances_75 : decode cX8_chances 75 = .ok (.dup2, 1) := by decide +kernel
theorem dX8_chances_76 : decode cX8_chances 76 = .ok (.iaload, 1) := by decide +kernel
theorem dX8_chances_77 : decode cX8_chances 77 = .ok (.iconst 1, 1) := by decide +kernel
theorem dX8_chances_78 : decode cX8_chances 78 = .ok (.iload_n 1, 1) := by decide +kernel
theorem dX8_chances_79 : decode cX8_chances 79 = .ok (.ishl, 1) := by decide +kernel
theorem dX8_chances_80 : decode cX8_chances 80 = .ok (.ixor, 1) := by decide +kernel
theorem dX8_chances_81 : decode cX8_chances 81 = .ok (.iastore, 1) := by decide +kernel
theorem dX8_chances_82 : decode cX8_chances 82 = .ok (.return_, 1) := by decide +kernel
theorem dX8_loose_0 : decode cX8_loose 0 = .ok (.aload_n 0, 1) := by decide +kernel
theorem dX8_loose_1 : decode cX8_loose 1 = .ok (.iload_n 1, 1) := by decide +kernel
theorem dX8_loose_2 : decode cX8_loose 2 = .ok (.bipush 30, 2) := by decide +kernel
theorem dX8_loose_4 : decode cX8_loose 4 = .ok (.invokevirtual 172, 3) := by decide +kernel
theorem dX8_loose_7 : decode cX8_loose 7 = .ok (.istore_n 2, 1) := by decide +kernel
theorem dX8_loose_8 : decode cX8_loose 8 = .ok (.iload_n 2, 1) := by decide +kernel
theorem dX8_loose_9 : decode cX8_loose 9 = .ok (.ifCond .eq 9, 3) := by decide +kernel
theorem dX8_loose_12 : decode cX8_loose 12 = .ok (.aload_n 0, 1) := by decide +kernel
theorem dX8_loose_13 : decode cX8_loose 13 = .ok (.iload_n 2, 1) := by decide +kernel
theorem dX8_loose_14 : decode cX8_loose 14 = .ok (.invokevirtual 51, 3) := by decide +kernel
theorem dX8_loose_17 : decode cX8_loose 17 = .ok (.ireturn, 1) := by decide +kernel
theorem dX8_loose_18 : decode cX8_loose 18 = .ok (.iconst 0, 1) := by decide +kernel
theorem dX8_loose_19 : decode cX8_loose 19 = .ok (.istore_n 3, 1) := by decide +kernel
theorem dX8_loose_20 : decode cX8_loose 20 = .ok (.iload_n 3, 1) := by decide +kernel
theorem dX8_loose_21 : decode cX8_loose 21 = .ok (.iload_n 1, 1) := by decide +kernel
theorem dX8_loose_22 : decode cX8_loose 22 = .ok (.if_icmp .ge 17, 3) := by decide +kernel
theorem dX8_loose_25 : decode cX8_loose 25 = .ok (.aload_n 0, 1) := by decide +kernel
theorem dX8_loose_26 : decode cX8_loose 26 = .ok (.invokevirtual 184, 3) := by decide +kernel
theorem dX8_loose_29 : decode cX8_loose 29 = .ok (.aload_n 0, 1) := by decide +kernel
theorem dX8_loose_30 : decode cX8_loose 30 = .ok (.invokevirtual 150, 3) := by decide +kernel
theorem dX8_loose_33 : decode cX8_loose 33 = .ok (.iinc 3 1, 3) := by decide +kernel
theorem dX8_loose_36 : decode cX8_loose 36 = .ok (.goto (-16), 3) := by decide +kernel
theorem dX8_loose_39 : decode cX8_loose 39 = .ok (.aload_n 0, 1) := by decide +kernel
theorem dX8_loose_40 : decode cX8_loose 40 = .ok (.invokevirtual 178, 3) := by decide +kernel
theorem dX8_loose_43 : decode cX8_loose 43 = .ok (.ireturn, 1) := by decide +kernel
theorem dX8_hour_0 : decode cX8_hour 0 = .ok (.iload_n 1, 1) := by decide +kernel
theorem dX8_hour_1 : decode cX8_hour 1 = .ok (.iconst 0, 1) := by decide +kernel
theorem dX8_hour_2 : decode cX8_hour 2 = .ok (.sipush 9999, 3) := by decide +kernel
theorem dX8_hour_5 : decode cX8_hour 5 = .ok (.invokestatic 47, 3) := by decide +kernel
theorem dX8_hour_8 : decode cX8_hour 8 = .ok (.ifCond .eq 12, 3) := by decide +kernel
theorem dX8_hour_11 : decode cX8_hour 11 = .ok (.aload_n 0, 1) := by decide +kernel
theorem dX8_hour_12 : decode cX8_hour 12 = .ok (.iconst 0, 1) := by decide +kernel
theorem dX8_hour_13 : decode cX8_hour 13 = .ok (.iload_n 1, 1) := by decide +kernel
theorem dX8_hour_14 : decode cX8_hour 14 = .ok (.invokevirtual 163, 3) := by decide +kernel
theorem dX8_hour_17 : decode cX8_hour 17 = .ok (.goto 8, 3) := by decide +kernel
theorem dX8_hour_20 : decode cX8_hour 20 = .ok (.aload_n 0, 1) := by decide +kernel
theorem dX8_hour_21 : decode cX8_hour 21 = .ok (.iconst 1, 1) := by decide +kernel
theorem dX8_hour_22 : decode cX8_hour 22 = .ok (.invokevirtual 51, 3) := by decide +kernel
theorem dX8_hour_25 : decode cX8_hour 25 = .ok (.ireturn, 1) := by decide +kernel
theorem dX8_seed_0 : decode cX8_seed 0 = .ok (.aload_n 0, 1) := by decide +kernel
theorem dX8_seed_1 : decode cX8_seed 1 = .ok (.iconst 2, 1) := by decide +kernel
theorem dX8_seed_2 : decode cX8_seed 2 = .ok (.iload_n 1, 1) := by decide +kernel
theorem dX8_seed_3 : decode cX8_seed 3 = .ok (.invokevirtual 163, 3) := by decide +kernel
theorem dX8_seed_6 : decode cX8_seed 6 = .ok (.ireturn, 1) := by decide +kernel
theorem dX8_then_0 : decode cX8_then 0 = .ok (.aload_n 0, 1) := by decide +kernel
theorem dX8_then_1 : decode cX8_then 1 = .ok (.iload_n 1, 1) := by decide +kernel
theorem dX8_then_2 : decode cX8_then 2 = .ok (.invokevirtual 157, 3) := by decide +kernel
theorem dX8_then_5 : decode cX8_then 5 = .ok (.ifCond .eq 22, 3) := by decide +kernel
theorem dX8_then_8 : decode cX8_then 8 = .ok (.iload_n 2, 1) := by decide +kernel
theorem dX8_then_9 : decode cX8_then 9 = .ok (.iconst 0, 1) := by decide +kernel
theorem dX8_then_10 : decode cX8_then 10 = .ok (.bipush 60, 2) := by decide +kernel
theorem dX8_then_12 : decode cX8_then 12 = .ok (.invokestatic 47, 3) := by decide +kernel
theorem dX8_then_15 : decode cX8_then 15 = .ok (.ifCond .eq 12, 3) := by decide +kernel
theorem dX8_then_18 : decode cX8_then 18 = .ok (.iload_n 3, 1) := by decide +kernel
theorem dX8_then_19 : decode cX8_then 19 = .ok (.iconst 0, 1) := by decide +kernel
theorem dX8_then_20 : decode cX8_then 20 = .ok (.iconst 1, 1) := by decide +kernel
theorem dX8_then_21 : decode cX8_then 21 = .ok (.invokestatic 47, 3) := by decide +kernel
theorem dX8_then_24 : decode cX8_then 24 = .ok (.ifCond .ne 9, 3) := by decide +kernel
theorem dX8_then_27 : decode cX8_then 27 = .ok (.aload_n 0, 1) := by decide +kernel
theorem dX8_then_28 : decode cX8_then 28 = .ok (.iconst 1, 1) := by decide +kernel
theorem dX8_then_29 : decode cX8_then 29 = .ok (.invokevirtual 51, 3) := by decide +kernel
theorem dX8_then_32 : decode cX8_then 32 = .ok (.ireturn, 1) := by decide +kernel
theorem dX8_then_33 : decode cX8_then 33 = .ok (.aload_n 0, 1) := by decide +kernel
theorem dX8_then_34 : decode cX8_then 34 = .ok (.invokevirtual 187, 3) := by decide +kernel
theorem dX8_then_37 : decode cX8_then 37 = .ok (.aload_n 0, 1) := by decide +kernel
theorem dX8_then_38 : decode cX8_then 38 = .ok (.iload_n 2, 1) := by decide +kernel
theorem dX8_then_39 : decode cX8_then 39 = .ok (.invokevirtual 175, 3) := by decide +kernel
theorem dX8_then_42 : decode cX8_then 42 = .ok (.aload_n 0, 1) := by decide +kernel
theorem dX8_then_43 : decode cX8_then 43 = .ok (.iload_n 1, 1) := by decide +kernel
theorem dX8_then_44 : decode cX8_then 44 = .ok (.iconst 3, 1) := by decide +kernel
theorem dX8_then_45 : decode cX8_then 45 = .ok (.iload_n 3, 1) := by decide +kernel
theorem dX8_then_46 : decode cX8_then 46 = .ok (.iadd, 1) := by decide +kernel
theorem dX8_then_47 : decode cX8_then 47 = .ok (.invokevirtual 111, 3) := by decide +kernel
theorem dX8_then_50 : decode cX8_then 50 = .ok (.istore 4, 2) := by decide +kernel
theorem dX8_then_52 : decode cX8_then 52 = .ok (.aload_n 0, 1) := by decide +kernel
theorem dX8_then_53 : decode cX8_then 53 = .ok (.invokevirtual 190, 3) := by decide +kernel
theorem dX8_then_56 : decode cX8_then 56 = .ok (.iload 4, 2) := by decide +kernel
theorem dX8_then_58 : decode cX8_then 58 = .ok (.ireturn, 1) := by decide +kernel
theorem dX8_comesBy_0 : decode cX8_comesBy 0 = .ok (.iconst (-1), 1) := by decide +kernel
theorem dX8_comesBy_1 : decode cX8_comesBy 1 = .ok (.istore 4, 2) := by decide +kernel
theorem dX8_comesBy_3 : decode cX8_comesBy 3 = .ok (.iconst 0, 1) := by decide +kernel
theorem dX8_comesBy_4 : decode cX8_comesBy 4 = .ok (.istore 5, 2) := by decide +kernel
theorem dX8_comesBy_6 : decode cX8_comesBy 6 = .ok (.iload 5, 2) := by decide +kernel
theorem dX8_comesBy_8 : decode cX8_comesBy 8 = .ok (.iload_n 3, 1) := by decide +kernel
theorem dX8_comesBy_9 : decode cX8_comesBy 9 = .ok (.if_icmp .gt 46, 3) := by decide +kernel
theorem dX8_comesBy_12 : decode cX8_comesBy 12 = .ok (.iload 4, 2) := by decide +kernel
theorem dX8_comesBy_14 : decode cX8_comesBy 14 = .ok (.iconst (-1), 1) := by decide +kernel
theorem dX8_comesBy_15 : decode cX8_comesBy 15 = .ok (.if_icmp .ne 40, 3) := by decide +kernel
theorem dX8_comesBy_18 : decode cX8_comesBy 18 = .ok (.aload_n 0, 1) := by decide +kernel
theorem dX8_comesBy_19 : decode cX8_comesBy 19 = .ok (.iload_n 1, 1) := by decide +kernel
theorem dX8_comesBy_20 : decode cX8_comesBy 20 = .ok (.iconst 4, 1) := by decide +kernel
theorem dX8_comesBy_21 : decode cX8_comesBy 21 = .ok (.invokevirtual 111, 3) := by decide +kernel
theorem dX8_comesBy_24 : decode cX8_comesBy 24 = .ok (.ifCond .ne 18, 3) := by decide +kernel
theorem dX8_comesBy_27 : decode cX8_comesBy 27 = .ok (.aload_n 0, 1) := by decide +kernel
theorem dX8_comesBy_28 : decode cX8_comesBy 28 = .ok (.iload_n 1, 1) := by decide +kernel
theorem dX8_comesBy_29 : decode cX8_comesBy 29 = .ok (.iconst 3, 1) := by decide +kernel
theorem dX8_comesBy_30 : decode cX8_comesBy 30 = .ok (.invokevirtual 111, 3) := by decide +kernel
theorem dX8_comesBy_33 : decode cX8_comesBy 33 = .ok (.iload_n 2, 1) := by decide +kernel
theorem dX8_comesBy_34 : decode cX8_comesBy 34 = .ok (.if_icmp .lt 8, 3) := by decide +kernel
theorem dX8_comesBy_37 : decode cX8_comesBy 37 = .ok (.iload 5, 2) := by decide +kernel
theorem dX8_comesBy_39 : decode cX8_comesBy 39 = .ok (.goto 4, 3) := by decide +kernel
theorem dX8_comesBy_42 : decode cX8_comesBy 42 = .ok (.iconst (-1), 1) := by decide +kernel
theorem dX8_comesBy_43 : decode cX8_comesBy 43 = .ok (.istore 4, 2) := by decide +kernel
theorem dX8_comesBy_45 : decode cX8_comesBy 45 = .ok (.aload_n 0, 1) := by decide +kernel
theorem dX8_comesBy_46 : decode cX8_comesBy 46 = .ok (.invokevirtual 150, 3) := by decide +kernel
theorem dX8_comesBy_49 : decode cX8_comesBy 49 = .ok (.iinc 5 1, 3) := by decide +kernel
theorem dX8_comesBy_52 : decode cX8_comesBy 52 = .ok (.goto (-46), 3) := by decide +kernel
theorem dX8_comesBy_55 : decode cX8_comesBy 55 = .ok (.iload 4, 2) := by decide +kernel
theorem dX8_comesBy_57 : decode cX8_comesBy 57 = .ok (.ireturn, 1) := by decide +kernel
theorem dX8_soonest_0 : decode cX8_soonest 0 = .ok (.aload_n 0, 1) := by decide +kernel
theorem dX8_soonest_1 : decode cX8_soonest 1 = .ok (.iload_n 1, 1) := by decide +kernel
theorem dX8_soonest_2 : decode cX8_soonest 2 = .ok (.invokevirtual 157, 3) := by decide +kernel
theorem dX8_soonest_5 : decode cX8_soonest 5 = .ok (.ifCond .eq 10, 3) := by decide +kernel
theorem dX8_soonest_8 : decode cX8_soonest 8 = .ok (.iload_n 2, 1) := by decide +kernel
theorem dX8_soonest_9 : decode cX8_soonest 9 = .ok (.invokestatic 169, 3) := by decide +kernel
theorem dX8_soonest_12 : decode cX8_soonest 12 = .ok (.ifCond .ne 9, 3) := by decide +kernel
theorem dX8_soonest_15 : decode cX8_soonest 15 = .ok (.aload_n 0, 1) := by decide +kernel
theorem dX8_soonest_16 : decode cX8_soonest 16 = .ok (.iconst 1, 1) := by decide +kernel
theorem dX8_soonest_17 : decode cX8_soonest 17 = .ok (.invokevirtual 51, 3) := by decide +kernel
theorem dX8_soonest_20 : decode cX8_soonest 20 = .ok (.ireturn, 1) := by decide +kernel
theorem dX8_soonest_21 : decode cX8_soonest 21 = .ok (.aload_n 0, 1) := by decide +kernel
theorem dX8_soonest_22 : decode cX8_soonest 22 = .ok (.invokevirtual 187, 3) := by decide +kernel
theorem dX8_soonest_25 : decode cX8_soonest 25 = .ok (.aload_n 0, 1) := by decide +kernel
theorem dX8_soonest_26 : decode cX8_soonest 26 = .ok (.iload_n 1, 1) := by decide +kernel
theorem dX8_soonest_27 : decode cX8_soonest 27 = .ok (.iload_n 2, 1) := by decide +kernel
theorem dX8_soonest_28 : decode cX8_soonest 28 = .ok (.bipush 60, 2) := by decide +kernel
theorem dX8_soonest_30 : decode cX8_soonest 30 = .ok (.invokevirtual 193, 3) := by decide +kernel
theorem dX8_soonest_33 : decode cX8_soonest 33 = .ok (.istore_n 3, 1) := by decide +kernel
theorem dX8_soonest_34 : decode cX8_soonest 34 = .ok (.aload_n 0, 1) := by decide +kernel
theorem dX8_soonest_35 : decode cX8_soonest 35 = .ok (.invokevirtual 190, 3) := by decide +kernel
theorem dX8_soonest_38 : decode cX8_soonest 38 = .ok (.iload_n 3, 1) := by decide +kernel
theorem dX8_soonest_39 : decode cX8_soonest 39 = .ok (.iconst (-1), 1) := by decide +kernel
theorem dX8_soonest_40 : decode cX8_soonest 40 = .ok (.if_icmp .ne 11, 3) := by decide +kernel
theorem dX8_soonest_43 : decode cX8_soonest 43 = .ok (.aload_n 0, 1) := by decide +kernel
theorem dX8_soonest_44 : decode cX8_soonest 44 = .ok (.iconst 2, 1) := by decide +kernel
theorem dX8_soonest_45 : decode cX8_soonest 45 = .ok (.invokevirtual 51, 3) := by decide +kernel
theorem dX8_soonest_48 : decode cX8_soonest 48 = .ok (.goto 4, 3) := by decide +kernel
theorem dX8_soonest_51 : decode cX8_soonest 51 = .ok (.iload_n 3, 1) := by decide +kernel
theorem dX8_soonest_52 : decode cX8_soonest 52 = .ok (.ireturn, 1) := by decide +kernel
theorem dX8_isSoon_0 : decode cX8_isSoon 0 = .ok (.iload_n 0, 1) := by decide +kernel
theorem dX8_isSoon_1 : decode cX8_isSoon 1 = .ok (.iconst 0, 1) := by decide +kernel
theorem dX8_isSoon_2 : decode cX8_isSoon 2 = .ok (.bipush 20, 2) := by decide +kernel
theorem dX8_isSoon_4 : decode cX8_isSoon 4 = .ok (.invokestatic 47, 3) := by decide +kernel
theorem dX8_isSoon_7 : decode cX8_isSoon 7 = .ok (.ireturn, 1) := by decide +kernel
theorem dX8_comesWith_0 : decode cX8_comesWith 0 = .ok (.aload_n 0, 1) := by decide +kernel
theorem dX8_comesWith_1 : decode cX8_comesWith 1 = .ok (.invokevirtual 187, 3) := by decide +kernel
theorem dX8_comesWith_4 : decode cX8_comesWith 4 = .ok (.aload_n 0, 1) := by decide +kernel
theorem dX8_comesWith_5 : decode cX8_comesWith 5 = .ok (.iload_n 1, 1) := by decide +kernel
theorem dX8_comesWith_6 : decode cX8_comesWith 6 = .ok (.iconst 2, 1) := by decide +kernel
theorem dX8_comesWith_7 : decode cX8_comesWith 7 = .ok (.iload 4, 2) := by decide +kernel
theorem dX8_comesWith_9 : decode cX8_comesWith 9 = .ok (.invokevirtual 142, 3) := by decide +kernel
theorem dX8_comesWith_12 : decode cX8_comesWith 12 = .ok (.aload_n 0, 1) := by decide +kernel
theorem dX8_comesWith_13 : decode cX8_comesWith 13 = .ok (.iload_n 1, 1) := by decide +kernel
theorem dX8_comesWith_14 : decode cX8_comesWith 14 = .ok (.iload_n 2, 1) := by decide +kernel
theorem dX8_comesWith_15 : decode cX8_comesWith 15 = .ok (.iload_n 3, 1) := by decide +kernel
theorem dX8_comesWith_16 : decode cX8_comesWith 16 = .ok (.invokevirtual 193, 3) := by decide +kernel
theorem dX8_comesWith_19 : decode cX8_comesWith 19 = .ok (.iconst (-1), 1) := by decide +kernel
theorem dX8_comesWith_20 : decode cX8_comesWith 20 = .ok (.if_icmp .eq 7, 3) := by decide +kernel
theorem dX8_comesWith_23 : decode cX8_comesWith 23 = .ok (.iconst 1, 1) := by decide +kernel
theorem dX8_comesWith_24 : decode cX8_comesWith 24 = .ok (.goto 4, 3) := by decide +kernel
theorem dX8_comesWith_27 : decode cX8_comesWith 27 = .ok (.iconst 0, 1) := by decide +kernel
theorem dX8_comesWith_28 : decode cX8_comesWith 28 = .ok (.istore 5, 2) := by decide +kernel
theorem dX8_comesWith_30 : decode cX8_comesWith 30 = .ok (.aload_n 0, 1) := by decide +kernel
theorem dX8_comesWith_31 : decode cX8_comesWith 31 = .ok (.invokevirtual 190, 3) := by decide +kernel
theorem dX8_comesWith_34 : decode cX8_comesWith 34 = .ok (.iload 5, 2) := by decide +kernel
theorem dX8_comesWith_36 : decode cX8_comesWith 36 = .ok (.ireturn, 1) := by decide +kernel
theorem dX8_least_0 : decode cX8_least 0 = .ok (.aload_n 0, 1) := by decide +kernel
theorem dX8_least_1 : decode cX8_least 1 = .ok (.iload_n 1, 1) := by decide +kernel
theorem dX8_least_2 : decode cX8_least 2 = .ok (.invokevirtual 157, 3) := by decide +kernel
theorem dX8_least_5 : decode cX8_least 5 = .ok (.ifCond .eq 17, 3) := by decide +kernel
theorem dX8_least_8 : decode cX8_least 8 = .ok (.iload_n 2, 1) := by decide +kernel
theorem dX8_least_9 : decode cX8_least 9 = .ok (.invokestatic 169, 3) := by decide +kernel
theorem dX8_least_12 : decode cX8_least 12 = .ok (.ifCond .eq 10, 3) := by decide +kernel
theorem dX8_least_15 : decode cX8_least 15 = .ok (.iload_n 3, 1) := by decide +kernel
theorem dX8_least_16 : decode cX8_least 16 = .ok (.invokestatic 196, 3) := by decide +kernel
theorem dX8_least_19 : decode cX8_least 19 = .ok (.ifCond .ne 9, 3) := by decide +kernel
theorem dX8_least_22 : decode cX8_least 22 = .ok (.aload_n 0, 1) := by decide +kernel
theorem dX8_least_23 : decode cX8_least 23 = .ok (.iconst 1, 1) := by decide +kernel
theorem dX8_least_24 : decode cX8_least 24 = .ok (.invokevirtual 51, 3) := by decide +kernel
theorem dX8_least_27 : decode cX8_least 27 = .ok (.ireturn, 1) := by decide +kernel
theorem dX8_least_28 : decode cX8_least 28 = .ok (.iconst 0, 1) := by decide +kernel
theorem dX8_least_29 : decode cX8_least 29 = .ok (.istore 4, 2) := by decide +kernel
theorem dX8_least_31 : decode cX8_least 31 = .ok (.iload 4, 2) := by decide +kernel
theorem dX8_least_33 : decode cX8_least 33 = .ok (.bipush 99, 2) := by decide +kernel
theorem dX8_least_35 : decode cX8_least 35 = .ok (.if_icmp .gt 21, 3) := by decide +kernel
theorem dX8_least_38 : decode cX8_least 38 = .ok (.aload_n 0, 1) := by decide +kernel
theorem dX8_least_39 : decode cX8_least 39 = .ok (.iload_n 1, 1) := by decide +kernel
theorem dX8_least_40 : decode cX8_least 40 = .ok (.iload_n 2, 1) := by decide +kernel
theorem dX8_least_41 : decode cX8_least 41 = .ok (.iload_n 3, 1) := by decide +kernel
theorem dX8_least_42 : decode cX8_least 42 = .ok (.iload 4, 2) := by decide +kernel
theorem dX8_least_44 : decode cX8_least 44 = .ok (.invokevirtual 199, 3) := by decide +kernel
theorem dX8_least_47 : decode cX8_least 47 = .ok (.ifCond .ne 9, 3) := by decide +kernel
theorem dX8_least_50 : decode cX8_least 50 = .ok (.iinc 4 1, 3) := by decide +kernel
theorem dX8_least_53 : decode cX8_least 53 = .ok (.goto (-22), 3) := by decide +kernel
theorem dX8_least_56 : decode cX8_least 56 = .ok (.iload 4, 2) := by decide +kernel
theorem dX8_least_58 : decode cX8_least 58 = .ok (.bipush 99, 2) := by decide +kernel
theorem dX8_least_60 : decode cX8_least 60 = .ok (.if_icmp .le 11, 3) := by decide +kernel
theorem dX8_least_63 : decode cX8_least 63 = .ok (.aload_n 0, 1) := by decide +kernel
theorem dX8_least_64 : decode cX8_least 64 = .ok (.iconst 2, 1) := by decide +kernel
theorem dX8_least_65 : decode cX8_least 65 = .ok (.invokevirtual 51, 3) := by decide +kernel
theorem dX8_least_68 : decode cX8_least 68 = .ok (.goto 5, 3) := by decide +kernel
theorem dX8_least_71 : decode cX8_least 71 = .ok (.iload 4, 2) := by decide +kernel
theorem dX8_least_73 : decode cX8_least 73 = .ok (.ireturn, 1) := by decide +kernel
theorem dX8_manyIn_0 : decode cX8_manyIn 0 = .ok (.iconst 0, 1) := by decide +kernel
theorem dX8_manyIn_1 : decode cX8_manyIn 1 = .ok (.istore_n 1, 1) := by decide +kernel
theorem dX8_manyIn_2 : decode cX8_manyIn 2 = .ok (.iload_n 0, 1) := by decide +kernel
theorem dX8_manyIn_3 : decode cX8_manyIn 3 = .ok (.istore_n 2, 1) := by decide +kernel
theorem dX8_manyIn_4 : decode cX8_manyIn 4 = .ok (.iload_n 2, 1) := by decide +kernel
theorem dX8_manyIn_5 : decode cX8_manyIn 5 = .ok (.ifCond .eq 15, 3) := by decide +kernel
theorem dX8_manyIn_8 : decode cX8_manyIn 8 = .ok (.iinc 1 1, 3) := by decide +kernel
theorem dX8_manyIn_11 : decode cX8_manyIn 11 = .ok (.iload_n 2, 1) := by decide +kernel
theorem dX8_manyIn_12 : decode cX8_manyIn 12 = .ok (.iload_n 2, 1) := by decide +kernel
theorem dX8_manyIn_13 : decode cX8_manyIn 13 = .ok (.iconst 1, 1) := by decide +kernel
theorem dX8_manyIn_14 : decode cX8_manyIn 14 = .ok (.isub, 1) := by decide +kernel
theorem dX8_manyIn_15 : decode cX8_manyIn 15 = .ok (.iand, 1) := by decide +kernel
theorem dX8_manyIn_16 : decode cX8_manyIn 16 = .ok (.istore_n 2, 1) := by decide +kernel
theorem dX8_manyIn_17 : decode cX8_manyIn 17 = .ok (.goto (-13), 3) := by decide +kernel
theorem dX8_manyIn_20 : decode cX8_manyIn 20 = .ok (.iload_n 1, 1) := by decide +kernel
theorem dX8_manyIn_21 : decode cX8_manyIn 21 = .ok (.ireturn, 1) := by decide +kernel
theorem dX8_comesWithout_0 : decode cX8_comesWithout 0 = .ok (.aload_n 0, 1) := by decide +kernel
theorem dX8_comesWithout_1 : decode cX8_comesWithout 1 = .ok (.invokevirtual 187, 3) := by decide +kernel
theorem dX8_comesWithout_4 : decode cX8_comesWithout 4 = .ok (.aload_n 0, 1) := by decide +kernel
theorem dX8_comesWithout_5 : decode cX8_comesWithout 5 = .ok (.getfield 7, 3) := by decide +kernel
theorem dX8_comesWithout_8 : decode cX8_comesWithout 8 = .ok (.iconst 1, 1) := by decide +kernel
theorem dX8_comesWithout_9 : decode cX8_comesWithout 9 = .ok (.dup2, 1) := by decide +kernel
theorem dX8_comesWithout_10 : decode cX8_comesWithout 10 = .ok (.iaload, 1) := by decide +kernel
theorem dX8_comesWithout_11 : decode cX8_comesWithout 11 = .ok (.iload 4, 2) := by decide +kernel
theorem dX8_comesWithout_13 : decode cX8_comesWithout 13 = .ok (.iconst (-1), 1) := by decide +kernel
theorem dX8_comesWithout_14 : decode cX8_comesWithout 14 = .ok (.ixor, 1) := by decide +kernel
theorem dX8_comesWithout_15 : decode cX8_comesWithout 15 = .ok (.iand, 1) := by decide +kernel
theorem dX8_comesWithout_16 : decode cX8_comesWithout 16 = .ok (.iastore, 1) := by decide +kernel
theorem dX8_comesWithout_17 : decode cX8_comesWithout 17 = .ok (.aload_n 0, 1) := by decide +kernel
theorem dX8_comesWithout_18 : decode cX8_comesWithout 18 = .ok (.iload_n 1, 1) := by decide +kernel
theorem dX8_comesWithout_19 : decode cX8_comesWithout 19 = .ok (.iload_n 2, 1) := by decide +kernel
theorem dX8_comesWithout_20 : decode cX8_comesWithout 20 = .ok (.iload_n 3, 1) := by decide +kernel
theorem dX8_comesWithout_21 : decode cX8_comesWithout 21 = .ok (.invokevirtual 193, 3) := by decide +kernel
theorem dX8_comesWithout_24 : decode cX8_comesWithout 24 = .ok (.iconst (-1), 1) := by decide +kernel
theorem dX8_comesWithout_25 : decode cX8_comesWithout 25 = .ok (.if_icmp .eq 7, 3) := by decide +kernel
theorem dX8_comesWithout_28 : decode cX8_comesWithout 28 = .ok (.iconst 1, 1) := by decide +kernel
theorem dX8_comesWithout_29 : decode cX8_comesWithout 29 = .ok (.goto 4, 3) := by decide +kernel
theorem dX8_comesWithout_32 : decode cX8_comesWithout 32 = .ok (.iconst 0, 1) := by decide +kernel
theorem dX8_comesWithout_33 : decode cX8_comesWithout 33 = .ok (.istore 5, 2) := by decide +kernel
theorem dX8_comesWithout_35 : decode cX8_comesWithout 35 = .ok (.aload_n 0, 1) := by decide +kernel
theorem dX8_comesWithout_36 : decode cX8_comesWithout 36 = .ok (.invokevirtual 190, 3) := by decide +kernel
theorem dX8_comesWithout_39 : decode cX8_comesWithout 39 = .ok (.iload 5, 2) := by decide +kernel
theorem dX8_comesWithout_41 : decode cX8_comesWithout 41 = .ok (.ireturn, 1) := by decide +kernel
theorem dX8_fills_0 : decode cX8_fills 0 = .ok (.aload_n 0, 1) := by decide +kernel
theorem dX8_fills_1 : decode cX8_fills 1 = .ok (.iload_n 1, 1) := by decide +kernel
theorem dX8_fills_2 : decode cX8_fills 2 = .ok (.invokevirtual 157, 3) := by decide +kernel
theorem dX8_fills_5 : decode cX8_fills 5 = .ok (.ifCond .eq 27, 3) := by decide +kernel
theorem dX8_fills_8 : decode cX8_fills 8 = .ok (.iload_n 2, 1) := by decide +kernel
theorem dX8_fills_9 : decode cX8_fills 9 = .ok (.invokestatic 169, 3) := by decide +kernel
theorem dX8_fills_12 : decode cX8_fills 12 = .ok (.ifCond .eq 20, 3) := by decide +kernel
theorem dX8_fills_15 : decode cX8_fills 15 = .ok (.iload_n 3, 1) := by decide +kernel
theorem dX8_fills_16 : decode cX8_fills 16 = .ok (.invokestatic 196, 3) := by decide +kernel
theorem dX8_fills_19 : decode cX8_fills 19 = .ok (.ifCond .eq 13, 3) := by decide +kernel
theorem dX8_fills_22 : decode cX8_fills 22 = .ok (.iload 4, 2) := by decide +kernel
theorem dX8_fills_24 : decode cX8_fills 24 = .ok (.iconst 0, 1) := by decide +kernel
theorem dX8_fills_25 : decode cX8_fills 25 = .ok (.iconst 1, 1) := by decide +kernel
theorem dX8_fills_26 : decode cX8_fills 26 = .ok (.invokestatic 47, 3) := by decide +kernel
theorem dX8_fills_29 : decode cX8_fills 29 = .ok (.ifCond .ne 9, 3) := by decide +kernel
theorem dX8_fills_32 : decode cX8_fills 32 = .ok (.aload_n 0, 1) := by decide +kernel
theorem dX8_fills_33 : decode cX8_fills 33 = .ok (.iconst 1, 1) := by decide +kernel
theorem dX8_fills_34 : decode cX8_fills 34 = .ok (.invokevirtual 51, 3) := by decide +kernel
theorem dX8_fills_37 : decode cX8_fills 37 = .ok (.ireturn, 1) := by decide +kernel
theorem dX8_fills_38 : decode cX8_fills 38 = .ok (.iconst (-1), 1) := by decide +kernel
theorem dX8_fills_39 : decode cX8_fills 39 = .ok (.istore 5, 2) := by decide +kernel
theorem dX8_fills_41 : decode cX8_fills 41 = .ok (.iconst 0, 1) := by decide +kernel
theorem dX8_fills_42 : decode cX8_fills 42 = .ok (.istore 6, 2) := by decide +kernel
theorem dX8_fills_44 : decode cX8_fills 44 = .ok (.iload 6, 2) := by decide +kernel
theorem dX8_fills_46 : decode cX8_fills 46 = .ok (.bipush 15, 2) := by decide +kernel
theorem dX8_fills_48 : decode cX8_fills 48 = .ok (.if_icmp .ge 152, 3) := by decide +kernel
theorem dX8_fills_51 : decode cX8_fills 51 = .ok (.iconst 0, 1) := by decide +kernel
theorem dX8_fills_52 : decode cX8_fills 52 = .ok (.istore 7, 2) := by decide +kernel
theorem dX8_fills_54 : decode cX8_fills 54 = .ok (.iload 7, 2) := by decide +kernel
theorem dX8_fills_56 : decode cX8_fills 56 = .ok (.iload 6, 2) := by decide +kernel
theorem dX8_fills_58 : decode cX8_fills 58 = .ok (.if_icmp .gt 136, 3) := by decide +kernel
theorem dX8_fills_61 : decode cX8_fills 61 = .ok (.iload 6, 2) := by decide +kernel
theorem dX8_fills_63 : decode cX8_fills 63 = .ok (.ifCond .ne 7, 3) := by decide +kernel
theorem dX8_fills_66 : decode cX8_fills 66 = .ok (.iconst 0, 1) := by decide +kernel
theorem dX8_fills_67 : decode cX8_fills 67 = .ok (.goto 7, 3) := by decide +kernel
theorem dX8_fills_70 : decode cX8_fills 70 = .ok (.iconst 1, 1) := by decide +kernel
theorem dX8_fills_71 : decode cX8_fills 71 = .ok (.iload 6, 2) := by decide +kernel
theorem dX8_fills_73 : decode cX8_fills 73 = .ok (.ishl, 1) := by decide +kernel
theorem dX8_fills_74 : decode cX8_fills 74 = .ok (.iload 7, 2) := by decide +kernel
theorem dX8_fills_76 : decode cX8_fills 76 = .ok (.ifCond .ne 7, 3) := by decide +kernel
theorem dX8_fills_79 : decode cX8_fills 79 = .ok (.iconst 0, 1) := by decide +kernel
theorem dX8_fills_80 : decode cX8_fills 80 = .ok (.goto 7, 3) := by decide +kernel
theorem dX8_fills_83 : decode cX8_fills 83 = .ok (.iconst 1, 1) := by decide +kernel
theorem dX8_fills_84 : decode cX8_fills 84 = .ok (.iload 7, 2) := by decide +kernel
theorem dX8_fills_86 : decode cX8_fills 86 = .ok (.ishl, 1) := by decide +kernel
theorem dX8_fills_87 : decode cX8_fills 87 = .ok (.ior, 1) := by decide +kernel
theorem dX8_fills_88 : decode cX8_fills 88 = .ok (.istore 8, 2) := by decide +kernel
theorem dX8_fills_90 : decode cX8_fills 90 = .ok (.iload 8, 2) := by decide +kernel
theorem dX8_fills_92 : decode cX8_fills 92 = .ok (.aload_n 0, 1) := by decide +kernel
theorem dX8_fills_93 : decode cX8_fills 93 = .ok (.getfield 7, 3) := by decide +kernel
theorem dX8_fills_96 : decode cX8_fills 96 = .ok (.iconst 1, 1) := by decide +kernel
theorem dX8_fills_97 : decode cX8_fills 97 = .ok (.iaload, 1) := by decide +kernel
theorem dX8_fills_98 : decode cX8_fills 98 = .ok (.iconst (-1), 1) := by decide +kernel
theorem dX8_fills_99 : decode cX8_fills 99 = .ok (.ixor, 1) := by decide +kernel
theorem dX8_fills_100 : decode cX8_fills 100 = .ok (.iand, 1) := by decide +kernel
theorem dX8_fills_101 : decode cX8_fills 101 = .ok (.ifCond .ne 7, 3) := by decide +kernel
theorem dX8_fills_104 : decode cX8_fills 104 = .ok (.iconst 1, 1) := by decide +kernel
theorem dX8_fills_105 : decode cX8_fills 105 = .ok (.goto 4, 3) := by decide +kernel
theorem dX8_fills_108 : decode cX8_fills 108 = .ok (.iconst 0, 1) := by decide +kernel
theorem dX8_fills_109 : decode cX8_fills 109 = .ok (.istore 9, 2) := by decide +kernel
theorem dX8_fills_111 : decode cX8_fills 111 = .ok (.iload 5, 2) := by decide +kernel
theorem dX8_fills_113 : decode cX8_fills 113 = .ok (.iconst (-1), 1) := by decide +kernel
theorem dX8_fills_114 : decode cX8_fills 114 = .ok (.if_icmp .eq 36, 3) := by decide +kernel
theorem dX8_fills_117 : decode cX8_fills 117 = .ok (.iload 8, 2) := by decide +kernel
theorem dX8_fills_119 : decode cX8_fills 119 = .ok (.invokestatic 203, 3) := by decide +kernel
theorem dX8_fills_122 : decode cX8_fills 122 = .ok (.iload 5, 2) := by decide +kernel
theorem dX8_fills_124 : decode cX8_fills 124 = .ok (.invokestatic 203, 3) := by decide +kernel
theorem dX8_fills_127 : decode cX8_fills 127 = .ok (.if_icmp .lt 23, 3) := by decide +kernel
theorem dX8_fills_130 : decode cX8_fills 130 = .ok (.iload 8, 2) := by decide +kernel
theorem dX8_fills_132 : decode cX8_fills 132 = .ok (.invokestatic 203, 3) := by decide +kernel
theorem dX8_fills_135 : decode cX8_fills 135 = .ok (.iload 5, 2) := by decide +kernel
theorem dX8_fills_137 : decode cX8_fills 137 = .ok (.invokestatic 203, 3) := by decide +kernel
theorem dX8_fills_140 : decode cX8_fills 140 = .ok (.if_icmp .ne 14, 3) := by decide +kernel
theorem dX8_fills_143 : decode cX8_fills 143 = .ok (.iload 8, 2) := by decide +kernel
theorem dX8_fills_145 : decode cX8_fills 145 = .ok (.iload 5, 2) := by decide +kernel
theorem dX8_fills_147 : decode cX8_fills 147 = .ok (.if_icmp .ge 7, 3) := by decide +kernel
theorem dX8_fills_150 : decode cX8_fills 150 = .ok (.iconst 1, 1) := by decide +kernel
theorem dX8_fills_151 : decode cX8_fills 151 = .ok (.goto 4, 3) := by decide +kernel
theorem dX8_fills_154 : decode cX8_fills 154 = .ok (.iconst 0, 1) := by decide +kernel
theorem dX8_fills_155 : decode cX8_fills 155 = .ok (.istore 10, 2) := by decide +kernel
theorem dX8_fills_157 : decode cX8_fills 157 = .ok (.iload 9, 2) := by decide +kernel
theorem dX8_fills_159 : decode cX8_fills 159 = .ok (.ifCond .eq 25, 3) := by decide +kernel
theorem dX8_fills_162 : decode cX8_fills 162 = .ok (.iload 10, 2) := by decide +kernel
theorem dX8_fills_164 : decode cX8_fills 164 = .ok (.ifCond .eq 20, 3) := by decide +kernel
theorem dX8_fills_167 : decode cX8_fills 167 = .ok (.aload_n 0, 1) := by decide +kernel
theorem dX8_fills_168 : decode cX8_fills 168 = .ok (.iload_n 1, 1) := by decide +kernel
theorem dX8_fills_169 : decode cX8_fills 169 = .ok (.iload_n 2, 1) := by decide +kernel
theorem dX8_fills_170 : decode cX8_fills 170 = .ok (.iload_n 3, 1) := by decide +kernel
theorem dX8_fills_171 : decode cX8_fills 171 = .ok (.iload 8, 2) := by decide +kernel
theorem dX8_fills_173 : decode cX8_fills 173 = .ok (.invokevirtual 206, 3) := by decide +kernel
theorem dX8_fills_176 : decode cX8_fills 176 = .ok (.ifCond .eq 8, 3) := by decide +kernel
theorem dX8_fills_179 : decode cX8_fills 179 = .ok (.iload 8, 2) := by decide +kernel
theorem dX8_fills_181 : decode cX8_fills 181 = .ok (.goto 5, 3) := by decide +kernel
theorem dX8_fills_184 : decode cX8_fills 184 = .ok (.iload 5, 2) := by decide +kernel
theorem dX8_fills_186 : decode cX8_fills 186 = .ok (.istore 5, 2) := by decide +kernel
theorem dX8_fills_188 : decode cX8_fills 188 = .ok (.iinc 7 1, 3) := by decide +kernel
theorem dX8_fills_191 : decode cX8_fills 191 = .ok (.goto (-137), 3) := by decide +kernel
theorem dX8_fills_194 : decode cX8_fills 194 = .ok (.iinc 6 1, 3) := by decide +kernel
theorem dX8_fills_197 : decode cX8_fills 197 = .ok (.goto (-153), 3) := by decide +kernel
theorem dX8_fills_200 : decode cX8_fills 200 = .ok (.iload 5, 2) := by decide +kernel
theorem dX8_fills_202 : decode cX8_fills 202 = .ok (.iconst (-1), 1) := by decide +kernel
theorem dX8_fills_203 : decode cX8_fills 203 = .ok (.if_icmp .ne 11, 3) := by decide +kernel
theorem dX8_fills_206 : decode cX8_fills 206 = .ok (.aload_n 0, 1) := by decide +kernel
theorem dX8_fills_207 : decode cX8_fills 207 = .ok (.iconst 2, 1) := by decide +kernel
theorem dX8_fills_208 : decode cX8_fills 208 = .ok (.invokevirtual 51, 3) := by decide +kernel
theorem dX8_fills_211 : decode cX8_fills 211 = .ok (.goto 18, 3) := by decide +kernel
theorem dX8_fills_214 : decode cX8_fills 214 = .ok (.iload 4, 2) := by decide +kernel
theorem dX8_fills_216 : decode cX8_fills 216 = .ok (.ifCond .ne 11, 3) := by decide +kernel
theorem dX8_fills_219 : decode cX8_fills 219 = .ok (.iload 5, 2) := by decide +kernel
theorem dX8_fills_221 : decode cX8_fills 221 = .ok (.invokestatic 203, 3) := by decide +kernel
theorem dX8_fills_224 : decode cX8_fills 224 = .ok (.goto 5, 3) := by decide +kernel
theorem dX8_fills_227 : decode cX8_fills 227 = .ok (.iload 5, 2) := by decide +kernel
theorem dX8_fills_229 : decode cX8_fills 229 = .ok (.ireturn, 1) := by decide +kernel
theorem dX8_farWith_0 : decode cX8_farWith 0 = .ok (.aload_n 0, 1) := by decide +kernel
theorem dX8_farWith_1 : decode cX8_farWith 1 = .ok (.invokevirtual 187, 3) := by decide +kernel
theorem dX8_farWith_4 : decode cX8_farWith 4 = .ok (.aload_n 0, 1) := by decide +kernel
theorem dX8_farWith_5 : decode cX8_farWith 5 = .ok (.iload_n 2, 1) := by decide +kernel
theorem dX8_farWith_6 : decode cX8_farWith 6 = .ok (.iconst 3, 1) := by decide +kernel
theorem dX8_farWith_7 : decode cX8_farWith 7 = .ok (.invokevirtual 111, 3) := by decide +kernel
theorem dX8_farWith_10 : decode cX8_farWith 10 = .ok (.istore 4, 2) := by decide +kernel
theorem dX8_farWith_12 : decode cX8_farWith 12 = .ok (.aload_n 0, 1) := by decide +kernel
theorem dX8_farWith_13 : decode cX8_farWith 13 = .ok (.iload_n 1, 1) := by decide +kernel
theorem dX8_farWith_14 : decode cX8_farWith 14 = .ok (.iconst 3, 1) := by decide +kernel
theorem dX8_farWith_15 : decode cX8_farWith 15 = .ok (.iload 4, 2) := by decide +kernel
theorem dX8_farWith_17 : decode cX8_farWith 17 = .ok (.invokevirtual 142, 3) := by decide +kernel
theorem dX8_farWith_20 : decode cX8_farWith 20 = .ok (.aload_n 0, 1) := by decide +kernel
theorem dX8_farWith_21 : decode cX8_farWith 21 = .ok (.iload_n 1, 1) := by decide +kernel
theorem dX8_farWith_22 : decode cX8_farWith 22 = .ok (.iconst 4, 1) := by decide +kernel
theorem dX8_farWith_23 : decode cX8_farWith 23 = .ok (.iconst 0, 1) := by decide +kernel
theorem dX8_farWith_24 : decode cX8_farWith 24 = .ok (.invokevirtual 142, 3) := by decide +kernel
theorem dX8_farWith_27 : decode cX8_farWith 27 = .ok (.aload_n 0, 1) := by decide +kernel
theorem dX8_farWith_28 : decode cX8_farWith 28 = .ok (.iload_n 3, 1) := by decide +kernel
theorem dX8_farWith_29 : decode cX8_farWith 29 = .ok (.invokevirtual 175, 3) := by decide +kernel
theorem dX8_farWith_32 : decode cX8_farWith 32 = .ok (.aload_n 0, 1) := by decide +kernel
theorem dX8_farWith_33 : decode cX8_farWith 33 = .ok (.iload_n 1, 1) := by decide +kernel
theorem dX8_farWith_34 : decode cX8_farWith 34 = .ok (.iconst 4, 1) := by decide +kernel
theorem dX8_farWith_35 : decode cX8_farWith 35 = .ok (.invokevirtual 111, 3) := by decide +kernel
theorem dX8_farWith_38 : decode cX8_farWith 38 = .ok (.iconst 1, 1) := by decide +kernel
theorem dX8_farWith_39 : decode cX8_farWith 39 = .ok (.if_icmp .ne 7, 3) := by decide +kernel
theorem dX8_farWith_42 : decode cX8_farWith 42 = .ok (.iconst 0, 1) := by decide +kernel
theorem dX8_farWith_43 : decode cX8_farWith 43 = .ok (.goto 12, 3) := by decide +kernel
theorem dX8_farWith_46 : decode cX8_farWith 46 = .ok (.aload_n 0, 1) := by decide +kernel
theorem dX8_farWith_47 : decode cX8_farWith 47 = .ok (.iload_n 1, 1) := by decide +kernel
theorem dX8_farWith_48 : decode cX8_farWith 48 = .ok (.iconst 3, 1) := by decide +kernel
theorem dX8_farWith_49 : decode cX8_farWith 49 = .ok (.invokevirtual 111, 3) := by decide +kernel
theorem dX8_farWith_52 : decode cX8_farWith 52 = .ok (.iload 4, 2) := by decide +kernel
theorem dX8_farWith_54 : decode cX8_farWith 54 = .ok (.isub, 1) := by decide +kernel
theorem dX8_farWith_55 : decode cX8_farWith 55 = .ok (.istore 5, 2) := by decide +kernel
theorem dX8_farWith_57 : decode cX8_farWith 57 = .ok (.aload_n 0, 1) := by decide +kernel
theorem dX8_farWith_58 : decode cX8_farWith 58 = .ok (.invokevirtual 190, 3) := by decide +kernel
theorem dX8_farWith_61 : decode cX8_farWith 61 = .ok (.iload 5, 2) := by decide +kernel
theorem dX8_farWith_63 : decode cX8_farWith 63 = .ok (.ireturn, 1) := by decide +kernel
theorem dX8_withWhom_0 : decode cX8_withWhom 0 = .ok (.aload_n 0, 1) := by decide +kernel
theorem dX8_withWhom_1 : decode cX8_withWhom 1 = .ok (.iload_n 1, 1) := by decide +kernel
theorem dX8_withWhom_2 : decode cX8_withWhom 2 = .ok (.invokevirtual 157, 3) := by decide +kernel
theorem dX8_withWhom_5 : decode cX8_withWhom 5 = .ok (.ifCond .eq 10, 3) := by decide +kernel
theorem dX8_withWhom_8 : decode cX8_withWhom 8 = .ok (.iload_n 2, 1) := by decide +kernel
theorem dX8_withWhom_9 : decode cX8_withWhom 9 = .ok (.invokestatic 196, 3) := by decide +kernel
theorem dX8_withWhom_12 : decode cX8_withWhom 12 = .ok (.ifCond .ne 9, 3) := by decide +kernel
theorem dX8_withWhom_15 : decode cX8_withWhom 15 = .ok (.aload_n 0, 1) := by decide +kernel
theorem dX8_withWhom_16 : decode cX8_withWhom 16 = .ok (.iconst 1, 1) := by decide +kernel
theorem dX8_withWhom_17 : decode cX8_withWhom 17 = .ok (.invokevirtual 51, 3) := by decide +kernel
theorem dX8_withWhom_20 : decode cX8_withWhom 20 = .ok (.ireturn, 1) := by decide +kernel
theorem dX8_withWhom_21 : decode cX8_withWhom 21 = .ok (.iconst (-1), 1) := by decide +kernel
theorem dX8_withWhom_22 : decode cX8_withWhom 22 = .ok (.istore_n 3, 1) := by decide +kernel
theorem dX8_withWhom_23 : decode cX8_withWhom 23 = .ok (.iconst (-1), 1) := by decide +kernel
theorem dX8_withWhom_24 : decode cX8_withWhom 24 = .ok (.istore 4, 2) := by decide +kernel
theorem dX8_withWhom_26 : decode cX8_withWhom 26 = .ok (.iconst 0, 1) := by decide +kernel
theorem dX8_withWhom_27 : decode cX8_withWhom 27 = .ok (.istore 5, 2) := by decide +kernel
theorem dX8_withWhom_29 : decode cX8_withWhom 29 = .ok (.iload 5, 2) := by decide +kernel
theorem dX8_withWhom_31 : decode cX8_withWhom 31 = .ok (.aload_n 0, 1) := by decide +kernel
theorem dX8_withWhom_32 : decode cX8_withWhom 32 = .ok (.getfield 7, 3) := by decide +kernel
theorem dX8_withWhom_35 : decode cX8_withWhom 35 = .ok (.iconst 5, 1) := by decide +kernel
theorem dX8_withWhom_36 : decode cX8_withWhom 36 = .ok (.iaload, 1) := by decide +kernel
theorem dX8_withWhom_37 : decode cX8_withWhom 37 = .ok (.if_icmp .ge 59, 3) := by decide +kernel
theorem dX8_withWhom_40 : decode cX8_withWhom 40 = .ok (.iload 5, 2) := by decide +kernel
theorem dX8_withWhom_42 : decode cX8_withWhom 42 = .ok (.iload_n 1, 1) := by decide +kernel
theorem dX8_withWhom_43 : decode cX8_withWhom 43 = .ok (.if_icmp .ne 7, 3) := by decide +kernel
theorem dX8_withWhom_46 : decode cX8_withWhom 46 = .ok (.iconst (-1), 1) := by decide +kernel
theorem dX8_withWhom_47 : decode cX8_withWhom 47 = .ok (.goto 11, 3) := by decide +kernel
theorem dX8_withWhom_50 : decode cX8_withWhom 50 = .ok (.aload_n 0, 1) := by decide +kernel
theorem dX8_withWhom_51 : decode cX8_withWhom 51 = .ok (.iload_n 1, 1) := by decide +kernel
theorem dX8_withWhom_52 : decode cX8_withWhom 52 = .ok (.iload 5, 2) := by decide +kernel
theorem dX8_withWhom_54 : decode cX8_withWhom 54 = .ok (.iload_n 2, 1) := by decide +kernel
theorem dX8_withWhom_55 : decode cX8_withWhom 55 = .ok (.invokevirtual 209, 3) := by decide +kernel
theorem dX8_withWhom_58 : decode cX8_withWhom 58 = .ok (.istore 6, 2) := by decide +kernel
theorem dX8_withWhom_60 : decode cX8_withWhom 60 = .ok (.iload 6, 2) := by decide +kernel
theorem dX8_withWhom_62 : decode cX8_withWhom 62 = .ok (.iload 4, 2) := by decide +kernel
theorem dX8_withWhom_64 : decode cX8_withWhom 64 = .ok (.if_icmp .le 8, 3) := by decide +kernel
theorem dX8_withWhom_67 : decode cX8_withWhom 67 = .ok (.iload 5, 2) := by decide +kernel
theorem dX8_withWhom_69 : decode cX8_withWhom 69 = .ok (.goto 4, 3) := by decide +kernel
theorem dX8_withWhom_72 : decode cX8_withWhom 72 = .ok (.iload_n 3, 1) := by decide +kernel
theorem dX8_withWhom_73 : decode cX8_withWhom 73 = .ok (.istore_n 3, 1) := by decide +kernel
theorem dX8_withWhom_74 : decode cX8_withWhom 74 = .ok (.iload 6, 2) := by decide +kernel
theorem dX8_withWhom_76 : decode cX8_withWhom 76 = .ok (.iload 4, 2) := by decide +kernel
theorem dX8_withWhom_78 : decode cX8_withWhom 78 = .ok (.if_icmp .le 8, 3) := by decide +kernel
theorem dX8_withWhom_81 : decode cX8_withWhom 81 = .ok (.iload 6, 2) := by decide +kernel
theorem dX8_withWhom_83 : decode cX8_withWhom 83 = .ok (.goto 5, 3) := by decide +kernel
theorem dX8_withWhom_86 : decode cX8_withWhom 86 = .ok (.iload 4, 2) := by decide +kernel
theorem dX8_withWhom_88 : decode cX8_withWhom 88 = .ok (.istore 4, 2) := by decide +kernel
theorem dX8_withWhom_90 : decode cX8_withWhom 90 = .ok (.iinc 5 1, 3) := by decide +kernel
theorem dX8_withWhom_93 : decode cX8_withWhom 93 = .ok (.goto (-64), 3) := by decide +kernel
theorem dX8_withWhom_96 : decode cX8_withWhom 96 = .ok (.iload_n 3, 1) := by decide +kernel
theorem dX8_withWhom_97 : decode cX8_withWhom 97 = .ok (.iconst (-1), 1) := by decide +kernel
theorem dX8_withWhom_98 : decode cX8_withWhom 98 = .ok (.if_icmp .ne 11, 3) := by decide +kernel
theorem dX8_withWhom_101 : decode cX8_withWhom 101 = .ok (.aload_n 0, 1) := by decide +kernel
theorem dX8_withWhom_102 : decode cX8_withWhom 102 = .ok (.iconst 2, 1) := by decide +kernel
theorem dX8_withWhom_103 : decode cX8_withWhom 103 = .ok (.invokevirtual 51, 3) := by decide +kernel
theorem dX8_withWhom_106 : decode cX8_withWhom 106 = .ok (.goto 4, 3) := by decide +kernel
theorem dX8_withWhom_109 : decode cX8_withWhom 109 = .ok (.iload_n 3, 1) := by decide +kernel
theorem dX8_withWhom_110 : decode cX8_withWhom 110 = .ok (.ireturn, 1) := by decide +kernel
theorem dX8_divisor_0 : decode cX8_divisor 0 = .ok (.iload_n 0, 1) := by decide +kernel
theorem dX8_divisor_1 : decode cX8_divisor 1 = .ok (.istore_n 2, 1) := by decide +kernel
theorem dX8_divisor_2 : decode cX8_divisor 2 = .ok (.iload_n 1, 1) := by decide +kernel
theorem dX8_divisor_3 : decode cX8_divisor 3 = .ok (.istore_n 3, 1) := by decide +kernel
theorem dX8_divisor_4 : decode cX8_divisor 4 = .ok (.iload_n 3, 1) := by decide +kernel
theorem dX8_divisor_5 : decode cX8_divisor 5 = .ok (.ifCond .eq 16, 3) := by decide +kernel
theorem dX8_divisor_8 : decode cX8_divisor 8 = .ok (.iload_n 2, 1) := by decide +kernel
theorem dX8_divisor_9 : decode cX8_divisor 9 = .ok (.iload_n 3, 1) := by decide +kernel
theorem dX8_divisor_10 : decode cX8_divisor 10 = .ok (.irem, 1) := by decide +kernel
theorem dX8_divisor_11 : decode cX8_divisor 11 = .ok (.istore 4, 2) := by decide +kernel
theorem dX8_divisor_13 : decode cX8_divisor 13 = .ok (.iload_n 3, 1) := by decide +kernel
theorem dX8_divisor_14 : decode cX8_divisor 14 = .ok (.istore_n 2, 1) := by decide +kernel
theorem dX8_divisor_15 : decode cX8_divisor 15 = .ok (.iload 4, 2) := by decide +kernel
theorem dX8_divisor_17 : decode cX8_divisor 17 = .ok (.istore_n 3, 1) := by decide +kernel
theorem dX8_divisor_18 : decode cX8_divisor 18 = .ok (.goto (-14), 3) := by decide +kernel
theorem dX8_divisor_21 : decode cX8_divisor 21 = .ok (.iload_n 2, 1) := by decide +kernel
theorem dX8_divisor_22 : decode cX8_divisor 22 = .ok (.ireturn, 1) := by decide +kernel
theorem dX8_odds_0 : decode cX8_odds 0 = .ok (.aload_n 0, 1) := by decide +kernel
theorem dX8_odds_1 : decode cX8_odds 1 = .ok (.iload_n 1, 1) := by decide +kernel
theorem dX8_odds_2 : decode cX8_odds 2 = .ok (.invokevirtual 157, 3) := by decide +kernel
theorem dX8_odds_5 : decode cX8_odds 5 = .ok (.ifCond .eq 27, 3) := by decide +kernel
theorem dX8_odds_8 : decode cX8_odds 8 = .ok (.iload_n 2, 1) := by decide +kernel
theorem dX8_odds_9 : decode cX8_odds 9 = .ok (.invokestatic 169, 3) := by decide +kernel
theorem dX8_odds_12 : decode cX8_odds 12 = .ok (.ifCond .eq 20, 3) := by decide +kernel
theorem dX8_odds_15 : decode cX8_odds 15 = .ok (.iload_n 3, 1) := by decide +kernel
theorem dX8_odds_16 : decode cX8_odds 16 = .ok (.invokestatic 196, 3) := by decide +kernel
theorem dX8_odds_19 : decode cX8_odds 19 = .ok (.ifCond .eq 13, 3) := by decide +kernel
theorem dX8_odds_22 : decode cX8_odds 22 = .ok (.iload 4, 2) := by decide +kernel
theorem dX8_odds_24 : decode cX8_odds 24 = .ok (.iconst 0, 1) := by decide +kernel
theorem dX8_odds_25 : decode cX8_odds 25 = .ok (.iconst 1, 1) := by decide +kernel
theorem dX8_odds_26 : decode cX8_odds 26 = .ok (.invokestatic 47, 3) := by decide +kernel
theorem dX8_odds_29 : decode cX8_odds 29 = .ok (.ifCond .ne 9, 3) := by decide +kernel
theorem dX8_odds_32 : decode cX8_odds 32 = .ok (.aload_n 0, 1) := by decide +kernel
theorem dX8_odds_33 : decode cX8_odds 33 = .ok (.iconst 1, 1) := by decide +kernel
theorem dX8_odds_34 : decode cX8_odds 34 = .ok (.invokevirtual 51, 3) := by decide +kernel
theorem dX8_odds_37 : decode cX8_odds 37 = .ok (.ireturn, 1) := by decide +kernel
theorem dX8_odds_38 : decode cX8_odds 38 = .ok (.iconst 0, 1) := by decide +kernel
theorem dX8_odds_39 : decode cX8_odds 39 = .ok (.istore 5, 2) := by decide +kernel
theorem dX8_odds_41 : decode cX8_odds 41 = .ok (.iconst 0, 1) := by decide +kernel
theorem dX8_odds_42 : decode cX8_odds 42 = .ok (.istore 6, 2) := by decide +kernel
theorem dX8_odds_44 : decode cX8_odds 44 = .ok (.iload 6, 2) := by decide +kernel
theorem dX8_odds_46 : decode cX8_odds 46 = .ok (.bipush 99, 2) := by decide +kernel
theorem dX8_odds_48 : decode cX8_odds 48 = .ok (.if_icmp .gt 31, 3) := by decide +kernel
theorem dX8_odds_51 : decode cX8_odds 51 = .ok (.iload 5, 2) := by decide +kernel
theorem dX8_odds_53 : decode cX8_odds 53 = .ok (.aload_n 0, 1) := by decide +kernel
theorem dX8_odds_54 : decode cX8_odds 54 = .ok (.iload_n 1, 1) := by decide +kernel
theorem dX8_odds_55 : decode cX8_odds 55 = .ok (.iload_n 2, 1) := by decide +kernel
theorem dX8_odds_56 : decode cX8_odds 56 = .ok (.iload_n 3, 1) := by decide +kernel
theorem dX8_odds_57 : decode cX8_odds 57 = .ok (.iload 6, 2) := by decide +kernel
theorem dX8_odds_59 : decode cX8_odds 59 = .ok (.invokevirtual 199, 3) := by decide +kernel
theorem dX8_odds_62 : decode cX8_odds 62 = .ok (.ifCond .eq 7, 3) := by decide +kernel
theorem dX8_odds_65 : decode cX8_odds 65 = .ok (.iconst 1, 1) := by decide +kernel
theorem dX8_odds_66 : decode cX8_odds 66 = .ok (.goto 4, 3) := by decide +kernel
theorem dX8_odds_69 : decode cX8_odds 69 = .ok (.iconst 0, 1) := by decide +kernel
theorem dX8_odds_70 : decode cX8_odds 70 = .ok (.iadd, 1) := by decide +kernel
theorem dX8_odds_71 : decode cX8_odds 71 = .ok (.istore 5, 2) := by decide +kernel
theorem dX8_odds_73 : decode cX8_odds 73 = .ok (.iinc 6 1, 3) := by decide +kernel
theorem dX8_odds_76 : decode cX8_odds 76 = .ok (.goto (-32), 3) := by decide +kernel
theorem dX8_odds_79 : decode cX8_odds 79 = .ok (.iload 5, 2) := by decide +kernel
theorem dX8_odds_81 : decode cX8_odds 81 = .ok (.bipush 100, 2) := by decide +kernel
theorem dX8_odds_83 : decode cX8_odds 83 = .ok (.invokestatic 212, 3) := by decide +kernel
theorem dX8_odds_86 : decode cX8_odds 86 = .ok (.istore 6, 2) := by decide +kernel
theorem dX8_odds_88 : decode cX8_odds 88 = .ok (.iload 4, 2) := by decide +kernel
theorem dX8_odds_90 : decode cX8_odds 90 = .ok (.ifCond .ne 11, 3) := by decide +kernel
theorem dX8_odds_93 : decode cX8_odds 93 = .ok (.iload 5, 2) := by decide +kernel
theorem dX8_odds_95 : decode cX8_odds 95 = .ok (.iload 6, 2) := by decide +kernel
theorem dX8_odds_97 : decode cX8_odds 97 = .ok (.idiv, 1) := by decide +kernel
theorem dX8_odds_98 : decode cX8_odds 98 = .ok (.goto 8, 3) := by decide +kernel
theorem dX8_odds_101 : decode cX8_odds 101 = .ok (.bipush 100, 2) := by decide +kernel
theorem dX8_odds_103 : decode cX8_odds 103 = .ok (.iload 6, 2) := by decide +kernel
theorem dX8_odds_105 : decode cX8_odds 105 = .ok (.idiv, 1) := by decide +kernel
theorem dX8_odds_106 : decode cX8_odds 106 = .ok (.ireturn, 1) := by decide +kernel
theorem dX8_clearsSo_0 : decode cX8_clearsSo 0 = .ok (.aload_n 0, 1) := by decide +kernel
theorem dX8_clearsSo_1 : decode cX8_clearsSo 1 = .ok (.invokevirtual 187, 3) := by decide +kernel
theorem dX8_clearsSo_4 : decode cX8_clearsSo 4 = .ok (.aload_n 0, 1) := by decide +kernel
theorem dX8_clearsSo_5 : decode cX8_clearsSo 5 = .ok (.iload_n 2, 1) := by decide +kernel
theorem dX8_clearsSo_6 : decode cX8_clearsSo 6 = .ok (.iconst 2, 1) := by decide +kernel
theorem dX8_clearsSo_7 : decode cX8_clearsSo 7 = .ok (.iload_n 3, 1) := by decide +kernel
theorem dX8_clearsSo_8 : decode cX8_clearsSo 8 = .ok (.invokevirtual 142, 3) := by decide +kernel
theorem dX8_clearsSo_11 : decode cX8_clearsSo 11 = .ok (.iconst 1, 1) := by decide +kernel
theorem dX8_clearsSo_12 : decode cX8_clearsSo 12 = .ok (.istore 4, 2) := by decide +kernel
theorem dX8_clearsSo_14 : decode cX8_clearsSo 14 = .ok (.iconst 0, 1) := by decide +kernel
theorem dX8_clearsSo_15 : decode cX8_clearsSo 15 = .ok (.istore 5, 2) := by decide +kernel
theorem dX8_clearsSo_17 : decode cX8_clearsSo 17 = .ok (.iload 5, 2) := by decide +kernel
theorem dX8_clearsSo_19 : decode cX8_clearsSo 19 = .ok (.aload_n 0, 1) := by decide +kernel
theorem dX8_clearsSo_20 : decode cX8_clearsSo 20 = .ok (.getfield 37, 3) := by decide +kernel
theorem dX8_clearsSo_23 : decode cX8_clearsSo 23 = .ok (.iload_n 1, 1) := by decide +kernel
theorem dX8_clearsSo_24 : decode cX8_clearsSo 24 = .ok (.iaload, 1) := by decide +kernel
theorem dX8_clearsSo_25 : decode cX8_clearsSo 25 = .ok (.if_icmp .ge 45, 3) := by decide +kernel
theorem dX8_clearsSo_28 : decode cX8_clearsSo 28 = .ok (.iload 4, 2) := by decide +kernel
theorem dX8_clearsSo_30 : decode cX8_clearsSo 30 = .ok (.ifCond .eq 40, 3) := by decide +kernel
theorem dX8_clearsSo_33 : decode cX8_clearsSo 33 = .ok (.aload_n 0, 1) := by decide +kernel
theorem dX8_clearsSo_34 : decode cX8_clearsSo 34 = .ok (.iload_n 2, 1) := by decide +kernel
theorem dX8_clearsSo_35 : decode cX8_clearsSo 35 = .ok (.invokevirtual 130, 3) := by decide +kernel
theorem dX8_clearsSo_38 : decode cX8_clearsSo 38 = .ok (.aload_n 0, 1) := by decide +kernel
theorem dX8_clearsSo_39 : decode cX8_clearsSo 39 = .ok (.getfield 40, 3) := by decide +kernel
theorem dX8_clearsSo_42 : decode cX8_clearsSo 42 = .ok (.bipush 24, 2) := by decide +kernel
theorem dX8_clearsSo_44 : decode cX8_clearsSo 44 = .ok (.iload_n 1, 1) := by decide +kernel
theorem dX8_clearsSo_45 : decode cX8_clearsSo 45 = .ok (.imul, 1) := by decide +kernel
theorem dX8_clearsSo_46 : decode cX8_clearsSo 46 = .ok (.iload 5, 2) := by decide +kernel
theorem dX8_clearsSo_48 : decode cX8_clearsSo 48 = .ok (.iadd, 1) := by decide +kernel
theorem dX8_clearsSo_49 : decode cX8_clearsSo 49 = .ok (.iaload, 1) := by decide +kernel
theorem dX8_clearsSo_50 : decode cX8_clearsSo 50 = .ok (.if_icmp .ne 7, 3) := by decide +kernel
theorem dX8_clearsSo_53 : decode cX8_clearsSo 53 = .ok (.iconst 1, 1) := by decide +kernel
theorem dX8_clearsSo_54 : decode cX8_clearsSo 54 = .ok (.goto 4, 3) := by decide +kernel
theorem dX8_clearsSo_57 : decode cX8_clearsSo 57 = .ok (.iconst 0, 1) := by decide +kernel
theorem dX8_clearsSo_58 : decode cX8_clearsSo 58 = .ok (.istore 4, 2) := by decide +kernel
theorem dX8_clearsSo_60 : decode cX8_clearsSo 60 = .ok (.aload_n 0, 1) := by decide +kernel
theorem dX8_clearsSo_61 : decode cX8_clearsSo 61 = .ok (.invokevirtual 150, 3) := by decide +kernel
theorem dX8_clearsSo_64 : decode cX8_clearsSo 64 = .ok (.iinc 5 1, 3) := by decide +kernel
theorem dX8_clearsSo_67 : decode cX8_clearsSo 67 = .ok (.goto (-50), 3) := by decide +kernel
theorem dX8_clearsSo_70 : decode cX8_clearsSo 70 = .ok (.aload_n 0, 1) := by decide +kernel
theorem dX8_clearsSo_71 : decode cX8_clearsSo 71 = .ok (.invokevirtual 190, 3) := by decide +kernel
theorem dX8_clearsSo_74 : decode cX8_clearsSo 74 = .ok (.iload 4, 2) := by decide +kernel
theorem dX8_clearsSo_76 : decode cX8_clearsSo 76 = .ok (.ireturn, 1) := by decide +kernel
theorem dX8_fits_0 : decode cX8_fits 0 = .ok (.aload_n 0, 1) := by decide +kernel
theorem dX8_fits_1 : decode cX8_fits 1 = .ok (.iload_n 2, 1) := by decide +kernel
theorem dX8_fits_2 : decode cX8_fits 2 = .ok (.invokevirtual 157, 3) := by decide +kernel
theorem dX8_fits_5 : decode cX8_fits 5 = .ok (.ifCond .eq 20, 3) := by decide +kernel
theorem dX8_fits_8 : decode cX8_fits 8 = .ok (.iload_n 3, 1) := by decide +kernel
theorem dX8_fits_9 : decode cX8_fits 9 = .ok (.iconst 0, 1) := by decide +kernel
theorem dX8_fits_10 : decode cX8_fits 10 = .ok (.iconst 1, 1) := by decide +kernel
theorem dX8_fits_11 : decode cX8_fits 11 = .ok (.invokestatic 47, 3) := by decide +kernel
theorem dX8_fits_14 : decode cX8_fits 14 = .ok (.ifCond .eq 11, 3) := by decide +kernel
theorem dX8_fits_17 : decode cX8_fits 17 = .ok (.aload_n 0, 1) := by decide +kernel
theorem dX8_fits_18 : decode cX8_fits 18 = .ok (.iload_n 1, 1) := by decide +kernel
theorem dX8_fits_19 : decode cX8_fits 19 = .ok (.invokevirtual 215, 3) := by decide +kernel
theorem dX8_fits_22 : decode cX8_fits 22 = .ok (.goto 4, 3) := by decide +kernel
theorem dX8_fits_25 : decode cX8_fits 25 = .ok (.iconst 1, 1) := by decide +kernel
theorem dX8_fits_26 : decode cX8_fits 26 = .ok (.istore 4, 2) := by decide +kernel
theorem dX8_fits_28 : decode cX8_fits 28 = .ok (.iload 4, 2) := by decide +kernel
theorem dX8_fits_30 : decode cX8_fits 30 = .ok (.ifCond .eq 10, 3) := by decide +kernel
theorem dX8_fits_33 : decode cX8_fits 33 = .ok (.aload_n 0, 1) := by decide +kernel
theorem dX8_fits_34 : decode cX8_fits 34 = .ok (.iload 4, 2) := by decide +kernel
theorem dX8_fits_36 : decode cX8_fits 36 = .ok (.invokevirtual 51, 3) := by decide +kernel
theorem dX8_fits_39 : decode cX8_fits 39 = .ok (.ireturn, 1) := by decide +kernel
theorem dX8_fits_40 : decode cX8_fits 40 = .ok (.iconst 0, 1) := by decide +kernel
theorem dX8_fits_41 : decode cX8_fits 41 = .ok (.istore 5, 2) := by decide +kernel
theorem dX8_fits_43 : decode cX8_fits 43 = .ok (.iconst (-1), 1) := by decide +kernel
theorem dX8_fits_44 : decode cX8_fits 44 = .ok (.istore 6, 2) := by decide +kernel
theorem dX8_fits_46 : decode cX8_fits 46 = .ok (.bipush 99, 2) := by decide +kernel
theorem dX8_fits_48 : decode cX8_fits 48 = .ok (.istore 7, 2) := by decide +kernel
theorem dX8_fits_50 : decode cX8_fits 50 = .ok (.iload 7, 2) := by decide +kernel
theorem dX8_fits_52 : decode cX8_fits 52 = .ok (.ifCond .lt 48, 3) := by decide +kernel
theorem dX8_fits_55 : decode cX8_fits 55 = .ok (.aload_n 0, 1) := by decide +kernel
theorem dX8_fits_56 : decode cX8_fits 56 = .ok (.iload_n 1, 1) := by decide +kernel
theorem dX8_fits_57 : decode cX8_fits 57 = .ok (.iload_n 2, 1) := by decide +kernel
theorem dX8_fits_58 : decode cX8_fits 58 = .ok (.iload 7, 2) := by decide +kernel
theorem dX8_fits_60 : decode cX8_fits 60 = .ok (.invokevirtual 218, 3) := by decide +kernel
theorem dX8_fits_63 : decode cX8_fits 63 = .ok (.istore 8, 2) := by decide +kernel
theorem dX8_fits_65 : decode cX8_fits 65 = .ok (.iload 5, 2) := by decide +kernel
theorem dX8_fits_67 : decode cX8_fits 67 = .ok (.iload 8, 2) := by decide +kernel
theorem dX8_fits_69 : decode cX8_fits 69 = .ok (.ifCond .eq 7, 3) := by decide +kernel
theorem dX8_fits_72 : decode cX8_fits 72 = .ok (.iconst 1, 1) := by decide +kernel
theorem dX8_fits_73 : decode cX8_fits 73 = .ok (.goto 4, 3) := by decide +kernel
theorem dX8_fits_76 : decode cX8_fits 76 = .ok (.iconst 0, 1) := by decide +kernel
theorem dX8_fits_77 : decode cX8_fits 77 = .ok (.iadd, 1) := by decide +kernel
theorem dX8_fits_78 : decode cX8_fits 78 = .ok (.istore 5, 2) := by decide +kernel
theorem dX8_fits_80 : decode cX8_fits 80 = .ok (.iload 8, 2) := by decide +kernel
theorem dX8_fits_82 : decode cX8_fits 82 = .ok (.ifCond .eq 8, 3) := by decide +kernel
theorem dX8_fits_85 : decode cX8_fits 85 = .ok (.iload 7, 2) := by decide +kernel
theorem dX8_fits_87 : decode cX8_fits 87 = .ok (.goto 5, 3) := by decide +kernel
theorem dX8_fits_90 : decode cX8_fits 90 = .ok (.iload 6, 2) := by decide +kernel
theorem dX8_fits_92 : decode cX8_fits 92 = .ok (.istore 6, 2) := by decide +kernel
theorem dX8_fits_94 : decode cX8_fits 94 = .ok (.iinc 7 (-1), 3) := by decide +kernel
theorem dX8_fits_97 : decode cX8_fits 97 = .ok (.goto (-47), 3) := by decide +kernel
theorem dX8_fits_100 : decode cX8_fits 100 = .ok (.iload_n 3, 1) := by decide +kernel
theorem dX8_fits_101 : decode cX8_fits 101 = .ok (.ifCond .ne 8, 3) := by decide +kernel
theorem dX8_fits_104 : decode cX8_fits 104 = .ok (.iload 5, 2) := by decide +kernel
theorem dX8_fits_106 : decode cX8_fits 106 = .ok (.goto 19, 3) := by decide +kernel
theorem dX8_fits_109 : decode cX8_fits 109 = .ok (.iload 6, 2) := by decide +kernel
theorem dX8_fits_111 : decode cX8_fits 111 = .ok (.iconst (-1), 1) := by decide +kernel
theorem dX8_fits_112 : decode cX8_fits 112 = .ok (.if_icmp .ne 11, 3) := by decide +kernel
theorem dX8_fits_115 : decode cX8_fits 115 = .ok (.aload_n 0, 1) := by decide +kernel
theorem dX8_fits_116 : decode cX8_fits 116 = .ok (.iconst 2, 1) := by decide +kernel
theorem dX8_fits_117 : decode cX8_fits 117 = .ok (.invokevirtual 51, 3) := by decide +kernel
theorem dX8_fits_120 : decode cX8_fits 120 = .ok (.goto 5, 3) := by decide +kernel
theorem dX8_fits_123 : decode cX8_fits 123 = .ok (.iload 6, 2) := by decide +kernel
theorem dX8_fits_125 : decode cX8_fits 125 = .ok (.ireturn, 1) := by decide +kernel
theorem dX8_starts_0 : decode cX8_starts 0 = .ok (.aload_n 0, 1) := by decide +kernel
theorem dX8_starts_1 : decode cX8_starts 1 = .ok (.getfield 221, 3) := by decide +kernel
theorem dX8_starts_4 : decode cX8_starts 4 = .ok (.bipush 30, 2) := by decide +kernel
theorem dX8_starts_6 : decode cX8_starts 6 = .ok (.if_icmp .ge 23, 3) := by decide +kernel
theorem dX8_starts_9 : decode cX8_starts 9 = .ok (.aload_n 0, 1) := by decide +kernel
theorem dX8_starts_10 : decode cX8_starts 10 = .ok (.getfield 31, 3) := by decide +kernel
theorem dX8_starts_13 : decode cX8_starts 13 = .ok (.aload_n 0, 1) := by decide +kernel
theorem dX8_starts_14 : decode cX8_starts 14 = .ok (.getfield 221, 3) := by decide +kernel
theorem dX8_starts_17 : decode cX8_starts 17 = .ok (.iload_n 1, 1) := by decide +kernel
theorem dX8_starts_18 : decode cX8_starts 18 = .ok (.iastore, 1) := by decide +kernel
theorem dX8_starts_19 : decode cX8_starts 19 = .ok (.aload_n 0, 1) := by decide +kernel
theorem dX8_starts_20 : decode cX8_starts 20 = .ok (.dup, 1) := by decide +kernel
theorem dX8_starts_21 : decode cX8_starts 21 = .ok (.getfield 221, 3) := by decide +kernel
theorem dX8_starts_24 : decode cX8_starts 24 = .ok (.iconst 1, 1) := by decide +kernel
theorem dX8_starts_25 : decode cX8_starts 25 = .ok (.iadd, 1) := by decide +kernel
theorem dX8_starts_26 : decode cX8_starts 26 = .ok (.putfield 221, 3) := by decide +kernel
theorem dX8_starts_29 : decode cX8_starts 29 = .ok (.return_, 1) := by decide +kernel
theorem dX8_above_0 : decode cX8_above 0 = .ok (.iload_n 0, 1) := by decide +kernel
theorem dX8_above_1 : decode cX8_above 1 = .ok (.iconst 4, 1) := by decide +kernel
theorem dX8_above_2 : decode cX8_above 2 = .ok (.if_icmp .ne 7, 3) := by decide +kernel
theorem dX8_above_5 : decode cX8_above 5 = .ok (.iconst 1, 1) := by decide +kernel
theorem dX8_above_6 : decode cX8_above 6 = .ok (.goto 13, 3) := by decide +kernel
theorem dX8_above_9 : decode cX8_above 9 = .ok (.iload_n 0, 1) := by decide +kernel
theorem dX8_above_10 : decode cX8_above 10 = .ok (.iconst 5, 1) := by decide +kernel
theorem dX8_above_11 : decode cX8_above 11 = .ok (.if_icmp .ne 7, 3) := by decide +kernel
theorem dX8_above_14 : decode cX8_above 14 = .ok (.iconst 2, 1) := by decide +kernel
theorem dX8_above_15 : decode cX8_above 15 = .ok (.goto 4, 3) := by decide +kernel
theorem dX8_above_18 : decode cX8_above 18 = .ok (.iconst 0, 1) := by decide +kernel
theorem dX8_above_19 : decode cX8_above 19 = .ok (.ireturn, 1) := by decide +kernel
theorem dX8_kindNow_0 : decode cX8_kindNow 0 = .ok (.aload_n 0, 1) := by decide +kernel
theorem dX8_kindNow_1 : decode cX8_kindNow 1 = .ok (.aload_n 0, 1) := by decide +kernel
theorem dX8_kindNow_2 : decode cX8_kindNow 2 = .ok (.getfield 224, 3) := by decide +kernel
theorem dX8_kindNow_5 : decode cX8_kindNow 5 = .ok (.iconst 0, 1) := by decide +kernel
theorem dX8_kindNow_6 : decode cX8_kindNow 6 = .ok (.invokevirtual 111, 3) := by decide +kernel
theorem dX8_kindNow_9 : decode cX8_kindNow 9 = .ok (.ireturn, 1) := by decide +kernel
theorem dX8_mNow_0 : decode cX8_mNow 0 = .ok (.aload_n 0, 1) := by decide +kernel
theorem dX8_mNow_1 : decode cX8_mNow 1 = .ok (.aload_n 0, 1) := by decide +kernel
theorem dX8_mNow_2 : decode cX8_mNow 2 = .ok (.getfield 224, 3) := by decide +kernel
theorem dX8_mNow_5 : decode cX8_mNow 5 = .ok (.iconst 1, 1) := by decide +kernel
theorem dX8_mNow_6 : decode cX8_mNow 6 = .ok (.invokevirtual 111, 3) := by decide +kernel
theorem dX8_mNow_9 : decode cX8_mNow 9 = .ok (.ireturn, 1) := by decide +kernel
theorem dX8_saysAs_0 : decode cX8_saysAs 0 = .ok (.iload_n 1, 1) := by decide +kernel
theorem dX8_saysAs_1 : decode cX8_saysAs 1 = .ok (.tableswitch 101 0 6 #[43, 56, 101, 101, 74, 101, 92], 43) := by decide +kernel
theorem dX8_saysAs_44 : decode cX8_saysAs 44 = .ok (.aload_n 0, 1) := by decide +kernel
theorem dX8_saysAs_45 : decode cX8_saysAs 45 = .ok (.bipush 10, 2) := by decide +kernel
theorem dX8_saysAs_47 : decode cX8_saysAs 47 = .ok (.invokevirtual 227, 3) := by decide +kernel
theorem dX8_saysAs_50 : decode cX8_saysAs 50 = .ok (.iload_n 2, 1) := by decide +kernel
theorem dX8_saysAs_51 : decode cX8_saysAs 51 = .ok (.aload_n 0, 1) := by decide +kernel
theorem dX8_saysAs_52 : decode cX8_saysAs 52 = .ok (.getfield 224, 3) := by decide +kernel
theorem dX8_saysAs_55 : decode cX8_saysAs 55 = .ok (.iadd, 1) := by decide +kernel
theorem dX8_saysAs_56 : decode cX8_saysAs 56 = .ok (.ireturn, 1) := by decide +kernel
theorem dX8_saysAs_57 : decode cX8_saysAs 57 = .ok (.aload_n 0, 1) := by decide +kernel
theorem dX8_saysAs_58 : decode cX8_saysAs 58 = .ok (.bipush 20, 2) := by decide +kernel
theorem dX8_saysAs_60 : decode cX8_saysAs 60 = .ok (.invokevirtual 227, 3) := by decide +kernel
theorem dX8_saysAs_63 : decode cX8_saysAs 63 = .ok (.aload_n 0, 1) := by decide +kernel
theorem dX8_saysAs_64 : decode cX8_saysAs 64 = .ok (.iconst 1, 1) := by decide +kernel
theorem dX8_saysAs_65 : decode cX8_saysAs 65 = .ok (.invokestatic 166, 3) := by decide +kernel
theorem dX8_saysAs_68 : decode cX8_saysAs 68 = .ok (.iload_n 2, 1) := by decide +kernel
theorem dX8_saysAs_69 : decode cX8_saysAs 69 = .ok (.invokevirtual 230, 3) := by decide +kernel
theorem dX8_saysAs_72 : decode cX8_saysAs 72 = .ok (.iconst 4, 1) := by decide +kernel
theorem dX8_saysAs_73 : decode cX8_saysAs 73 = .ok (.isub, 1) := by decide +kernel
theorem dX8_saysAs_74 : decode cX8_saysAs 74 = .ok (.ireturn, 1) := by decide +kernel
theorem dX8_saysAs_75 : decode cX8_saysAs 75 = .ok (.aload_n 0, 1) := by decide +kernel
theorem dX8_saysAs_76 : decode cX8_saysAs 76 = .ok (.bipush 50, 2) := by decide +kernel
theorem dX8_saysAs_78 : decode cX8_saysAs 78 = .ok (.invokevirtual 227, 3) := by decide +kernel
theorem dX8_saysAs_81 : decode cX8_saysAs 81 = .ok (.aload_n 0, 1) := by decide +kernel
theorem dX8_saysAs_82 : decode cX8_saysAs 82 = .ok (.iconst 4, 1) := by decide +kernel
theorem dX8_saysAs_83 : decode cX8_saysAs 83 = .ok (.invokestatic 166, 3) := by decide +kernel
theorem dX8_saysAs_86 : decode cX8_saysAs 86 = .ok (.iload_n 2, 1) := by decide +kernel
theorem dX8_saysAs_87 : decode cX8_saysAs 87 = .ok (.invokevirtual 230, 3) := by decide +kernel
theorem dX8_saysAs_90 : decode cX8_saysAs 90 = .ok (.iconst 3, 1) := by decide +kernel
theorem dX8_saysAs_91 : decode cX8_saysAs 91 = .ok (.imul, 1) := by decide +kernel
theorem dX8_saysAs_92 : decode cX8_saysAs 92 = .ok (.ireturn, 1) := by decide +kernel
theorem dX8_saysAs_93 : decode cX8_saysAs 93 = .ok (.aload_n 0, 1) := by decide +kernel
theorem dX8_saysAs_94 : decode cX8_saysAs 94 = .ok (.bipush 70, 2) := by decide +kernel
theorem dX8_saysAs_96 : decode cX8_saysAs 96 = .ok (.invokevirtual 227, 3) := by decide +kernel
theorem dX8_saysAs_99 : decode cX8_saysAs 99 = .ok (.bipush 9, 2) := by decide +kernel
theorem dX8_saysAs_101 : decode cX8_saysAs 101 = .ok (.ireturn, 1) := by decide +kernel
theorem dX8_saysAs_102 : decode cX8_saysAs 102 = .ok (.aload_n 0, 1) := by decide +kernel
theorem dX8_saysAs_103 : decode cX8_saysAs 103 = .ok (.iload_n 1, 1) := by decide +kernel
theorem dX8_saysAs_104 : decode cX8_saysAs 104 = .ok (.invokestatic 166, 3) := by decide +kernel
theorem dX8_saysAs_107 : decode cX8_saysAs 107 = .ok (.iload_n 2, 1) := by decide +kernel
theorem dX8_saysAs_108 : decode cX8_saysAs 108 = .ok (.invokevirtual 230, 3) := by decide +kernel
theorem dX8_saysAs_111 : decode cX8_saysAs 111 = .ok (.ireturn, 1) := by decide +kernel
theorem dX8_seesAs_0 : decode cX8_seesAs 0 = .ok (.iload_n 1, 1) := by decide +kernel
theorem dX8_seesAs_1 : decode cX8_seesAs 1 = .ok (.tableswitch 119 0 6 #[43, 119, 61, 119, 119, 79, 97], 43) := by decide +kernel
theorem dX8_seesAs_44 : decode cX8_seesAs 44 = .ok (.aload_n 0, 1) := by decide +kernel
theorem dX8_seesAs_45 : decode cX8_seesAs 45 = .ok (.bipush 11, 2) := by decide +kernel
theorem dX8_seesAs_47 : decode cX8_seesAs 47 = .ok (.invokevirtual 227, 3) := by decide +kernel
theorem dX8_seesAs_50 : decode cX8_seesAs 50 = .ok (.aload_n 0, 1) := by decide +kernel
theorem dX8_seesAs_51 : decode cX8_seesAs 51 = .ok (.aload_n 0, 1) := by decide +kernel
theorem dX8_seesAs_52 : decode cX8_seesAs 52 = .ok (.invokevirtual 233, 3) := by decide +kernel
theorem dX8_seesAs_55 : decode cX8_seesAs 55 = .ok (.iload_n 2, 1) := by decide +kernel
theorem dX8_seesAs_56 : decode cX8_seesAs 56 = .ok (.invokevirtual 230, 3) := by decide +kernel
theorem dX8_seesAs_59 : decode cX8_seesAs 59 = .ok (.iconst 2, 1) := by decide +kernel
theorem dX8_seesAs_60 : decode cX8_seesAs 60 = .ok (.imul, 1) := by decide +kernel
theorem dX8_seesAs_61 : decode cX8_seesAs 61 = .ok (.ireturn, 1) := by decide +kernel
theorem dX8_seesAs_62 : decode cX8_seesAs 62 = .ok (.aload_n 0, 1) := by decide +kernel
theorem dX8_seesAs_63 : decode cX8_seesAs 63 = .ok (.bipush 30, 2) := by decide +kernel
theorem dX8_seesAs_65 : decode cX8_seesAs 65 = .ok (.invokevirtual 227, 3) := by decide +kernel
theorem dX8_seesAs_68 : decode cX8_seesAs 68 = .ok (.iconst 0, 1) := by decide +kernel
theorem dX8_seesAs_69 : decode cX8_seesAs 69 = .ok (.aload_n 0, 1) := by decide +kernel
theorem dX8_seesAs_70 : decode cX8_seesAs 70 = .ok (.iconst 2, 1) := by decide +kernel
theorem dX8_seesAs_71 : decode cX8_seesAs 71 = .ok (.invokestatic 166, 3) := by decide +kernel
theorem dX8_seesAs_74 : decode cX8_seesAs 74 = .ok (.iload_n 2, 1) := by decide +kernel
theorem dX8_seesAs_75 : decode cX8_seesAs 75 = .ok (.invokevirtual 236, 3) := by decide +kernel
theorem dX8_seesAs_78 : decode cX8_seesAs 78 = .ok (.isub, 1) := by decide +kernel
theorem dX8_seesAs_79 : decode cX8_seesAs 79 = .ok (.ireturn, 1) := by decide +kernel
theorem dX8_seesAs_80 : decode cX8_seesAs 80 = .ok (.aload_n 0, 1) := by decide +kernel
theorem dX8_seesAs_81 : decode cX8_seesAs 81 = .ok (.bipush 60, 2) := by decide +kernel
theorem dX8_seesAs_83 : decode cX8_seesAs 83 = .ok (.invokevirtual 227, 3) := by decide +kernel
theorem dX8_seesAs_86 : decode cX8_seesAs 86 = .ok (.aload_n 0, 1) := by decide +kernel
theorem dX8_seesAs_87 : decode cX8_seesAs 87 = .ok (.iconst 5, 1) := by decide +kernel
theorem dX8_seesAs_88 : decode cX8_seesAs 88 = .ok (.invokestatic 166, 3) := by decide +kernel
theorem dX8_seesAs_91 : decode cX8_seesAs 91 = .ok (.iload_n 2, 1) := by decide +kernel
theorem dX8_seesAs_92 : decode cX8_seesAs 92 = .ok (.iconst 1, 1) := by decide +kernel
theorem dX8_seesAs_93 : decode cX8_seesAs 93 = .ok (.iadd, 1) := by decide +kernel
theorem dX8_seesAs_94 : decode cX8_seesAs 94 = .ok (.invokevirtual 236, 3) := by decide +kernel
theorem dX8_seesAs_97 : decode cX8_seesAs 97 = .ok (.ireturn, 1) := by decide +kernel
theorem dX8_seesAs_98 : decode cX8_seesAs 98 = .ok (.aload_n 0, 1) := by decide +kernel
theorem dX8_seesAs_99 : decode cX8_seesAs 99 = .ok (.bipush 71, 2) := by decide +kernel
theorem dX8_seesAs_101 : decode cX8_seesAs 101 = .ok (.invokevirtual 227, 3) := by decide +kernel
theorem dX8_seesAs_104 : decode cX8_seesAs 104 = .ok (.aload_n 0, 1) := by decide +kernel
theorem dX8_seesAs_105 : decode cX8_seesAs 105 = .ok (.bipush 6, 2) := by decide +kernel
theorem dX8_seesAs_107 : decode cX8_seesAs 107 = .ok (.invokestatic 166, 3) := by decide +kernel
theorem dX8_seesAs_110 : decode cX8_seesAs 110 = .ok (.iload_n 2, 1) := by decide +kernel
theorem dX8_seesAs_111 : decode cX8_seesAs 111 = .ok (.invokevirtual 236, 3) := by decide +kernel
theorem dX8_seesAs_114 : decode cX8_seesAs 114 = .ok (.aload_n 0, 1) := by decide +kernel
theorem dX8_seesAs_115 : decode cX8_seesAs 115 = .ok (.invokevirtual 239, 3) := by decide +kernel
theorem dX8_seesAs_118 : decode cX8_seesAs 118 = .ok (.iadd, 1) := by decide +kernel
theorem dX8_seesAs_119 : decode cX8_seesAs 119 = .ok (.ireturn, 1) := by decide +kernel
theorem dX8_seesAs_120 : decode cX8_seesAs 120 = .ok (.aload_n 0, 1) := by decide +kernel
theorem dX8_seesAs_121 : decode cX8_seesAs 121 = .ok (.iload_n 1, 1) := by decide +kernel
theorem dX8_seesAs_122 : decode cX8_seesAs 122 = .ok (.invokestatic 166, 3) := by decide +kernel
theorem dX8_seesAs_125 : decode cX8_seesAs 125 = .ok (.iload_n 2, 1) := by decide +kernel
theorem dX8_seesAs_126 : decode cX8_seesAs 126 = .ok (.invokevirtual 236, 3) := by decide +kernel
theorem dX8_seesAs_129 : decode cX8_seesAs 129 = .ok (.ireturn, 1) := by decide +kernel
theorem dX8_walksAs_0 : decode cX8_walksAs 0 = .ok (.iload_n 1, 1) := by decide +kernel
theorem dX8_walksAs_1 : decode cX8_walksAs 1 = .ok (.tableswitch 95 0 4 #[35, 95, 95, 56, 74], 35) := by decide +kernel
theorem dX8_walksAs_36 : decode cX8_walksAs 36 = .ok (.aload_n 0, 1) := by decide +kernel
theorem dX8_walksAs_37 : decode cX8_walksAs 37 = .ok (.bipush 12, 2) := by decide +kernel
theorem dX8_walksAs_39 : decode cX8_walksAs 39 = .ok (.invokevirtual 227, 3) := by decide +kernel
theorem dX8_walksAs_42 : decode cX8_walksAs 42 = .ok (.aload_n 0, 1) := by decide +kernel
theorem dX8_walksAs_43 : decode cX8_walksAs 43 = .ok (.aload_n 0, 1) := by decide +kernel
theorem dX8_walksAs_44 : decode cX8_walksAs 44 = .ok (.invokevirtual 233, 3) := by decide +kernel
theorem dX8_walksAs_47 : decode cX8_walksAs 47 = .ok (.iload_n 2, 1) := by decide +kernel
theorem dX8_walksAs_48 : decode cX8_walksAs 48 = .ok (.invokevirtual 236, 3) := by decide +kernel
theorem dX8_walksAs_51 : decode cX8_walksAs 51 = .ok (.aload_n 0, 1) := by decide +kernel
theorem dX8_walksAs_52 : decode cX8_walksAs 52 = .ok (.invokevirtual 239, 3) := by decide +kernel
theorem dX8_walksAs_55 : decode cX8_walksAs 55 = .ok (.isub, 1) := by decide +kernel
theorem dX8_walksAs_56 : decode cX8_walksAs 56 = .ok (.ireturn, 1) := by decide +kernel
theorem dX8_walksAs_57 : decode cX8_walksAs 57 = .ok (.aload_n 0, 1) := by decide +kernel
theorem dX8_walksAs_58 : decode cX8_walksAs 58 = .ok (.bipush 40, 2) := by decide +kernel
theorem dX8_walksAs_60 : decode cX8_walksAs 60 = .ok (.invokevirtual 227, 3) := by decide +kernel
theorem dX8_walksAs_63 : decode cX8_walksAs 63 = .ok (.aload_n 0, 1) := by decide +kernel
theorem dX8_walksAs_64 : decode cX8_walksAs 64 = .ok (.iconst 3, 1) := by decide +kernel
theorem dX8_walksAs_65 : decode cX8_walksAs 65 = .ok (.invokestatic 166, 3) := by decide +kernel
theorem dX8_walksAs_68 : decode cX8_walksAs 68 = .ok (.iload_n 2, 1) := by decide +kernel
theorem dX8_walksAs_69 : decode cX8_walksAs 69 = .ok (.iconst 2, 1) := by decide +kernel
theorem dX8_walksAs_70 : decode cX8_walksAs 70 = .ok (.idiv, 1) := by decide +kernel
theorem dX8_walksAs_71 : decode cX8_walksAs 71 = .ok (.invokevirtual 242, 3) := by decide +kernel
theorem dX8_walksAs_74 : decode cX8_walksAs 74 = .ok (.ireturn, 1) := by decide +kernel
theorem dX8_walksAs_75 : decode cX8_walksAs 75 = .ok (.aload_n 0, 1) := by decide +kernel
theorem dX8_walksAs_76 : decode cX8_walksAs 76 = .ok (.bipush 51, 2) := by decide +kernel
theorem dX8_walksAs_78 : decode cX8_walksAs 78 = .ok (.invokevirtual 227, 3) := by decide +kernel
theorem dX8_walksAs_81 : decode cX8_walksAs 81 = .ok (.aload_n 0, 1) := by decide +kernel
theorem dX8_walksAs_82 : decode cX8_walksAs 82 = .ok (.iconst 4, 1) := by decide +kernel
theorem dX8_walksAs_83 : decode cX8_walksAs 83 = .ok (.invokestatic 166, 3) := by decide +kernel
theorem dX8_walksAs_86 : decode cX8_walksAs 86 = .ok (.iload_n 2, 1) := by decide +kernel
theorem dX8_walksAs_87 : decode cX8_walksAs 87 = .ok (.invokevirtual 242, 3) := by decide +kernel
theorem dX8_walksAs_90 : decode cX8_walksAs 90 = .ok (.aload_n 0, 1) := by decide +kernel
theorem dX8_walksAs_91 : decode cX8_walksAs 91 = .ok (.getfield 224, 3) := by decide +kernel
theorem dX8_walksAs_94 : decode cX8_walksAs 94 = .ok (.ixor, 1) := by decide +kernel
theorem dX8_walksAs_95 : decode cX8_walksAs 95 = .ok (.ireturn, 1) := by decide +kernel
theorem dX8_walksAs_96 : decode cX8_walksAs 96 = .ok (.aload_n 0, 1) := by decide +kernel
theorem dX8_walksAs_97 : decode cX8_walksAs 97 = .ok (.iload_n 1, 1) := by decide +kernel
theorem dX8_walksAs_98 : decode cX8_walksAs 98 = .ok (.invokestatic 166, 3) := by decide +kernel
theorem dX8_walksAs_101 : decode cX8_walksAs 101 = .ok (.iload_n 2, 1) := by decide +kernel
theorem dX8_walksAs_102 : decode cX8_walksAs 102 = .ok (.invokevirtual 242, 3) := by decide +kernel
theorem dX8_walksAs_105 : decode cX8_walksAs 105 = .ok (.ireturn, 1) := by decide +kernel
theorem dX8_partsAs_0 : decode cX8_partsAs 0 = .ok (.iload_n 1, 1) := by decide +kernel
theorem dX8_partsAs_1 : decode cX8_partsAs 1 = .ok (.lookupswitch 119 #[(0, 27), (1, 78)], 27) := by decide +kernel
theorem dX8_partsAs_28 : decode cX8_partsAs 28 = .ok (.aload_n 0, 1) := by decide +kernel
theorem dX8_partsAs_29 : decode cX8_partsAs 29 = .ok (.bipush 13, 2) := by decide +kernel
theorem dX8_partsAs_31 : decode cX8_partsAs 31 = .ok (.invokevirtual 227, 3) := by decide +kernel
theorem dX8_partsAs_34 : decode cX8_partsAs 34 = .ok (.aload_n 0, 1) := by decide +kernel
theorem dX8_partsAs_35 : decode cX8_partsAs 35 = .ok (.invokevirtual 239, 3) := by decide +kernel
theorem dX8_partsAs_38 : decode cX8_partsAs 38 = .ok (.aload_n 0, 1) := by decide +kernel
theorem dX8_partsAs_39 : decode cX8_partsAs 39 = .ok (.getfield 224, 3) := by decide +kernel
theorem dX8_partsAs_42 : decode cX8_partsAs 42 = .ok (.isub, 1) := by decide +kernel
theorem dX8_partsAs_43 : decode cX8_partsAs 43 = .ok (.istore_n 3, 1) := by decide +kernel
theorem dX8_partsAs_44 : decode cX8_partsAs 44 = .ok (.aload_n 0, 1) := by decide +kernel
theorem dX8_partsAs_45 : decode cX8_partsAs 45 = .ok (.iload_n 3, 1) := by decide +kernel
theorem dX8_partsAs_46 : decode cX8_partsAs 46 = .ok (.ifCond .ne 7, 3) := by decide +kernel
theorem dX8_partsAs_49 : decode cX8_partsAs 49 = .ok (.iconst 1, 1) := by decide +kernel
theorem dX8_partsAs_50 : decode cX8_partsAs 50 = .ok (.goto 4, 3) := by decide +kernel
theorem dX8_partsAs_53 : decode cX8_partsAs 53 = .ok (.iconst 0, 1) := by decide +kernel
theorem dX8_partsAs_54 : decode cX8_partsAs 54 = .ok (.putfield 245, 3) := by decide +kernel
theorem dX8_partsAs_57 : decode cX8_partsAs 57 = .ok (.iload_n 3, 1) := by decide +kernel
theorem dX8_partsAs_58 : decode cX8_partsAs 58 = .ok (.ifCond .ne 7, 3) := by decide +kernel
theorem dX8_partsAs_61 : decode cX8_partsAs 61 = .ok (.iconst 0, 1) := by decide +kernel
theorem dX8_partsAs_62 : decode cX8_partsAs 62 = .ok (.goto 16, 3) := by decide +kernel
theorem dX8_partsAs_65 : decode cX8_partsAs 65 = .ok (.iload_n 3, 1) := by decide +kernel
theorem dX8_partsAs_66 : decode cX8_partsAs 66 = .ok (.iconst (-1), 1) := by decide +kernel
theorem dX8_partsAs_67 : decode cX8_partsAs 67 = .ok (.if_icmp .ne 8, 3) := by decide +kernel
theorem dX8_partsAs_70 : decode cX8_partsAs 70 = .ok (.iload_n 2, 1) := by decide +kernel
theorem dX8_partsAs_71 : decode cX8_partsAs 71 = .ok (.ineg, 1) := by decide +kernel
theorem dX8_partsAs_72 : decode cX8_partsAs 72 = .ok (.goto 6, 3) := by decide +kernel
theorem dX8_partsAs_75 : decode cX8_partsAs 75 = .ok (.iload_n 2, 1) := by decide +kernel
theorem dX8_partsAs_76 : decode cX8_partsAs 76 = .ok (.iload_n 3, 1) := by decide +kernel
theorem dX8_partsAs_77 : decode cX8_partsAs 77 = .ok (.idiv, 1) := by decide +kernel
theorem dX8_partsAs_78 : decode cX8_partsAs 78 = .ok (.ireturn, 1) := by decide +kernel
theorem dX8_partsAs_79 : decode cX8_partsAs 79 = .ok (.aload_n 0, 1) := by decide +kernel
theorem dX8_partsAs_80 : decode cX8_partsAs 80 = .ok (.bipush 21, 2) := by decide +kernel
theorem dX8_partsAs_82 : decode cX8_partsAs 82 = .ok (.invokevirtual 227, 3) := by decide +kernel
theorem dX8_partsAs_85 : decode cX8_partsAs 85 = .ok (.aload_n 0, 1) := by decide +kernel
theorem dX8_partsAs_86 : decode cX8_partsAs 86 = .ok (.iconst 1, 1) := by decide +kernel
theorem dX8_partsAs_87 : decode cX8_partsAs 87 = .ok (.invokestatic 166, 3) := by decide +kernel
theorem dX8_partsAs_90 : decode cX8_partsAs 90 = .ok (.iload_n 2, 1) := by decide +kernel
theorem dX8_partsAs_91 : decode cX8_partsAs 91 = .ok (.invokevirtual 249, 3) := by decide +kernel
theorem dX8_partsAs_94 : decode cX8_partsAs 94 = .ok (.istore 4, 2) := by decide +kernel
theorem dX8_partsAs_96 : decode cX8_partsAs 96 = .ok (.aload_n 0, 1) := by decide +kernel
theorem dX8_partsAs_97 : decode cX8_partsAs 97 = .ok (.getfield 245, 3) := by decide +kernel
theorem dX8_partsAs_100 : decode cX8_partsAs 100 = .ok (.ifCond .eq 7, 3) := by decide +kernel
theorem dX8_partsAs_103 : decode cX8_partsAs 103 = .ok (.iconst 0, 1) := by decide +kernel
theorem dX8_partsAs_104 : decode cX8_partsAs 104 = .ok (.goto 15, 3) := by decide +kernel
theorem dX8_partsAs_107 : decode cX8_partsAs 107 = .ok (.iload 4, 2) := by decide +kernel
theorem dX8_partsAs_109 : decode cX8_partsAs 109 = .ok (.aload_n 0, 1) := by decide +kernel
theorem dX8_partsAs_110 : decode cX8_partsAs 110 = .ok (.aload_n 0, 1) := by decide +kernel
theorem dX8_partsAs_111 : decode cX8_partsAs 111 = .ok (.invokevirtual 233, 3) := by decide +kernel
theorem dX8_partsAs_114 : decode cX8_partsAs 114 = .ok (.iconst 1, 1) := by decide +kernel
theorem dX8_partsAs_115 : decode cX8_partsAs 115 = .ok (.invokevirtual 236, 3) := by decide +kernel
theorem dX8_partsAs_118 : decode cX8_partsAs 118 = .ok (.iadd, 1) := by decide +kernel
theorem dX8_partsAs_119 : decode cX8_partsAs 119 = .ok (.ireturn, 1) := by decide +kernel
theorem dX8_partsAs_120 : decode cX8_partsAs 120 = .ok (.aload_n 0, 1) := by decide +kernel
theorem dX8_partsAs_121 : decode cX8_partsAs 121 = .ok (.iload_n 1, 1) := by decide +kernel
theorem dX8_partsAs_122 : decode cX8_partsAs 122 = .ok (.invokestatic 166, 3) := by decide +kernel
theorem dX8_partsAs_125 : decode cX8_partsAs 125 = .ok (.iload_n 2, 1) := by decide +kernel
theorem dX8_partsAs_126 : decode cX8_partsAs 126 = .ok (.invokevirtual 249, 3) := by decide +kernel
theorem dX8_partsAs_129 : decode cX8_partsAs 129 = .ok (.ireturn, 1) := by decide +kernel
theorem dX8_voice_0 : decode cX8_voice 0 = .ok (.aload_n 0, 1) := by decide +kernel
theorem dX8_voice_1 : decode cX8_voice 1 = .ok (.iload_n 1, 1) := by decide +kernel
theorem dX8_voice_2 : decode cX8_voice 2 = .ok (.invokevirtual 157, 3) := by decide +kernel
theorem dX8_voice_5 : decode cX8_voice 5 = .ok (.ifCond .eq 12, 3) := by decide +kernel
theorem dX8_voice_8 : decode cX8_voice 8 = .ok (.iload_n 2, 1) := by decide +kernel
theorem dX8_voice_9 : decode cX8_voice 9 = .ok (.iconst 0, 1) := by decide +kernel
theorem dX8_voice_10 : decode cX8_voice 10 = .ok (.iconst 3, 1) := by decide +kernel
theorem dX8_voice_11 : decode cX8_voice 11 = .ok (.invokestatic 47, 3) := by decide +kernel
theorem dX8_voice_14 : decode cX8_voice 14 = .ok (.ifCond .ne 9, 3) := by decide +kernel
theorem dX8_voice_17 : decode cX8_voice 17 = .ok (.aload_n 0, 1) := by decide +kernel
theorem dX8_voice_18 : decode cX8_voice 18 = .ok (.iconst 1, 1) := by decide +kernel
theorem dX8_voice_19 : decode cX8_voice 19 = .ok (.invokevirtual 51, 3) := by decide +kernel
theorem dX8_voice_22 : decode cX8_voice 22 = .ok (.ireturn, 1) := by decide +kernel
theorem dX8_voice_23 : decode cX8_voice 23 = .ok (.aload_n 0, 1) := by decide +kernel
theorem dX8_voice_24 : decode cX8_voice 24 = .ok (.iconst 0, 1) := by decide +kernel
theorem dX8_voice_25 : decode cX8_voice 25 = .ok (.putfield 221, 3) := by decide +kernel
theorem dX8_voice_28 : decode cX8_voice 28 = .ok (.aload_n 0, 1) := by decide +kernel
theorem dX8_voice_29 : decode cX8_voice 29 = .ok (.iload_n 1, 1) := by decide +kernel
theorem dX8_voice_30 : decode cX8_voice 30 = .ok (.putfield 224, 3) := by decide +kernel
theorem dX8_voice_33 : decode cX8_voice 33 = .ok (.aload_n 0, 1) := by decide +kernel
theorem dX8_voice_34 : decode cX8_voice 34 = .ok (.iconst 0, 1) := by decide +kernel
theorem dX8_voice_35 : decode cX8_voice 35 = .ok (.putfield 245, 3) := by decide +kernel
theorem dX8_voice_38 : decode cX8_voice 38 = .ok (.aload_n 0, 1) := by decide +kernel
theorem dX8_voice_39 : decode cX8_voice 39 = .ok (.invokevirtual 233, 3) := by decide +kernel
theorem dX8_voice_42 : decode cX8_voice 42 = .ok (.istore 4, 2) := by decide +kernel
theorem dX8_voice_44 : decode cX8_voice 44 = .ok (.iload_n 2, 1) := by decide +kernel
theorem dX8_voice_45 : decode cX8_voice 45 = .ok (.ifCond .ne 13, 3) := by decide +kernel
theorem dX8_voice_48 : decode cX8_voice 48 = .ok (.aload_n 0, 1) := by decide +kernel
theorem dX8_voice_49 : decode cX8_voice 49 = .ok (.iload 4, 2) := by decide +kernel
theorem dX8_voice_51 : decode cX8_voice 51 = .ok (.iload_n 3, 1) := by decide +kernel
theorem dX8_voice_52 : decode cX8_voice 52 = .ok (.invokevirtual 230, 3) := by decide +kernel
theorem dX8_voice_55 : decode cX8_voice 55 = .ok (.goto 40, 3) := by decide +kernel
theorem dX8_voice_58 : decode cX8_voice 58 = .ok (.iload_n 2, 1) := by decide +kernel
theorem dX8_voice_59 : decode cX8_voice 59 = .ok (.iconst 1, 1) := by decide +kernel
theorem dX8_voice_60 : decode cX8_voice 60 = .ok (.if_icmp .ne 13, 3) := by decide +kernel
theorem dX8_voice_63 : decode cX8_voice 63 = .ok (.aload_n 0, 1) := by decide +kernel
theorem dX8_voice_64 : decode cX8_voice 64 = .ok (.iload 4, 2) := by decide +kernel
theorem dX8_voice_66 : decode cX8_voice 66 = .ok (.iload_n 3, 1) := by decide +kernel
theorem dX8_voice_67 : decode cX8_voice 67 = .ok (.invokevirtual 236, 3) := by decide +kernel
theorem dX8_voice_70 : decode cX8_voice 70 = .ok (.goto 25, 3) := by decide +kernel
theorem dX8_voice_73 : decode cX8_voice 73 = .ok (.iload_n 2, 1) := by decide +kernel
theorem dX8_voice_74 : decode cX8_voice 74 = .ok (.iconst 2, 1) := by decide +kernel
theorem dX8_voice_75 : decode cX8_voice 75 = .ok (.if_icmp .ne 13, 3) := by decide +kernel
theorem dX8_voice_78 : decode cX8_voice 78 = .ok (.aload_n 0, 1) := by decide +kernel
theorem dX8_voice_79 : decode cX8_voice 79 = .ok (.iload 4, 2) := by decide +kernel
theorem dX8_voice_81 : decode cX8_voice 81 = .ok (.iload_n 3, 1) := by decide +kernel
theorem dX8_voice_82 : decode cX8_voice 82 = .ok (.invokevirtual 242, 3) := by decide +kernel
theorem dX8_voice_85 : decode cX8_voice 85 = .ok (.goto 10, 3) := by decide +kernel
theorem dX8_voice_88 : decode cX8_voice 88 = .ok (.aload_n 0, 1) := by decide +kernel
theorem dX8_voice_89 : decode cX8_voice 89 = .ok (.iload 4, 2) := by decide +kernel
theorem dX8_voice_91 : decode cX8_voice 91 = .ok (.iload_n 3, 1) := by decide +kernel
theorem dX8_voice_92 : decode cX8_voice 92 = .ok (.invokevirtual 249, 3) := by decide +kernel
theorem dX8_voice_95 : decode cX8_voice 95 = .ok (.istore 5, 2) := by decide +kernel
theorem dX8_voice_97 : decode cX8_voice 97 = .ok (.aload_n 0, 1) := by decide +kernel
theorem dX8_voice_98 : decode cX8_voice 98 = .ok (.getfield 245, 3) := by decide +kernel
theorem dX8_voice_101 : decode cX8_voice 101 = .ok (.ifCond .eq 12, 3) := by decide +kernel
theorem dX8_voice_104 : decode cX8_voice 104 = .ok (.aload_n 0, 1) := by decide +kernel
theorem dX8_voice_105 : decode cX8_voice 105 = .ok (.bipush 6, 2) := by decide +kernel
theorem dX8_voice_107 : decode cX8_voice 107 = .ok (.invokevirtual 51, 3) := by decide +kernel
theorem dX8_voice_110 : decode cX8_voice 110 = .ok (.goto 5, 3) := by decide +kernel
theorem dX8_voice_113 : decode cX8_voice 113 = .ok (.iload 5, 2) := by decide +kernel
theorem dX8_voice_115 : decode cX8_voice 115 = .ok (.ireturn, 1) := by decide +kernel
theorem dX8_body_0 : decode cX8_body 0 = .ok (.iload_n 1, 1) := by decide +kernel
theorem dX8_body_1 : decode cX8_body 1 = .ok (.iconst 0, 1) := by decide +kernel
theorem dX8_body_2 : decode cX8_body 2 = .ok (.aload_n 0, 1) := by decide +kernel
theorem dX8_body_3 : decode cX8_body 3 = .ok (.getfield 221, 3) := by decide +kernel
theorem dX8_body_6 : decode cX8_body 6 = .ok (.iconst 1, 1) := by decide +kernel
theorem dX8_body_7 : decode cX8_body 7 = .ok (.isub, 1) := by decide +kernel
theorem dX8_body_8 : decode cX8_body 8 = .ok (.invokestatic 47, 3) := by decide +kernel
theorem dX8_body_11 : decode cX8_body 11 = .ok (.ifCond .eq 12, 3) := by decide +kernel
theorem dX8_body_14 : decode cX8_body 14 = .ok (.aload_n 0, 1) := by decide +kernel
theorem dX8_body_15 : decode cX8_body 15 = .ok (.getfield 31, 3) := by decide +kernel
theorem dX8_body_18 : decode cX8_body 18 = .ok (.iload_n 1, 1) := by decide +kernel
theorem dX8_body_19 : decode cX8_body 19 = .ok (.iaload, 1) := by decide +kernel
theorem dX8_body_20 : decode cX8_body 20 = .ok (.goto 8, 3) := by decide +kernel
theorem dX8_body_23 : decode cX8_body 23 = .ok (.aload_n 0, 1) := by decide +kernel
theorem dX8_body_24 : decode cX8_body 24 = .ok (.iconst 2, 1) := by decide +kernel
theorem dX8_body_25 : decode cX8_body 25 = .ok (.invokevirtual 51, 3) := by decide +kernel
theorem dX8_body_28 : decode cX8_body 28 = .ok (.ireturn, 1) := by decide +kernel
theorem dX8_isSheet_0 : decode cX8_isSheet 0 = .ok (.iload_n 0, 1) := by decide +kernel
theorem dX8_isSheet_1 : decode cX8_isSheet 1 = .ok (.iconst 0, 1) := by decide +kernel
theorem dX8_isSheet_2 : decode cX8_isSheet 2 = .ok (.iconst 3, 1) := by decide +kernel
theorem dX8_isSheet_3 : decode cX8_isSheet 3 = .ok (.invokestatic 47, 3) := by decide +kernel
theorem dX8_isSheet_6 : decode cX8_isSheet 6 = .ok (.ireturn, 1) := by decide +kernel
theorem dX8_sheet_0 : decode cX8_sheet 0 = .ok (.iload_n 1, 1) := by decide +kernel
theorem dX8_sheet_1 : decode cX8_sheet 1 = .ok (.invokestatic 252, 3) := by decide +kernel
theorem dX8_sheet_4 : decode cX8_sheet 4 = .ok (.ifCond .eq 25, 3) := by decide +kernel
theorem dX8_sheet_7 : decode cX8_sheet 7 = .ok (.iload_n 2, 1) := by decide +kernel
theorem dX8_sheet_8 : decode cX8_sheet 8 = .ok (.ifCond .eq 27, 3) := by decide +kernel
theorem dX8_sheet_11 : decode cX8_sheet 11 = .ok (.iload_n 2, 1) := by decide +kernel
theorem dX8_sheet_12 : decode cX8_sheet 12 = .ok (.bipush 8, 2) := by decide +kernel
theorem dX8_sheet_14 : decode cX8_sheet 14 = .ok (.if_icmp .eq 21, 3) := by decide +kernel
theorem dX8_sheet_17 : decode cX8_sheet 17 = .ok (.iload_n 2, 1) := by decide +kernel
theorem dX8_sheet_18 : decode cX8_sheet 18 = .ok (.bipush 16, 2) := by decide +kernel
theorem dX8_sheet_20 : decode cX8_sheet 20 = .ok (.if_icmp .eq 15, 3) := by decide +kernel
theorem dX8_sheet_23 : decode cX8_sheet 23 = .ok (.iload_n 2, 1) := by decide +kernel
theorem dX8_sheet_24 : decode cX8_sheet 24 = .ok (.bipush 32, 2) := by decide +kernel
theorem dX8_sheet_26 : decode cX8_sheet 26 = .ok (.if_icmp .eq 9, 3) := by decide +kernel
theorem dX8_sheet_29 : decode cX8_sheet 29 = .ok (.aload_n 0, 1) := by decide +kernel
theorem dX8_sheet_30 : decode cX8_sheet 30 = .ok (.iconst 1, 1) := by decide +kernel
theorem dX8_sheet_31 : decode cX8_sheet 31 = .ok (.invokevirtual 51, 3) := by decide +kernel
theorem dX8_sheet_34 : decode cX8_sheet 34 = .ok (.ireturn, 1) := by decide +kernel
theorem dX8_sheet_35 : decode cX8_sheet 35 = .ok (.iload_n 2, 1) := by decide +kernel
theorem dX8_sheet_36 : decode cX8_sheet 36 = .ok (.ifCond .eq 13, 3) := by decide +kernel
theorem dX8_sheet_39 : decode cX8_sheet 39 = .ok (.iload_n 3, 1) := by decide +kernel
theorem dX8_sheet_40 : decode cX8_sheet 40 = .ok (.ifCond .ge 9, 3) := by decide +kernel
theorem dX8_sheet_43 : decode cX8_sheet 43 = .ok (.aload_n 0, 1) := by decide +kernel
theorem dX8_sheet_44 : decode cX8_sheet 44 = .ok (.iconst 3, 1) := by decide +kernel
theorem dX8_sheet_45 : decode cX8_sheet 45 = .ok (.invokevirtual 51, 3) := by decide +kernel
theorem dX8_sheet_48 : decode cX8_sheet 48 = .ok (.ireturn, 1) := by decide +kernel
theorem dX8_sheet_49 : decode cX8_sheet 49 = .ok (.iload_n 2, 1) := by decide +kernel
theorem dX8_sheet_50 : decode cX8_sheet 50 = .ok (.ifCond .eq 15, 3) := by decide +kernel
theorem dX8_sheet_53 : decode cX8_sheet 53 = .ok (.iload_n 3, 1) := by decide +kernel
theorem dX8_sheet_54 : decode cX8_sheet 54 = .ok (.bipush 24, 2) := by decide +kernel
theorem dX8_sheet_56 : decode cX8_sheet 56 = .ok (.if_icmp .le 9, 3) := by decide +kernel
theorem dX8_sheet_59 : decode cX8_sheet 59 = .ok (.aload_n 0, 1) := by decide +kernel
theorem dX8_sheet_60 : decode cX8_sheet 60 = .ok (.iconst 1, 1) := by decide +kernel
theorem dX8_sheet_61 : decode cX8_sheet 61 = .ok (.invokevirtual 51, 3) := by decide +kernel
theorem dX8_sheet_64 : decode cX8_sheet 64 = .ok (.ireturn, 1) := by decide +kernel
theorem dX8_sheet_65 : decode cX8_sheet 65 = .ok (.aload_n 0, 1) := by decide +kernel
theorem dX8_sheet_66 : decode cX8_sheet 66 = .ok (.getfield 34, 3) := by decide +kernel
theorem dX8_sheet_69 : decode cX8_sheet 69 = .ok (.iload_n 1, 1) := by decide +kernel
theorem dX8_sheet_70 : decode cX8_sheet 70 = .ok (.iload_n 2, 1) := by decide +kernel
theorem dX8_sheet_71 : decode cX8_sheet 71 = .ok (.iastore, 1) := by decide +kernel
theorem dX8_sheet_72 : decode cX8_sheet 72 = .ok (.aload_n 0, 1) := by decide +kernel
theorem dX8_sheet_73 : decode cX8_sheet 73 = .ok (.getfield 37, 3) := by decide +kernel
theorem dX8_sheet_76 : decode cX8_sheet 76 = .ok (.iload_n 1, 1) := by decide +kernel
theorem dX8_sheet_77 : decode cX8_sheet 77 = .ok (.iload_n 2, 1) := by decide +kernel
theorem dX8_sheet_78 : decode cX8_sheet 78 = .ok (.ifCond .ne 7, 3) := by decide +kernel
theorem dX8_sheet_81 : decode cX8_sheet 81 = .ok (.iconst 0, 1) := by decide +kernel
theorem dX8_sheet_82 : decode cX8_sheet 82 = .ok (.goto 4, 3) := by decide +kernel
theorem dX8_sheet_85 : decode cX8_sheet 85 = .ok (.iload_n 3, 1) := by decide +kernel
theorem dX8_sheet_86 : decode cX8_sheet 86 = .ok (.iastore, 1) := by decide +kernel
theorem dX8_sheet_87 : decode cX8_sheet 87 = .ok (.iconst 0, 1) := by decide +kernel
theorem dX8_sheet_88 : decode cX8_sheet 88 = .ok (.istore 4, 2) := by decide +kernel
theorem dX8_sheet_90 : decode cX8_sheet 90 = .ok (.iload 4, 2) := by decide +kernel
theorem dX8_sheet_92 : decode cX8_sheet 92 = .ok (.bipush 24, 2) := by decide +kernel
theorem dX8_sheet_94 : decode cX8_sheet 94 = .ok (.if_icmp .ge 22, 3) := by decide +kernel
theorem dX8_sheet_97 : decode cX8_sheet 97 = .ok (.aload_n 0, 1) := by decide +kernel
theorem dX8_sheet_98 : decode cX8_sheet 98 = .ok (.getfield 40, 3) := by decide +kernel
theorem dX8_sheet_101 : decode cX8_sheet 101 = .ok (.bipush 24, 2) := by decide +kernel
theorem dX8_sheet_103 : decode cX8_sheet 103 = .ok (.iload_n 1, 1) := by decide +kernel
theorem dX8_sheet_104 : decode cX8_sheet 104 = .ok (.imul, 1) := by decide +kernel
theorem dX8_sheet_105 : decode cX8_sheet 105 = .ok (.iload 4, 2) := by decide +kernel
theorem dX8_sheet_107 : decode cX8_sheet 107 = .ok (.iadd, 1) := by decide +kernel
theorem dX8_sheet_108 : decode cX8_sheet 108 = .ok (.iconst 0, 1) := by decide +kernel
theorem dX8_sheet_109 : decode cX8_sheet 109 = .ok (.iastore, 1) := by decide +kernel
theorem dX8_sheet_110 : decode cX8_sheet 110 = .ok (.iinc 4 1, 3) := by decide +kernel
theorem dX8_sheet_113 : decode cX8_sheet 113 = .ok (.goto (-23), 3) := by decide +kernel
theorem dX8_sheet_116 : decode cX8_sheet 116 = .ok (.iconst 1, 1) := by decide +kernel
theorem dX8_sheet_117 : decode cX8_sheet 117 = .ok (.ireturn, 1) := by decide +kernel
theorem dX8_put_0 : decode cX8_put 0 = .ok (.iload_n 1, 1) := by decide +kernel
theorem dX8_put_1 : decode cX8_put 1 = .ok (.invokestatic 252, 3) := by decide +kernel
theorem dX8_put_4 : decode cX8_put 4 = .ok (.ifCond .ne 9, 3) := by decide +kernel
theorem dX8_put_7 : decode cX8_put 7 = .ok (.aload_n 0, 1) := by decide +kernel
theorem dX8_put_8 : decode cX8_put 8 = .ok (.iconst 1, 1) := by decide +kernel
theorem dX8_put_9 : decode cX8_put 9 = .ok (.invokevirtual 51, 3) := by decide +kernel
theorem dX8_put_12 : decode cX8_put 12 = .ok (.ireturn, 1) := by decide +kernel
theorem dX8_put_13 : decode cX8_put 13 = .ok (.aload_n 0, 1) := by decide +kernel
theorem dX8_put_14 : decode cX8_put 14 = .ok (.getfield 34, 3) := by decide +kernel
theorem dX8_put_17 : decode cX8_put 17 = .ok (.iload_n 1, 1) := by decide +kernel
theorem dX8_put_18 : decode cX8_put 18 = .ok (.iaload, 1) := by decide +kernel
theorem dX8_put_19 : decode cX8_put 19 = .ok (.ifCond .ne 9, 3) := by decide +kernel
theorem dX8_put_22 : decode cX8_put 22 = .ok (.aload_n 0, 1) := by decide +kernel
theorem dX8_put_23 : decode cX8_put 23 = .ok (.iconst 2, 1) := by decide +kernel
theorem dX8_put_24 : decode cX8_put 24 = .ok (.invokevirtual 51, 3) := by decide +kernel
theorem dX8_put_27 : decode cX8_put 27 = .ok (.ireturn, 1) := by decide +kernel
theorem dX8_put_28 : decode cX8_put 28 = .ok (.iload_n 2, 1) := by decide +kernel
theorem dX8_put_29 : decode cX8_put 29 = .ok (.iconst 0, 1) := by decide +kernel
theorem dX8_put_30 : decode cX8_put 30 = .ok (.aload_n 0, 1) := by decide +kernel
theorem dX8_put_31 : decode cX8_put 31 = .ok (.getfield 37, 3) := by decide +kernel
theorem dX8_put_34 : decode cX8_put 34 = .ok (.iload_n 1, 1) := by decide +kernel
theorem dX8_put_35 : decode cX8_put 35 = .ok (.iaload, 1) := by decide +kernel
theorem dX8_put_36 : decode cX8_put 36 = .ok (.iconst 1, 1) := by decide +kernel
theorem dX8_put_37 : decode cX8_put 37 = .ok (.isub, 1) := by decide +kernel
theorem dX8_put_38 : decode cX8_put 38 = .ok (.invokestatic 47, 3) := by decide +kernel
theorem dX8_put_41 : decode cX8_put 41 = .ok (.ifCond .ne 9, 3) := by decide +kernel
theorem dX8_put_44 : decode cX8_put 44 = .ok (.aload_n 0, 1) := by decide +kernel
theorem dX8_put_45 : decode cX8_put 45 = .ok (.iconst 1, 1) := by decide +kernel
theorem dX8_put_46 : decode cX8_put 46 = .ok (.invokevirtual 51, 3) := by decide +kernel
theorem dX8_put_49 : decode cX8_put 49 = .ok (.ireturn, 1) := by decide +kernel
theorem dX8_put_50 : decode cX8_put 50 = .ok (.bipush 32, 2) := by decide +kernel
theorem dX8_put_52 : decode cX8_put 52 = .ok (.aload_n 0, 1) := by decide +kernel
theorem dX8_put_53 : decode cX8_put 53 = .ok (.getfield 34, 3) := by decide +kernel
theorem dX8_put_56 : decode cX8_put 56 = .ok (.iload_n 1, 1) := by decide +kernel
theorem dX8_put_57 : decode cX8_put 57 = .ok (.iaload, 1) := by decide +kernel
theorem dX8_put_58 : decode cX8_put 58 = .ok (.isub, 1) := by decide +kernel
theorem dX8_put_59 : decode cX8_put 59 = .ok (.istore 4, 2) := by decide +kernel
theorem dX8_put_61 : decode cX8_put 61 = .ok (.aload_n 0, 1) := by decide +kernel
theorem dX8_put_62 : decode cX8_put 62 = .ok (.getfield 40, 3) := by decide +kernel
theorem dX8_put_65 : decode cX8_put 65 = .ok (.bipush 24, 2) := by decide +kernel
theorem dX8_put_67 : decode cX8_put 67 = .ok (.iload_n 1, 1) := by decide +kernel
theorem dX8_put_68 : decode cX8_put 68 = .ok (.imul, 1) := by decide +kernel
theorem dX8_put_69 : decode cX8_put 69 = .ok (.iload_n 2, 1) := by decide +kernel
theorem dX8_put_70 : decode cX8_put 70 = .ok (.iadd, 1) := by decide +kernel
theorem dX8_put_71 : decode cX8_put 71 = .ok (.iload_n 3, 1) := by decide +kernel
theorem dX8_put_72 : decode cX8_put 72 = .ok (.iload 4, 2) := by decide +kernel
theorem dX8_put_74 : decode cX8_put 74 = .ok (.ishl, 1) := by decide +kernel
theorem dX8_put_75 : decode cX8_put 75 = .ok (.iload 4, 2) := by decide +kernel
theorem dX8_put_77 : decode cX8_put 77 = .ok (.ishr, 1) := by decide +kernel
theorem dX8_put_78 : decode cX8_put 78 = .ok (.iastore, 1) := by decide +kernel
theorem dX8_put_79 : decode cX8_put 79 = .ok (.iconst 1, 1) := by decide +kernel
theorem dX8_put_80 : decode cX8_put 80 = .ok (.ireturn, 1) := by decide +kernel
theorem dX8_move_0 : decode cX8_move 0 = .ok (.iload_n 1, 1) := by decide +kernel
theorem dX8_move_1 : decode cX8_move 1 = .ok (.invokestatic 252, 3) := by decide +kernel
theorem dX8_move_4 : decode cX8_move 4 = .ok (.ifCond .eq 10, 3) := by decide +kernel
theorem dX8_move_7 : decode cX8_move 7 = .ok (.iload_n 3, 1) := by decide +kernel
theorem dX8_move_8 : decode cX8_move 8 = .ok (.invokestatic 252, 3) := by decide +kernel
theorem dX8_move_11 : decode cX8_move 11 = .ok (.ifCond .ne 9, 3) := by decide +kernel
theorem dX8_move_14 : decode cX8_move 14 = .ok (.aload_n 0, 1) := by decide +kernel
theorem dX8_move_15 : decode cX8_move 15 = .ok (.iconst 1, 1) := by decide +kernel
theorem dX8_move_16 : decode cX8_move 16 = .ok (.invokevirtual 51, 3) := by decide +kernel
theorem dX8_move_19 : decode cX8_move 19 = .ok (.ireturn, 1) := by decide +kernel
theorem dX8_move_20 : decode cX8_move 20 = .ok (.aload_n 0, 1) := by decide +kernel
theorem dX8_move_21 : decode cX8_move 21 = .ok (.getfield 34, 3) := by decide +kernel
theorem dX8_move_24 : decode cX8_move 24 = .ok (.iload_n 1, 1) := by decide +kernel
theorem dX8_move_25 : decode cX8_move 25 = .ok (.iaload, 1) := by decide +kernel
theorem dX8_move_26 : decode cX8_move 26 = .ok (.ifCond .eq 12, 3) := by decide +kernel
theorem dX8_move_29 : decode cX8_move 29 = .ok (.aload_n 0, 1) := by decide +kernel
theorem dX8_move_30 : decode cX8_move 30 = .ok (.getfield 34, 3) := by decide +kernel
theorem dX8_move_33 : decode cX8_move 33 = .ok (.iload_n 3, 1) := by decide +kernel
theorem dX8_move_34 : decode cX8_move 34 = .ok (.iaload, 1) := by decide +kernel
theorem dX8_move_35 : decode cX8_move 35 = .ok (.ifCond .ne 9, 3) := by decide +kernel
theorem dX8_move_38 : decode cX8_move 38 = .ok (.aload_n 0, 1) := by decide +kernel
theorem dX8_move_39 : decode cX8_move 39 = .ok (.iconst 2, 1) := by decide +kernel
theorem dX8_move_40 : decode cX8_move 40 = .ok (.invokevirtual 51, 3) := by decide +kernel
theorem dX8_move_43 : decode cX8_move 43 = .ok (.ireturn, 1) := by decide +kernel
theorem dX8_move_44 : decode cX8_move 44 = .ok (.aload_n 0, 1) := by decide +kernel
theorem dX8_move_45 : decode cX8_move 45 = .ok (.getfield 34, 3) := by decide +kernel
theorem dX8_move_48 : decode cX8_move 48 = .ok (.iload_n 1, 1) := by decide +kernel
theorem dX8_move_49 : decode cX8_move 49 = .ok (.iaload, 1) := by decide +kernel
theorem dX8_move_50 : decode cX8_move 50 = .ok (.aload_n 0, 1) := by decide +kernel
theorem dX8_move_51 : decode cX8_move 51 = .ok (.getfield 34, 3) := by decide +kernel
theorem dX8_move_54 : decode cX8_move 54 = .ok (.iload_n 3, 1) := by decide +kernel
theorem dX8_move_55 : decode cX8_move 55 = .ok (.iaload, 1) := by decide +kernel
theorem dX8_move_56 : decode cX8_move 56 = .ok (.if_icmp .eq 9, 3) := by decide +kernel
theorem dX8_move_59 : decode cX8_move 59 = .ok (.aload_n 0, 1) := by decide +kernel
theorem dX8_move_60 : decode cX8_move 60 = .ok (.iconst 5, 1) := by decide +kernel
theorem dX8_move_61 : decode cX8_move 61 = .ok (.invokevirtual 51, 3) := by decide +kernel
theorem dX8_move_64 : decode cX8_move 64 = .ok (.ireturn, 1) := by decide +kernel
theorem dX8_move_65 : decode cX8_move 65 = .ok (.iload 5, 2) := by decide +kernel
theorem dX8_move_67 : decode cX8_move 67 = .ok (.ifCond .lt 39, 3) := by decide +kernel
theorem dX8_move_70 : decode cX8_move 70 = .ok (.iload_n 2, 1) := by decide +kernel
theorem dX8_move_71 : decode cX8_move 71 = .ok (.ifCond .lt 35, 3) := by decide +kernel
theorem dX8_move_74 : decode cX8_move 74 = .ok (.iload 4, 2) := by decide +kernel
theorem dX8_move_76 : decode cX8_move 76 = .ok (.ifCond .lt 30, 3) := by decide +kernel
theorem dX8_move_79 : decode cX8_move 79 = .ok (.iload_n 2, 1) := by decide +kernel
theorem dX8_move_80 : decode cX8_move 80 = .ok (.aload_n 0, 1) := by decide +kernel
theorem dX8_move_81 : decode cX8_move 81 = .ok (.getfield 37, 3) := by decide +kernel
theorem dX8_move_84 : decode cX8_move 84 = .ok (.iload_n 1, 1) := by decide +kernel
theorem dX8_move_85 : decode cX8_move 85 = .ok (.iaload, 1) := by decide +kernel
theorem dX8_move_86 : decode cX8_move 86 = .ok (.iload 5, 2) := by decide +kernel
theorem dX8_move_88 : decode cX8_move 88 = .ok (.isub, 1) := by decide +kernel
theorem dX8_move_89 : decode cX8_move 89 = .ok (.if_icmp .gt 17, 3) := by decide +kernel
theorem dX8_move_92 : decode cX8_move 92 = .ok (.iload 4, 2) := by decide +kernel
theorem dX8_move_94 : decode cX8_move 94 = .ok (.aload_n 0, 1) := by decide +kernel
theorem dX8_move_95 : decode cX8_move 95 = .ok (.getfield 37, 3) := by decide +kernel
theorem dX8_move_98 : decode cX8_move 98 = .ok (.iload_n 3, 1) := by decide +kernel
theorem dX8_move_99 : decode cX8_move 99 = .ok (.iaload, 1) := by decide +kernel
theorem dX8_move_100 : decode cX8_move 100 = .ok (.iload 5, 2) := by decide +kernel
theorem dX8_move_102 : decode cX8_move 102 = .ok (.isub, 1) := by decide +kernel
theorem dX8_move_103 : decode cX8_move 103 = .ok (.if_icmp .le 9, 3) := by decide +kernel
theorem dX8_move_106 : decode cX8_move 106 = .ok (.aload_n 0, 1) := by decide +kernel
theorem dX8_move_107 : decode cX8_move 107 = .ok (.iconst 1, 1) := by decide +kernel
theorem dX8_move_108 : decode cX8_move 108 = .ok (.invokevirtual 51, 3) := by decide +kernel
theorem dX8_move_111 : decode cX8_move 111 = .ok (.ireturn, 1) := by decide +kernel
theorem dX8_move_112 : decode cX8_move 112 = .ok (.iconst 0, 1) := by decide +kernel
theorem dX8_move_113 : decode cX8_move 113 = .ok (.istore 6, 2) := by decide +kernel
theorem dX8_move_115 : decode cX8_move 115 = .ok (.iload 6, 2) := by decide +kernel
theorem dX8_move_117 : decode cX8_move 117 = .ok (.iload 5, 2) := by decide +kernel
theorem dX8_move_119 : decode cX8_move 119 = .ok (.if_icmp .ge 30, 3) := by decide +kernel
theorem dX8_move_122 : decode cX8_move 122 = .ok (.aload_n 0, 1) := by decide +kernel
theorem dX8_move_123 : decode cX8_move 123 = .ok (.getfield 43, 3) := by decide +kernel
theorem dX8_move_126 : decode cX8_move 126 = .ok (.iload 6, 2) := by decide +kernel
theorem dX8_move_128 : decode cX8_move 128 = .ok (.aload_n 0, 1) := by decide +kernel
theorem dX8_move_129 : decode cX8_move 129 = .ok (.getfield 40, 3) := by decide +kernel
theorem dX8_move_132 : decode cX8_move 132 = .ok (.bipush 24, 2) := by decide +kernel
theorem dX8_move_134 : decode cX8_move 134 = .ok (.iload_n 1, 1) := by decide +kernel
theorem dX8_move_135 : decode cX8_move 135 = .ok (.imul, 1) := by decide +kernel
theorem dX8_move_136 : decode cX8_move 136 = .ok (.iload_n 2, 1) := by decide +kernel
theorem dX8_move_137 : decode cX8_move 137 = .ok (.iadd, 1) := by decide +kernel
theorem dX8_move_138 : decode cX8_move 138 = .ok (.iload 6, 2) := by decide +kernel
theorem dX8_move_140 : decode cX8_move 140 = .ok (.iadd, 1) := by decide +kernel
theorem dX8_move_141 : decode cX8_move 141 = .ok (.iaload, 1) := by decide +kernel
theorem dX8_move_142 : decode cX8_move 142 = .ok (.iastore, 1) := by decide +kernel
theorem dX8_move_143 : decode cX8_move 143 = .ok (.iinc 6 1, 3) := by decide +kernel
theorem dX8_move_146 : decode cX8_move 146 = .ok (.goto (-31), 3) := by decide +kernel
theorem dX8_move_149 : decode cX8_move 149 = .ok (.iconst 0, 1) := by decide +kernel
theorem dX8_move_150 : decode cX8_move 150 = .ok (.istore 6, 2) := by decide +kernel
theorem dX8_move_152 : decode cX8_move 152 = .ok (.iload 6, 2) := by decide +kernel
theorem dX8_move_154 : decode cX8_move 154 = .ok (.iload 5, 2) := by decide +kernel
theorem dX8_move_156 : decode cX8_move 156 = .ok (.if_icmp .ge 31, 3) := by decide +kernel
theorem dX8_move_159 : decode cX8_move 159 = .ok (.aload_n 0, 1) := by decide +kernel
theorem dX8_move_160 : decode cX8_move 160 = .ok (.getfield 40, 3) := by decide +kernel
theorem dX8_move_163 : decode cX8_move 163 = .ok (.bipush 24, 2) := by decide +kernel
theorem dX8_move_165 : decode cX8_move 165 = .ok (.iload_n 3, 1) := by decide +kernel
theorem dX8_move_166 : decode cX8_move 166 = .ok (.imul, 1) := by decide +kernel
theorem dX8_move_167 : decode cX8_move 167 = .ok (.iload 4, 2) := by decide +kernel
theorem dX8_move_169 : decode cX8_move 169 = .ok (.iadd, 1) := by decide +kernel
theorem dX8_move_170 : decode cX8_move 170 = .ok (.iload 6, 2) := by decide +kernel
theorem dX8_move_172 : decode cX8_move 172 = .ok (.iadd, 1) := by decide +kernel
theorem dX8_move_173 : decode cX8_move 173 = .ok (.aload_n 0, 1) := by decide +kernel
theorem dX8_move_174 : decode cX8_move 174 = .ok (.getfield 43, 3) := by decide +kernel
theorem dX8_move_177 : decode cX8_move 177 = .ok (.iload 6, 2) := by decide +kernel
theorem dX8_move_179 : decode cX8_move 179 = .ok (.iaload, 1) := by decide +kernel
theorem dX8_move_180 : decode cX8_move 180 = .ok (.iastore, 1) := by decide +kernel
theorem dX8_move_181 : decode cX8_move 181 = .ok (.iinc 6 1, 3) := by decide +kernel
theorem dX8_move_184 : decode cX8_move 184 = .ok (.goto (-32), 3) := by decide +kernel
theorem dX8_move_187 : decode cX8_move 187 = .ok (.iload 5, 2) := by decide +kernel
theorem dX8_move_189 : decode cX8_move 189 = .ok (.ireturn, 1) := by decide +kernel
theorem dX8_lacks_0 : decode cX8_lacks 0 = .ok (.iload_n 1, 1) := by decide +kernel
theorem dX8_lacks_1 : decode cX8_lacks 1 = .ok (.invokestatic 252, 3) := by decide +kernel
theorem dX8_lacks_4 : decode cX8_lacks 4 = .ok (.ifCond .ne 7, 3) := by decide +kernel
theorem dX8_lacks_7 : decode cX8_lacks 7 = .ok (.iconst 1, 1) := by decide +kernel
theorem dX8_lacks_8 : decode cX8_lacks 8 = .ok (.goto 17, 3) := by decide +kernel
theorem dX8_lacks_11 : decode cX8_lacks 11 = .ok (.aload_n 0, 1) := by decide +kernel
theorem dX8_lacks_12 : decode cX8_lacks 12 = .ok (.getfield 34, 3) := by decide +kernel
theorem dX8_lacks_15 : decode cX8_lacks 15 = .ok (.iload_n 1, 1) := by decide +kernel
theorem dX8_lacks_16 : decode cX8_lacks 16 = .ok (.iaload, 1) := by decide +kernel
theorem dX8_lacks_17 : decode cX8_lacks 17 = .ok (.ifCond .ne 7, 3) := by decide +kernel
theorem dX8_lacks_20 : decode cX8_lacks 20 = .ok (.iconst 2, 1) := by decide +kernel
theorem dX8_lacks_21 : decode cX8_lacks 21 = .ok (.goto 4, 3) := by decide +kernel
theorem dX8_lacks_24 : decode cX8_lacks 24 = .ok (.iconst 0, 1) := by decide +kernel
theorem dX8_lacks_25 : decode cX8_lacks 25 = .ok (.ireturn, 1) := by decide +kernel
theorem dX8_sures_0 : decode cX8_sures 0 = .ok (.aload_n 0, 1) := by decide +kernel
theorem dX8_sures_1 : decode cX8_sures 1 = .ok (.iload_n 1, 1) := by decide +kernel
theorem dX8_sures_2 : decode cX8_sures 2 = .ok (.invokevirtual 215, 3) := by decide +kernel
theorem dX8_sures_5 : decode cX8_sures 5 = .ok (.istore_n 2, 1) := by decide +kernel
theorem dX8_sures_6 : decode cX8_sures 6 = .ok (.iload_n 2, 1) := by decide +kernel
theorem dX8_sures_7 : decode cX8_sures 7 = .ok (.ifCond .eq 9, 3) := by decide +kernel
theorem dX8_sures_10 : decode cX8_sures 10 = .ok (.aload_n 0, 1) := by decide +kernel
theorem dX8_sures_11 : decode cX8_sures 11 = .ok (.iload_n 2, 1) := by decide +kernel
theorem dX8_sures_12 : decode cX8_sures 12 = .ok (.invokevirtual 51, 3) := by decide +kernel
theorem dX8_sures_15 : decode cX8_sures 15 = .ok (.ireturn, 1) := by decide +kernel
theorem dX8_sures_16 : decode cX8_sures 16 = .ok (.iconst 0, 1) := by decide +kernel
theorem dX8_sures_17 : decode cX8_sures 17 = .ok (.istore_n 3, 1) := by decide +kernel
theorem dX8_sures_18 : decode cX8_sures 18 = .ok (.iload_n 3, 1) := by decide +kernel
theorem dX8_sures_19 : decode cX8_sures 19 = .ok (.aload_n 0, 1) := by decide +kernel
theorem dX8_sures_20 : decode cX8_sures 20 = .ok (.getfield 37, 3) := by decide +kernel
theorem dX8_sures_23 : decode cX8_sures 23 = .ok (.iload_n 1, 1) := by decide +kernel
theorem dX8_sures_24 : decode cX8_sures 24 = .ok (.iaload, 1) := by decide +kernel
theorem dX8_sures_25 : decode cX8_sures 25 = .ok (.if_icmp .ge 54, 3) := by decide +kernel
theorem dX8_sures_28 : decode cX8_sures 28 = .ok (.aload_n 0, 1) := by decide +kernel
theorem dX8_sures_29 : decode cX8_sures 29 = .ok (.iload_n 3, 1) := by decide +kernel
theorem dX8_sures_30 : decode cX8_sures 30 = .ok (.invokevirtual 157, 3) := by decide +kernel
theorem dX8_sures_33 : decode cX8_sures 33 = .ok (.ifCond .eq 46, 3) := by decide +kernel
theorem dX8_sures_36 : decode cX8_sures 36 = .ok (.aload_n 0, 1) := by decide +kernel
theorem dX8_sures_37 : decode cX8_sures 37 = .ok (.getfield 40, 3) := by decide +kernel
theorem dX8_sures_40 : decode cX8_sures 40 = .ok (.bipush 24, 2) := by decide +kernel
theorem dX8_sures_42 : decode cX8_sures 42 = .ok (.iload_n 1, 1) := by decide +kernel
theorem dX8_sures_43 : decode cX8_sures 43 = .ok (.imul, 1) := by decide +kernel
theorem dX8_sures_44 : decode cX8_sures 44 = .ok (.iload_n 3, 1) := by decide +kernel
theorem dX8_sures_45 : decode cX8_sures 45 = .ok (.iadd, 1) := by decide +kernel
theorem dX8_sures_46 : decode cX8_sures 46 = .ok (.iaload, 1) := by decide +kernel
theorem dX8_sures_47 : decode cX8_sures 47 = .ok (.iconst 0, 1) := by decide +kernel
theorem dX8_sures_48 : decode cX8_sures 48 = .ok (.bipush 99, 2) := by decide +kernel
theorem dX8_sures_50 : decode cX8_sures 50 = .ok (.invokestatic 47, 3) := by decide +kernel
theorem dX8_sures_53 : decode cX8_sures 53 = .ok (.ifCond .eq 26, 3) := by decide +kernel
theorem dX8_sures_56 : decode cX8_sures 56 = .ok (.aload_n 0, 1) := by decide +kernel
theorem dX8_sures_57 : decode cX8_sures 57 = .ok (.iload_n 3, 1) := by decide +kernel
theorem dX8_sures_58 : decode cX8_sures 58 = .ok (.iconst 2, 1) := by decide +kernel
theorem dX8_sures_59 : decode cX8_sures 59 = .ok (.aload_n 0, 1) := by decide +kernel
theorem dX8_sures_60 : decode cX8_sures 60 = .ok (.getfield 40, 3) := by decide +kernel
theorem dX8_sures_63 : decode cX8_sures 63 = .ok (.bipush 24, 2) := by decide +kernel
theorem dX8_sures_65 : decode cX8_sures 65 = .ok (.iload_n 1, 1) := by decide +kernel
theorem dX8_sures_66 : decode cX8_sures 66 = .ok (.imul, 1) := by decide +kernel
theorem dX8_sures_67 : decode cX8_sures 67 = .ok (.iload_n 3, 1) := by decide +kernel
theorem dX8_sures_68 : decode cX8_sures 68 = .ok (.iadd, 1) := by decide +kernel
theorem dX8_sures_69 : decode cX8_sures 69 = .ok (.iaload, 1) := by decide +kernel
theorem dX8_sures_70 : decode cX8_sures 70 = .ok (.invokevirtual 142, 3) := by decide +kernel
theorem dX8_sures_73 : decode cX8_sures 73 = .ok (.iinc 3 1, 3) := by decide +kernel
theorem dX8_sures_76 : decode cX8_sures 76 = .ok (.goto (-58), 3) := by decide +kernel
theorem dX8_sures_79 : decode cX8_sures 79 = .ok (.iload_n 3, 1) := by decide +kernel
theorem dX8_sures_80 : decode cX8_sures 80 = .ok (.ireturn, 1) := by decide +kernel
theorem dX8_judge_0 : decode cX8_judge 0 = .ok (.aload_n 0, 1) := by decide +kernel
theorem dX8_judge_1 : decode cX8_judge 1 = .ok (.iload_n 1, 1) := by decide +kernel
theorem dX8_judge_2 : decode cX8_judge 2 = .ok (.invokevirtual 215, 3) := by decide +kernel
theorem dX8_judge_5 : decode cX8_judge 5 = .ok (.istore_n 2, 1) := by decide +kernel
theorem dX8_judge_6 : decode cX8_judge 6 = .ok (.iload_n 2, 1) := by decide +kernel
theorem dX8_judge_7 : decode cX8_judge 7 = .ok (.ifCond .eq 9, 3) := by decide +kernel
theorem dX8_judge_10 : decode cX8_judge 10 = .ok (.aload_n 0, 1) := by decide +kernel
theorem dX8_judge_11 : decode cX8_judge 11 = .ok (.iload_n 2, 1) := by decide +kernel
theorem dX8_judge_12 : decode cX8_judge 12 = .ok (.invokevirtual 51, 3) := by decide +kernel
theorem dX8_judge_15 : decode cX8_judge 15 = .ok (.ireturn, 1) := by decide +kernel
theorem dX8_judge_16 : decode cX8_judge 16 = .ok (.iconst 0, 1) := by decide +kernel
theorem dX8_judge_17 : decode cX8_judge 17 = .ok (.istore_n 3, 1) := by decide +kernel
theorem dX8_judge_18 : decode cX8_judge 18 = .ok (.iload_n 3, 1) := by decide +kernel
theorem dX8_judge_19 : decode cX8_judge 19 = .ok (.aload_n 0, 1) := by decide +kernel
theorem dX8_judge_20 : decode cX8_judge 20 = .ok (.getfield 37, 3) := by decide +kernel
theorem dX8_judge_23 : decode cX8_judge 23 = .ok (.iload_n 1, 1) := by decide +kernel
theorem dX8_judge_24 : decode cX8_judge 24 = .ok (.iaload, 1) := by decide +kernel
theorem dX8_judge_25 : decode cX8_judge 25 = .ok (.if_icmp .ge 37, 3) := by decide +kernel
theorem dX8_judge_28 : decode cX8_judge 28 = .ok (.aload_n 0, 1) := by decide +kernel
theorem dX8_judge_29 : decode cX8_judge 29 = .ok (.iload_n 3, 1) := by decide +kernel
theorem dX8_judge_30 : decode cX8_judge 30 = .ok (.invokevirtual 157, 3) := by decide +kernel
theorem dX8_judge_33 : decode cX8_judge 33 = .ok (.ifCond .eq 29, 3) := by decide +kernel
theorem dX8_judge_36 : decode cX8_judge 36 = .ok (.aload_n 0, 1) := by decide +kernel
theorem dX8_judge_37 : decode cX8_judge 37 = .ok (.iload_n 3, 1) := by decide +kernel
theorem dX8_judge_38 : decode cX8_judge 38 = .ok (.iconst 3, 1) := by decide +kernel
theorem dX8_judge_39 : decode cX8_judge 39 = .ok (.invokevirtual 111, 3) := by decide +kernel
theorem dX8_judge_42 : decode cX8_judge 42 = .ok (.aload_n 0, 1) := by decide +kernel
theorem dX8_judge_43 : decode cX8_judge 43 = .ok (.getfield 40, 3) := by decide +kernel
theorem dX8_judge_46 : decode cX8_judge 46 = .ok (.bipush 24, 2) := by decide +kernel
theorem dX8_judge_48 : decode cX8_judge 48 = .ok (.iload_n 1, 1) := by decide +kernel
theorem dX8_judge_49 : decode cX8_judge 49 = .ok (.imul, 1) := by decide +kernel
theorem dX8_judge_50 : decode cX8_judge 50 = .ok (.iload_n 3, 1) := by decide +kernel
theorem dX8_judge_51 : decode cX8_judge 51 = .ok (.iadd, 1) := by decide +kernel
theorem dX8_judge_52 : decode cX8_judge 52 = .ok (.iaload, 1) := by decide +kernel
theorem dX8_judge_53 : decode cX8_judge 53 = .ok (.if_icmp .ne 9, 3) := by decide +kernel
theorem dX8_judge_56 : decode cX8_judge 56 = .ok (.iinc 3 1, 3) := by decide +kernel
theorem dX8_judge_59 : decode cX8_judge 59 = .ok (.goto (-41), 3) := by decide +kernel
theorem dX8_judge_62 : decode cX8_judge 62 = .ok (.iload_n 3, 1) := by decide +kernel
theorem dX8_judge_63 : decode cX8_judge 63 = .ok (.ireturn, 1) := by decide +kernel
theorem dX8_image_0 : decode cX8_image 0 = .ok (.aload_n 0, 1) := by decide +kernel
theorem dX8_image_1 : decode cX8_image 1 = .ok (.getfield 7, 3) := by decide +kernel
theorem dX8_image_4 : decode cX8_image 4 = .ok (.aload_n 0, 1) := by decide +kernel
theorem dX8_image_5 : decode cX8_image 5 = .ok (.getfield 13, 3) := by decide +kernel
theorem dX8_image_8 : decode cX8_image 8 = .ok (.invokestatic 255, 3) := by decide +kernel
theorem dX8_image_11 : decode cX8_image 11 = .ok (.aload_n 0, 1) := by decide +kernel
theorem dX8_image_12 : decode cX8_image 12 = .ok (.dup, 1) := by decide +kernel
theorem dX8_image_13 : decode cX8_image 13 = .ok (.getfield 259, 3) := by decide +kernel
theorem dX8_image_16 : decode cX8_image 16 = .ok (.iconst 1, 1) := by decide +kernel
theorem dX8_image_17 : decode cX8_image 17 = .ok (.iadd, 1) := by decide +kernel
theorem dX8_image_18 : decode cX8_image 18 = .ok (.putfield 259, 3) := by decide +kernel
theorem dX8_image_21 : decode cX8_image 21 = .ok (.aload_n 0, 1) := by decide +kernel
theorem dX8_image_22 : decode cX8_image 22 = .ok (.getfield 259, 3) := by decide +kernel
theorem dX8_image_25 : decode cX8_image 25 = .ok (.ireturn, 1) := by decide +kernel
theorem dX8_restore_0 : decode cX8_restore 0 = .ok (.aload_n 0, 1) := by decide +kernel
theorem dX8_restore_1 : decode cX8_restore 1 = .ok (.getfield 259, 3) := by decide +kernel
theorem dX8_restore_4 : decode cX8_restore 4 = .ok (.ifCond .ne 9, 3) := by decide +kernel
theorem dX8_restore_7 : decode cX8_restore 7 = .ok (.aload_n 0, 1) := by decide +kernel
theorem dX8_restore_8 : decode cX8_restore 8 = .ok (.iconst 2, 1) := by decide +kernel
theorem dX8_restore_9 : decode cX8_restore 9 = .ok (.invokevirtual 51, 3) := by decide +kernel
theorem dX8_restore_12 : decode cX8_restore 12 = .ok (.ireturn, 1) := by decide +kernel
theorem dX8_restore_13 : decode cX8_restore 13 = .ok (.aload_n 0, 1) := by decide +kernel
theorem dX8_restore_14 : decode cX8_restore 14 = .ok (.getfield 13, 3) := by decide +kernel
theorem dX8_restore_17 : decode cX8_restore 17 = .ok (.aload_n 0, 1) := by decide +kernel
theorem dX8_restore_18 : decode cX8_restore 18 = .ok (.getfield 7, 3) := by decide +kernel
theorem dX8_restore_21 : decode cX8_restore 21 = .ok (.invokestatic 255, 3) := by decide +kernel
theorem dX8_restore_24 : decode cX8_restore 24 = .ok (.aload_n 0, 1) := by decide +kernel
theorem dX8_restore_25 : decode cX8_restore 25 = .ok (.getfield 7, 3) := by decide +kernel
theorem dX8_restore_28 : decode cX8_restore 28 = .ok (.iconst 0, 1) := by decide +kernel
theorem dX8_restore_29 : decode cX8_restore 29 = .ok (.iaload, 1) := by decide +kernel
theorem dX8_restore_30 : decode cX8_restore 30 = .ok (.ireturn, 1) := by decide +kernel
theorem dX8_tell_0 : decode cX8_tell 0 = .ok (.aload_n 0, 1) := by decide +kernel
theorem dX8_tell_1 : decode cX8_tell 1 = .ok (.getfield 7, 3) := by decide +kernel
theorem dX8_tell_4 : decode cX8_tell 4 = .ok (.iconst 4, 1) := by decide +kernel
theorem dX8_tell_5 : decode cX8_tell 5 = .ok (.iaload, 1) := by decide +kernel
theorem dX8_tell_6 : decode cX8_tell 6 = .ok (.bipush 24, 2) := by decide +kernel
theorem dX8_tell_8 : decode cX8_tell 8 = .ok (.if_icmp .ne 9, 3) := by decide +kernel
theorem dX8_tell_11 : decode cX8_tell 11 = .ok (.aload_n 0, 1) := by decide +kernel
theorem dX8_tell_12 : decode cX8_tell 12 = .ok (.iconst 4, 1) := by decide +kernel
theorem dX8_tell_13 : decode cX8_tell 13 = .ok (.invokevirtual 51, 3) := by decide +kernel
theorem dX8_tell_16 : decode cX8_tell 16 = .ok (.ireturn, 1) := by decide +kernel
theorem dX8_tell_17 : decode cX8_tell 17 = .ok (.aload_n 0, 1) := by decide +kernel
theorem dX8_tell_18 : decode cX8_tell 18 = .ok (.getfield 7, 3) := by decide +kernel
theorem dX8_tell_21 : decode cX8_tell 21 = .ok (.sipush 348, 3) := by decide +kernel
theorem dX8_tell_24 : decode cX8_tell 24 = .ok (.aload_n 0, 1) := by decide +kernel
theorem dX8_tell_25 : decode cX8_tell 25 = .ok (.getfield 7, 3) := by decide +kernel
theorem dX8_tell_28 : decode cX8_tell 28 = .ok (.iconst 4, 1) := by decide +kernel
theorem dX8_tell_29 : decode cX8_tell 29 = .ok (.iaload, 1) := by decide +kernel
theorem dX8_tell_30 : decode cX8_tell 30 = .ok (.iadd, 1) := by decide +kernel
theorem dX8_tell_31 : decode cX8_tell 31 = .ok (.iload_n 1, 1) := by decide +kernel
theorem dX8_tell_32 : decode cX8_tell 32 = .ok (.iastore, 1) := by decide +kernel
theorem dX8_tell_33 : decode cX8_tell 33 = .ok (.aload_n 0, 1) := by decide +kernel
theorem dX8_tell_34 : decode cX8_tell 34 = .ok (.getfield 7, 3) := by decide +kernel
theorem dX8_tell_37 : decode cX8_tell 37 = .ok (.iconst 4, 1) := by decide +kernel
theorem dX8_tell_38 : decode cX8_tell 38 = .ok (.dup2, 1) := by decide +kernel
theorem dX8_tell_39 : decode cX8_tell 39 = .ok (.iaload, 1) := by decide +kernel
theorem dX8_tell_40 : decode cX8_tell 40 = .ok (.iconst 1, 1) := by decide +kernel
theorem dX8_tell_41 : decode cX8_tell 41 = .ok (.iadd, 1) := by decide +kernel
theorem dX8_tell_42 : decode cX8_tell 42 = .ok (.iastore, 1) := by decide +kernel
theorem dX8_tell_43 : decode cX8_tell 43 = .ok (.aload_n 0, 1) := by decide +kernel
theorem dX8_tell_44 : decode cX8_tell 44 = .ok (.getfield 7, 3) := by decide +kernel
theorem dX8_tell_47 : decode cX8_tell 47 = .ok (.iconst 4, 1) := by decide +kernel
theorem dX8_tell_48 : decode cX8_tell 48 = .ok (.iaload, 1) := by decide +kernel
theorem dX8_tell_49 : decode cX8_tell 49 = .ok (.ireturn, 1) := by decide +kernel
theorem dX8_check_0 : decode cX8_check 0 = .ok (.aload_n 0, 1) := by decide +kernel
theorem dX8_check_1 : decode cX8_check 1 = .ok (.getfield 7, 3) := by decide +kernel
theorem dX8_check_4 : decode cX8_check 4 = .ok (.iconst 4, 1) := by decide +kernel
theorem dX8_check_5 : decode cX8_check 5 = .ok (.iaload, 1) := by decide +kernel
theorem dX8_check_6 : decode cX8_check 6 = .ok (.istore_n 1, 1) := by decide +kernel
theorem dX8_check_7 : decode cX8_check 7 = .ok (.aload_n 0, 1) := by decide +kernel
theorem dX8_check_8 : decode cX8_check 8 = .ok (.getfield 7, 3) := by decide +kernel
theorem dX8_check_11 : decode cX8_check 11 = .ok (.iconst 4, 1) := by decide +kernel
theorem dX8_check_12 : decode cX8_check 12 = .ok (.iconst 0, 1) := by decide +kernel
theorem dX8_check_13 : decode cX8_check 13 = .ok (.iastore, 1) := by decide +kernel
theorem dX8_check_14 : decode cX8_check 14 = .ok (.iconst 0, 1) := by decide +kernel
theorem dX8_check_15 : decode cX8_check 15 = .ok (.istore_n 2, 1) := by decide +kernel
theorem dX8_check_16 : decode cX8_check 16 = .ok (.iload_n 2, 1) := by decide +kernel
theorem dX8_check_17 : decode cX8_check 17 = .ok (.iload_n 1, 1) := by decide +kernel
theorem dX8_check_18 : decode cX8_check 18 = .ok (.if_icmp .ge 40, 3) := by decide +kernel
theorem dX8_check_21 : decode cX8_check 21 = .ok (.aload_n 0, 1) := by decide +kernel
theorem dX8_check_22 : decode cX8_check 22 = .ok (.iload_n 2, 1) := by decide +kernel
theorem dX8_check_23 : decode cX8_check 23 = .ok (.invokevirtual 157, 3) := by decide +kernel
theorem dX8_check_26 : decode cX8_check 26 = .ok (.ifCond .eq 22, 3) := by decide +kernel
theorem dX8_check_29 : decode cX8_check 29 = .ok (.aload_n 0, 1) := by decide +kernel
theorem dX8_check_30 : decode cX8_check 30 = .ok (.getfield 7, 3) := by decide +kernel
theorem dX8_check_33 : decode cX8_check 33 = .ok (.sipush 348, 3) := by decide +kernel
theorem dX8_check_36 : decode cX8_check 36 = .ok (.iload_n 2, 1) := by decide +kernel
theorem dX8_check_37 : decode cX8_check 37 = .ok (.iadd, 1) := by decide +kernel
theorem dX8_check_38 : decode cX8_check 38 = .ok (.iaload, 1) := by decide +kernel
theorem dX8_check_39 : decode cX8_check 39 = .ok (.aload_n 0, 1) := by decide +kernel
theorem dX8_check_40 : decode cX8_check 40 = .ok (.iload_n 2, 1) := by decide +kernel
theorem dX8_check_41 : decode cX8_check 41 = .ok (.iconst 2, 1) := by decide +kernel
theorem dX8_check_42 : decode cX8_check 42 = .ok (.invokevirtual 111, 3) := by decide +kernel
theorem dX8_check_45 : decode cX8_check 45 = .ok (.if_icmp .eq 7, 3) := by decide +kernel
theorem dX8_check_48 : decode cX8_check 48 = .ok (.iconst 1, 1) := by decide +kernel
theorem dX8_check_49 : decode cX8_check 49 = .ok (.iload_n 2, 1) := by decide +kernel
theorem dX8_check_50 : decode cX8_check 50 = .ok (.iadd, 1) := by decide +kernel
theorem dX8_check_51 : decode cX8_check 51 = .ok (.ireturn, 1) := by decide +kernel
theorem dX8_check_52 : decode cX8_check 52 = .ok (.iinc 2 1, 3) := by decide +kernel
theorem dX8_check_55 : decode cX8_check 55 = .ok (.goto (-39), 3) := by decide +kernel
theorem dX8_check_58 : decode cX8_check 58 = .ok (.iconst 0, 1) := by decide +kernel
theorem dX8_check_59 : decode cX8_check 59 = .ok (.ireturn, 1) := by decide +kernel
theorem dX8_count_0 : decode cX8_count 0 = .ok (.iload_n 1, 1) := by decide +kernel
theorem dX8_count_1 : decode cX8_count 1 = .ok (.tableswitch 99 0 7 #[47, 54, 61, 68, 73, 80, 87, 92], 47) := by decide +kernel
theorem dX8_count_48 : decode cX8_count 48 = .ok (.aload_n 0, 1) := by decide +kernel
theorem dX8_count_49 : decode cX8_count 49 = .ok (.getfield 7, 3) := by decide +kernel
theorem dX8_count_52 : decode cX8_count 52 = .ok (.iconst 5, 1) := by decide +kernel
theorem dX8_count_53 : decode cX8_count 53 = .ok (.iaload, 1) := by decide +kernel
theorem dX8_count_54 : decode cX8_count 54 = .ok (.ireturn, 1) := by decide +kernel
theorem dX8_count_55 : decode cX8_count 55 = .ok (.aload_n 0, 1) := by decide +kernel
theorem dX8_count_56 : decode cX8_count 56 = .ok (.getfield 7, 3) := by decide +kernel
theorem dX8_count_59 : decode cX8_count 59 = .ok (.iconst 1, 1) := by decide +kernel
theorem dX8_count_60 : decode cX8_count 60 = .ok (.iaload, 1) := by decide +kernel
theorem dX8_count_61 : decode cX8_count 61 = .ok (.ireturn, 1) := by decide +kernel
theorem dX8_count_62 : decode cX8_count 62 = .ok (.aload_n 0, 1) := by decide +kernel
theorem dX8_count_63 : decode cX8_count 63 = .ok (.getfield 7, 3) := by decide +kernel
theorem dX8_count_66 : decode cX8_count 66 = .ok (.iconst 0, 1) := by decide +kernel
theorem dX8_count_67 : decode cX8_count 67 = .ok (.iaload, 1) := by decide +kernel
theorem dX8_count_68 : decode cX8_count 68 = .ok (.ireturn, 1) := by decide +kernel
theorem dX8_count_69 : decode cX8_count 69 = .ok (.aload_n 0, 1) := by decide +kernel
theorem dX8_count_70 : decode cX8_count 70 = .ok (.invokevirtual 178, 3) := by decide +kernel
theorem dX8_count_73 : decode cX8_count 73 = .ok (.ireturn, 1) := by decide +kernel
theorem dX8_count_74 : decode cX8_count 74 = .ok (.aload_n 0, 1) := by decide +kernel
theorem dX8_count_75 : decode cX8_count 75 = .ok (.getfield 7, 3) := by decide +kernel
theorem dX8_count_78 : decode cX8_count 78 = .ok (.iconst 3, 1) := by decide +kernel
theorem dX8_count_79 : decode cX8_count 79 = .ok (.iaload, 1) := by decide +kernel
theorem dX8_count_80 : decode cX8_count 80 = .ok (.ireturn, 1) := by decide +kernel
theorem dX8_count_81 : decode cX8_count 81 = .ok (.aload_n 0, 1) := by decide +kernel
theorem dX8_count_82 : decode cX8_count 82 = .ok (.getfield 7, 3) := by decide +kernel
theorem dX8_count_85 : decode cX8_count 85 = .ok (.iconst 4, 1) := by decide +kernel
theorem dX8_count_86 : decode cX8_count 86 = .ok (.iaload, 1) := by decide +kernel
theorem dX8_count_87 : decode cX8_count 87 = .ok (.ireturn, 1) := by decide +kernel
theorem dX8_count_88 : decode cX8_count 88 = .ok (.aload_n 0, 1) := by decide +kernel
theorem dX8_count_89 : decode cX8_count 89 = .ok (.getfield 221, 3) := by decide +kernel
theorem dX8_count_92 : decode cX8_count 92 = .ok (.ireturn, 1) := by decide +kernel
theorem dX8_count_93 : decode cX8_count 93 = .ok (.aload_n 0, 1) := by decide +kernel
theorem dX8_count_94 : decode cX8_count 94 = .ok (.getfield 7, 3) := by decide +kernel
theorem dX8_count_97 : decode cX8_count 97 = .ok (.iconst 2, 1) := by decide +kernel
theorem dX8_count_98 : decode cX8_count 98 = .ok (.iaload, 1) := by decide +kernel
theorem dX8_count_99 : decode cX8_count 99 = .ok (.ireturn, 1) := by decide +kernel
theorem dX8_count_100 : decode cX8_count 100 = .ok (.aload_n 0, 1) := by decide +kernel
theorem dX8_count_101 : decode cX8_count 101 = .ok (.iconst 1, 1) := by decide +kernel
theorem dX8_count_102 : decode cX8_count 102 = .ok (.invokevirtual 51, 3) := by decide +kernel
theorem dX8_count_105 : decode cX8_count 105 = .ok (.ireturn, 1) := by decide +kernel
theorem dX8_told_0 : decode cX8_told 0 = .ok (.iload_n 1, 1) := by decide +kernel
theorem dX8_told_1 : decode cX8_told 1 = .ok (.iconst 1, 1) := by decide +kernel
theorem dX8_told_2 : decode cX8_told 2 = .ok (.bipush 6, 2) := by decide +kernel
theorem dX8_told_4 : decode cX8_told 4 = .ok (.invokestatic 47, 3) := by decide +kernel
theorem dX8_told_7 : decode cX8_told 7 = .ok (.ifCond .eq 12, 3) := by decide +kernel
theorem dX8_told_10 : decode cX8_told 10 = .ok (.aload_n 0, 1) := by decide +kernel
theorem dX8_told_11 : decode cX8_told 11 = .ok (.getfield 19, 3) := by decide +kernel
theorem dX8_told_14 : decode cX8_told 14 = .ok (.iload_n 1, 1) := by decide +kernel
theorem dX8_told_15 : decode cX8_told 15 = .ok (.iaload, 1) := by decide +kernel
theorem dX8_told_16 : decode cX8_told 16 = .ok (.goto 8, 3) := by decide +kernel
theorem dX8_told_19 : decode cX8_told 19 = .ok (.aload_n 0, 1) := by decide +kernel
theorem dX8_told_20 : decode cX8_told 20 = .ok (.iconst 1, 1) := by decide +kernel
theorem dX8_told_21 : decode cX8_told 21 = .ok (.invokevirtual 51, 3) := by decide +kernel
theorem dX8_told_24 : decode cX8_told 24 = .ok (.ireturn, 1) := by decide +kernel
theorem dJ11_isValidCodePoint_9a6ad_0 : decode cJ11_isValidCodePoint_9a6ad 0 = .ok (.iload_n 0, 1) := by decide +kernel
theorem dJ11_isValidCodePoint_9a6ad_1 : decode cJ11_isValidCodePoint_9a6ad 1 = .ok (.bipush 16, 2) := by decide +kernel
theorem dJ11_isValidCodePoint_9a6ad_3 : decode cJ11_isValidCodePoint_9a6ad 3 = .ok (.iushr, 1) := by decide +kernel
theorem dJ11_isValidCodePoint_9a6ad_4 : decode cJ11_isValidCodePoint_9a6ad 4 = .ok (.istore_n 1, 1) := by decide +kernel
theorem dJ11_isValidCodePoint_9a6ad_5 : decode cJ11_isValidCodePoint_9a6ad 5 = .ok (.iload_n 1, 1) := by decide +kernel
theorem dJ11_isValidCodePoint_9a6ad_6 : decode cJ11_isValidCodePoint_9a6ad 6 = .ok (.bipush 17, 2) := by decide +kernel
theorem dJ11_isValidCodePoint_9a6ad_8 : decode cJ11_isValidCodePoint_9a6ad 8 = .ok (.if_icmp .ge 7, 3) := by decide +kernel
theorem dJ11_isValidCodePoint_9a6ad_11 : decode cJ11_isValidCodePoint_9a6ad 11 = .ok (.iconst 1, 1) := by decide +kernel
theorem dJ11_isValidCodePoint_9a6ad_12 : decode cJ11_isValidCodePoint_9a6ad 12 = .ok (.goto 4, 3) := by decide +kernel
theorem dJ11_isValidCodePoint_9a6ad_15 : decode cJ11_isValidCodePoint_9a6ad 15 = .ok (.iconst 0, 1) := by decide +kernel
theorem dJ11_isValidCodePoint_9a6ad_16 : decode cJ11_isValidCodePoint_9a6ad 16 = .ok (.ireturn, 1) := by decide +kernel
theorem dJ11_highSurrogate_5068e_0 : decode cJ11_highSurrogate_5068e 0 = .ok (.iload_n 0, 1) := by decide +kernel
theorem dJ11_highSurrogate_5068e_1 : decode cJ11_highSurrogate_5068e 1 = .ok (.bipush 10, 2) := by decide +kernel
theorem dJ11_highSurrogate_5068e_3 : decode cJ11_highSurrogate_5068e 3 = .ok (.iushr, 1) := by decide +kernel
theorem dJ11_highSurrogate_5068e_4 : decode cJ11_highSurrogate_5068e 4 = .ok (.ldc 110, 2) := by decide +kernel
theorem dJ11_highSurrogate_5068e_6 : decode cJ11_highSurrogate_5068e 6 = .ok (.iadd, 1) := by decide +kernel
theorem dJ11_highSurrogate_5068e_7 : decode cJ11_highSurrogate_5068e 7 = .ok (.i2c, 1) := by decide +kernel
theorem dJ11_highSurrogate_5068e_8 : decode cJ11_highSurrogate_5068e 8 = .ok (.ireturn, 1) := by decide +kernel
theorem dJ11_lowSurrogate_5068e_0 : decode cJ11_lowSurrogate_5068e 0 = .ok (.iload_n 0, 1) := by decide +kernel
theorem dJ11_lowSurrogate_5068e_1 : decode cJ11_lowSurrogate_5068e 1 = .ok (.sipush 1023, 3) := by decide +kernel
theorem dJ11_lowSurrogate_5068e_4 : decode cJ11_lowSurrogate_5068e 4 = .ok (.iand, 1) := by decide +kernel
theorem dJ11_lowSurrogate_5068e_5 : decode cJ11_lowSurrogate_5068e 5 = .ok (.ldc 76, 2) := by decide +kernel
theorem dJ11_lowSurrogate_5068e_7 : decode cJ11_lowSurrogate_5068e 7 = .ok (.iadd, 1) := by decide +kernel
theorem dJ11_lowSurrogate_5068e_8 : decode cJ11_lowSurrogate_5068e 8 = .ok (.i2c, 1) := by decide +kernel
theorem dJ11_lowSurrogate_5068e_9 : decode cJ11_lowSurrogate_5068e 9 = .ok (.ireturn, 1) := by decide +kernel
theorem dJ6_bitCount_0f7a4_0 : decode cJ6_bitCount_0f7a4 0 = .ok (.iload_n 0, 1) := by decide +kernel
theorem dJ6_bitCount_0f7a4_1 : decode cJ6_bitCount_0f7a4 1 = .ok (.iload_n 0, 1) := by decide +kernel
theorem dJ6_bitCount_0f7a4_2 : decode cJ6_bitCount_0f7a4 2 = .ok (.iconst 1, 1) := by decide +kernel
theorem dJ6_bitCount_0f7a4_3 : decode cJ6_bitCount_0f7a4 3 = .ok (.iushr, 1) := by decide +kernel
theorem dJ6_bitCount_0f7a4_4 : decode cJ6_bitCount_0f7a4 4 = .ok (.ldc_w 265, 3) := by decide +kernel
theorem dJ6_bitCount_0f7a4_7 : decode cJ6_bitCount_0f7a4 7 = .ok (.iand, 1) := by decide +kernel
theorem dJ6_bitCount_0f7a4_8 : decode cJ6_bitCount_0f7a4 8 = .ok (.isub, 1) := by decide +kernel
theorem dJ6_bitCount_0f7a4_9 : decode cJ6_bitCount_0f7a4 9 = .ok (.istore_n 0, 1) := by decide +kernel
theorem dJ6_bitCount_0f7a4_10 : decode cJ6_bitCount_0f7a4 10 = .ok (.iload_n 0, 1) := by decide +kernel
theorem dJ6_bitCount_0f7a4_11 : decode cJ6_bitCount_0f7a4 11 = .ok (.ldc_w 266, 3) := by decide +kernel
theorem dJ6_bitCount_0f7a4_14 : decode cJ6_bitCount_0f7a4 14 = .ok (.iand, 1) := by decide +kernel
theorem dJ6_bitCount_0f7a4_15 : decode cJ6_bitCount_0f7a4 15 = .ok (.iload_n 0, 1) := by decide +kernel
theorem dJ6_bitCount_0f7a4_16 : decode cJ6_bitCount_0f7a4 16 = .ok (.iconst 2, 1) := by decide +kernel
theorem dJ6_bitCount_0f7a4_17 : decode cJ6_bitCount_0f7a4 17 = .ok (.iushr, 1) := by decide +kernel
theorem dJ6_bitCount_0f7a4_18 : decode cJ6_bitCount_0f7a4 18 = .ok (.ldc_w 266, 3) := by decide +kernel
theorem dJ6_bitCount_0f7a4_21 : decode cJ6_bitCount_0f7a4 21 = .ok (.iand, 1) := by decide +kernel
theorem dJ6_bitCount_0f7a4_22 : decode cJ6_bitCount_0f7a4 22 = .ok (.iadd, 1) := by decide +kernel
theorem dJ6_bitCount_0f7a4_23 : decode cJ6_bitCount_0f7a4 23 = .ok (.istore_n 0, 1) := by decide +kernel
theorem dJ6_bitCount_0f7a4_24 : decode cJ6_bitCount_0f7a4 24 = .ok (.iload_n 0, 1) := by decide +kernel
theorem dJ6_bitCount_0f7a4_25 : decode cJ6_bitCount_0f7a4 25 = .ok (.iload_n 0, 1) := by decide +kernel
theorem dJ6_bitCount_0f7a4_26 : decode cJ6_bitCount_0f7a4 26 = .ok (.iconst 4, 1) := by decide +kernel
theorem dJ6_bitCount_0f7a4_27 : decode cJ6_bitCount_0f7a4 27 = .ok (.iushr, 1) := by decide +kernel
theorem dJ6_bitCount_0f7a4_28 : decode cJ6_bitCount_0f7a4 28 = .ok (.iadd, 1) := by decide +kernel
theorem dJ6_bitCount_0f7a4_29 : decode cJ6_bitCount_0f7a4 29 = .ok (.ldc_w 267, 3) := by decide +kernel
theorem dJ6_bitCount_0f7a4_32 : decode cJ6_bitCount_0f7a4 32 = .ok (.iand, 1) := by decide +kernel
theorem dJ6_bitCount_0f7a4_33 : decode cJ6_bitCount_0f7a4 33 = .ok (.istore_n 0, 1) := by decide +kernel
theorem dJ6_bitCount_0f7a4_34 : decode cJ6_bitCount_0f7a4 34 = .ok (.iload_n 0, 1) := by decide +kernel
theorem dJ6_bitCount_0f7a4_35 : decode cJ6_bitCount_0f7a4 35 = .ok (.iload_n 0, 1) := by decide +kernel
theorem dJ6_bitCount_0f7a4_36 : decode cJ6_bitCount_0f7a4 36 = .ok (.bipush 8, 2) := by decide +kernel
theorem dJ6_bitCount_0f7a4_38 : decode cJ6_bitCount_0f7a4 38 = .ok (.iushr, 1) := by decide +kernel
theorem dJ6_bitCount_0f7a4_39 : decode cJ6_bitCount_0f7a4 39 = .ok (.iadd, 1) := by decide +kernel
theorem dJ6_bitCount_0f7a4_40 : decode cJ6_bitCount_0f7a4 40 = .ok (.istore_n 0, 1) := by decide +kernel
theorem dJ6_bitCount_0f7a4_41 : decode cJ6_bitCount_0f7a4 41 = .ok (.iload_n 0, 1) := by decide +kernel
theorem dJ6_bitCount_0f7a4_42 : decode cJ6_bitCount_0f7a4 42 = .ok (.iload_n 0, 1) := by decide +kernel
theorem dJ6_bitCount_0f7a4_43 : decode cJ6_bitCount_0f7a4 43 = .ok (.bipush 16, 2) := by decide +kernel
theorem dJ6_bitCount_0f7a4_45 : decode cJ6_bitCount_0f7a4 45 = .ok (.iushr, 1) := by decide +kernel
theorem dJ6_bitCount_0f7a4_46 : decode cJ6_bitCount_0f7a4 46 = .ok (.iadd, 1) := by decide +kernel
theorem dJ6_bitCount_0f7a4_47 : decode cJ6_bitCount_0f7a4 47 = .ok (.istore_n 0, 1) := by decide +kernel
theorem dJ6_bitCount_0f7a4_48 : decode cJ6_bitCount_0f7a4 48 = .ok (.iload_n 0, 1) := by decide +kernel
theorem dJ6_bitCount_0f7a4_49 : decode cJ6_bitCount_0f7a4 49 = .ok (.bipush 63, 2) := by decide +kernel
theorem dJ6_bitCount_0f7a4_51 : decode cJ6_bitCount_0f7a4 51 = .ok (.iand, 1) := by decide +kernel
theorem dJ6_bitCount_0f7a4_52 : decode cJ6_bitCount_0f7a4 52 = .ok (.ireturn, 1) := by decide +kernel
theorem dJ9_max_7cf53_0 : decode cJ9_max_7cf53 0 = .ok (.iload_n 0, 1) := by decide +kernel
theorem dJ9_max_7cf53_1 : decode cJ9_max_7cf53 1 = .ok (.iload_n 1, 1) := by decide +kernel
theorem dJ9_max_7cf53_2 : decode cJ9_max_7cf53 2 = .ok (.if_icmp .lt 7, 3) := by decide +kernel
theorem dJ9_max_7cf53_5 : decode cJ9_max_7cf53 5 = .ok (.iload_n 0, 1) := by decide +kernel
theorem dJ9_max_7cf53_6 : decode cJ9_max_7cf53 6 = .ok (.goto 4, 3) := by decide +kernel
theorem dJ9_max_7cf53_9 : decode cJ9_max_7cf53 9 = .ok (.iload_n 1, 1) := by decide +kernel
theorem dJ9_max_7cf53_10 : decode cJ9_max_7cf53 10 = .ok (.ireturn, 1) := by decide +kernel
theorem dJ9_min_7cf53_0 : decode cJ9_min_7cf53 0 = .ok (.iload_n 0, 1) := by decide +kernel
theorem dJ9_min_7cf53_1 : decode cJ9_min_7cf53 1 = .ok (.iload_n 1, 1) := by decide +kernel
theorem dJ9_min_7cf53_2 : decode cJ9_min_7cf53 2 = .ok (.if_icmp .gt 7, 3) := by decide +kernel
theorem dJ9_min_7cf53_5 : decode cJ9_min_7cf53 5 = .ok (.iload_n 0, 1) := by decide +kernel
theorem dJ9_min_7cf53_6 : decode cJ9_min_7cf53 6 = .ok (.goto 4, 3) := by decide +kernel
theorem dJ9_min_7cf53_9 : decode cJ9_min_7cf53 9 = .ok (.iload_n 1, 1) := by decide +kernel
theorem dJ9_min_7cf53_10 : decode cJ9_min_7cf53 10 = .ok (.ireturn, 1) := by decide +kernel
theorem dJ0_length_8abf5_0 : decode cJ0_length_8abf5 0 = .ok (.aload_n 0, 1) := by decide +kernel
theorem dJ0_length_8abf5_1 : decode cJ0_length_8abf5 1 = .ok (.getfield 9, 3) := by decide +kernel
theorem dJ0_length_8abf5_4 : decode cJ0_length_8abf5 4 = .ok (.arraylength, 1) := by decide +kernel
theorem dJ0_length_8abf5_5 : decode cJ0_length_8abf5 5 = .ok (.aload_n 0, 1) := by decide +kernel
theorem dJ0_length_8abf5_6 : decode cJ0_length_8abf5 6 = .ok (.invokevirtual 335, 3) := by decide +kernel
theorem dJ0_length_8abf5_9 : decode cJ0_length_8abf5 9 = .ok (.ishr, 1) := by decide +kernel
theorem dJ0_length_8abf5_10 : decode cJ0_length_8abf5 10 = .ok (.ireturn, 1) := by decide +kernel
theorem dJ0_indexOf_0f7a4_0 : decode cJ0_indexOf_0f7a4 0 = .ok (.aload_n 0, 1) := by decide +kernel
theorem dJ0_indexOf_0f7a4_1 : decode cJ0_indexOf_0f7a4 1 = .ok (.iload_n 1, 1) := by decide +kernel
theorem dJ0_indexOf_0f7a4_2 : decode cJ0_indexOf_0f7a4 2 = .ok (.iconst 0, 1) := by decide +kernel
theorem dJ0_indexOf_0f7a4_3 : decode cJ0_indexOf_0f7a4 3 = .ok (.invokevirtual 633, 3) := by decide +kernel
theorem dJ0_indexOf_0f7a4_6 : decode cJ0_indexOf_0f7a4 6 = .ok (.ireturn, 1) := by decide +kernel
theorem dJ0_indexOf_7cf53_0 : decode cJ0_indexOf_7cf53 0 = .ok (.aload_n 0, 1) := by decide +kernel
theorem dJ0_indexOf_7cf53_1 : decode cJ0_indexOf_7cf53 1 = .ok (.invokevirtual 492, 3) := by decide +kernel
theorem dJ0_indexOf_7cf53_4 : decode cJ0_indexOf_7cf53 4 = .ok (.ifCond .eq 19, 3) := by decide +kernel
theorem dJ0_indexOf_7cf53_7 : decode cJ0_indexOf_7cf53 7 = .ok (.aload_n 0, 1) := by decide +kernel
theorem dJ0_indexOf_7cf53_8 : decode cJ0_indexOf_7cf53 8 = .ok (.getfield 9, 3) := by decide +kernel
theorem dJ0_indexOf_7cf53_11 : decode cJ0_indexOf_7cf53 11 = .ok (.iload_n 1, 1) := by decide +kernel
theorem dJ0_indexOf_7cf53_12 : decode cJ0_indexOf_7cf53 12 = .ok (.iload_n 2, 1) := by decide +kernel
theorem dJ0_indexOf_7cf53_13 : decode cJ0_indexOf_7cf53 13 = .ok (.aload_n 0, 1) := by decide +kernel
theorem dJ0_indexOf_7cf53_14 : decode cJ0_indexOf_7cf53 14 = .ok (.invokevirtual 505, 3) := by decide +kernel
theorem dJ0_indexOf_7cf53_17 : decode cJ0_indexOf_7cf53 17 = .ok (.invokestatic 637, 3) := by decide +kernel
theorem dJ0_indexOf_7cf53_20 : decode cJ0_indexOf_7cf53 20 = .ok (.goto 16, 3) := by decide +kernel
theorem dJ0_indexOf_7cf53_23 : decode cJ0_indexOf_7cf53 23 = .ok (.aload_n 0, 1) := by decide +kernel
theorem dJ0_indexOf_7cf53_24 : decode cJ0_indexOf_7cf53 24 = .ok (.getfield 9, 3) := by decide +kernel
theorem dJ0_indexOf_7cf53_27 : decode cJ0_indexOf_7cf53 27 = .ok (.iload_n 1, 1) := by decide +kernel
theorem dJ0_indexOf_7cf53_28 : decode cJ0_indexOf_7cf53 28 = .ok (.iload_n 2, 1) := by decide +kernel
theorem dJ0_indexOf_7cf53_29 : decode cJ0_indexOf_7cf53 29 = .ok (.aload_n 0, 1) := by decide +kernel
theorem dJ0_indexOf_7cf53_30 : decode cJ0_indexOf_7cf53 30 = .ok (.invokevirtual 505, 3) := by decide +kernel
theorem dJ0_indexOf_7cf53_33 : decode cJ0_indexOf_7cf53 33 = .ok (.invokestatic 640, 3) := by decide +kernel
theorem dJ0_indexOf_7cf53_36 : decode cJ0_indexOf_7cf53 36 = .ok (.ireturn, 1) := by decide +kernel
theorem dJ0_coder_7d493_0 : decode cJ0_coder_7d493 0 = .ok (.getstatic 38, 3) := by decide +kernel
theorem dJ0_coder_7d493_3 : decode cJ0_coder_7d493 3 = .ok (.ifCond .eq 10, 3) := by decide +kernel
theorem dJ0_coder_7d493_6 : decode cJ0_coder_7d493 6 = .ok (.aload_n 0, 1) := by decide +kernel
theorem dJ0_coder_7d493_7 : decode cJ0_coder_7d493 7 = .ok (.getfield 15, 3) := by decide +kernel
theorem dJ0_coder_7d493_10 : decode cJ0_coder_7d493 10 = .ok (.goto 4, 3) := by decide +kernel
theorem dJ0_coder_7d493_13 : decode cJ0_coder_7d493 13 = .ok (.iconst 1, 1) := by decide +kernel
theorem dJ0_coder_7d493_14 : decode cJ0_coder_7d493 14 = .ok (.ireturn, 1) := by decide +kernel
theorem dJ0_isLatin1_aae02_0 : decode cJ0_isLatin1_aae02 0 = .ok (.getstatic 38, 3) := by decide +kernel
theorem dJ0_isLatin1_aae02_3 : decode cJ0_isLatin1_aae02 3 = .ok (.ifCond .eq 14, 3) := by decide +kernel
theorem dJ0_isLatin1_aae02_6 : decode cJ0_isLatin1_aae02 6 = .ok (.aload_n 0, 1) := by decide +kernel
theorem dJ0_isLatin1_aae02_7 : decode cJ0_isLatin1_aae02 7 = .ok (.getfield 15, 3) := by decide +kernel
theorem dJ0_isLatin1_aae02_10 : decode cJ0_isLatin1_aae02 10 = .ok (.ifCond .ne 7, 3) := by decide +kernel
theorem dJ0_isLatin1_aae02_13 : decode cJ0_isLatin1_aae02 13 = .ok (.iconst 1, 1) := by decide +kernel
theorem dJ0_isLatin1_aae02_14 : decode cJ0_isLatin1_aae02 14 = .ok (.goto 4, 3) := by decide +kernel
theorem dJ0_isLatin1_aae02_17 : decode cJ0_isLatin1_aae02 17 = .ok (.iconst 0, 1) := by decide +kernel
theorem dJ0_isLatin1_aae02_18 : decode cJ0_isLatin1_aae02 18 = .ok (.ireturn, 1) := by decide +kernel
theorem dJ0_checkBoundsBeginEnd_23922_0 : decode cJ0_checkBoundsBeginEnd_23922 0 = .ok (.iload_n 0, 1) := by decide +kernel
theorem dJ0_checkBoundsBeginEnd_23922_1 : decode cJ0_checkBoundsBeginEnd_23922 1 = .ok (.iload_n 1, 1) := by decide +kernel
theorem dJ0_checkBoundsBeginEnd_23922_2 : decode cJ0_checkBoundsBeginEnd_23922 2 = .ok (.iload_n 2, 1) := by decide +kernel
theorem dJ0_checkBoundsBeginEnd_23922_3 : decode cJ0_checkBoundsBeginEnd_23922 3 = .ok (.getstatic 1053, 3) := by decide +kernel
theorem dJ0_checkBoundsBeginEnd_23922_6 : decode cJ0_checkBoundsBeginEnd_23922 6 = .ok (.invokestatic 1062, 3) := by decide +kernel
theorem dJ0_checkBoundsBeginEnd_23922_9 : decode cJ0_checkBoundsBeginEnd_23922 9 = .ok (.pop, 1) := by decide +kernel
theorem dJ0_checkBoundsBeginEnd_23922_10 : decode cJ0_checkBoundsBeginEnd_23922 10 = .ok (.return_, 1) := by decide +kernel
theorem dJ1_canEncode_9a6ad_0 : decode cJ1_canEncode_9a6ad 0 = .ok (.iload_n 0, 1) := by decide +kernel
theorem dJ1_canEncode_9a6ad_1 : decode cJ1_canEncode_9a6ad 1 = .ok (.ifCond .lt 14, 3) := by decide +kernel
theorem dJ1_canEncode_9a6ad_4 : decode cJ1_canEncode_9a6ad 4 = .ok (.iload_n 0, 1) := by decide +kernel
theorem dJ1_canEncode_9a6ad_5 : decode cJ1_canEncode_9a6ad 5 = .ok (.sipush 255, 3) := by decide +kernel
theorem dJ1_canEncode_9a6ad_8 : decode cJ1_canEncode_9a6ad 8 = .ok (.if_icmp .gt 7, 3) := by decide +kernel
theorem dJ1_canEncode_9a6ad_11 : decode cJ1_canEncode_9a6ad 11 = .ok (.iconst 1, 1) := by decide +kernel
theorem dJ1_canEncode_9a6ad_12 : decode cJ1_canEncode_9a6ad 12 = .ok (.goto 4, 3) := by decide +kernel
theorem dJ1_canEncode_9a6ad_15 : decode cJ1_canEncode_9a6ad 15 = .ok (.iconst 0, 1) := by decide +kernel
theorem dJ1_canEncode_9a6ad_16 : decode cJ1_canEncode_9a6ad 16 = .ok (.ireturn, 1) := by decide +kernel
theorem dJ1_indexOf_4cfef_0 : decode cJ1_indexOf_4cfef 0 = .ok (.iload_n 1, 1) := by decide +kernel
theorem dJ1_indexOf_4cfef_1 : decode cJ1_indexOf_4cfef 1 = .ok (.invokestatic 88, 3) := by decide +kernel
theorem dJ1_indexOf_4cfef_4 : decode cJ1_indexOf_4cfef 4 = .ok (.ifCond .ne 5, 3) := by decide +kernel
theorem dJ1_indexOf_4cfef_7 : decode cJ1_indexOf_4cfef 7 = .ok (.iconst (-1), 1) := by decide +kernel
theorem dJ1_indexOf_4cfef_8 : decode cJ1_indexOf_4cfef 8 = .ok (.ireturn, 1) := by decide +kernel
theorem dJ1_indexOf_4cfef_9 : decode cJ1_indexOf_4cfef 9 = .ok (.iload_n 2, 1) := by decide +kernel
theorem dJ1_indexOf_4cfef_10 : decode cJ1_indexOf_4cfef 10 = .ok (.iconst 0, 1) := by decide +kernel
theorem dJ1_indexOf_4cfef_11 : decode cJ1_indexOf_4cfef 11 = .ok (.invokestatic 92, 3) := by decide +kernel
theorem dJ1_indexOf_4cfef_14 : decode cJ1_indexOf_4cfef 14 = .ok (.istore_n 2, 1) := by decide +kernel
theorem dJ1_indexOf_4cfef_15 : decode cJ1_indexOf_4cfef 15 = .ok (.iload_n 3, 1) := by decide +kernel
theorem dJ1_indexOf_4cfef_16 : decode cJ1_indexOf_4cfef 16 = .ok (.aload_n 0, 1) := by decide +kernel
theorem dJ1_indexOf_4cfef_17 : decode cJ1_indexOf_4cfef 17 = .ok (.arraylength, 1) := by decide +kernel
theorem dJ1_indexOf_4cfef_18 : decode cJ1_indexOf_4cfef 18 = .ok (.invokestatic 38, 3) := by decide +kernel
theorem dJ1_indexOf_4cfef_21 : decode cJ1_indexOf_4cfef 21 = .ok (.istore_n 3, 1) := by decide +kernel
theorem dJ1_indexOf_4cfef_22 : decode cJ1_indexOf_4cfef 22 = .ok (.iload_n 2, 1) := by decide +kernel
theorem dJ1_indexOf_4cfef_23 : decode cJ1_indexOf_4cfef 23 = .ok (.iload_n 3, 1) := by decide +kernel
theorem dJ1_indexOf_4cfef_24 : decode cJ1_indexOf_4cfef 24 = .ok (.if_icmp .lt 5, 3) := by decide +kernel
theorem dJ1_indexOf_4cfef_27 : decode cJ1_indexOf_4cfef 27 = .ok (.iconst (-1), 1) := by decide +kernel
theorem dJ1_indexOf_4cfef_28 : decode cJ1_indexOf_4cfef 28 = .ok (.ireturn, 1) := by decide +kernel
theorem dJ1_indexOf_4cfef_29 : decode cJ1_indexOf_4cfef 29 = .ok (.aload_n 0, 1) := by decide +kernel
theorem dJ1_indexOf_4cfef_30 : decode cJ1_indexOf_4cfef 30 = .ok (.iload_n 1, 1) := by decide +kernel
theorem dJ1_indexOf_4cfef_31 : decode cJ1_indexOf_4cfef 31 = .ok (.iload_n 2, 1) := by decide +kernel
theorem dJ1_indexOf_4cfef_32 : decode cJ1_indexOf_4cfef 32 = .ok (.iload_n 3, 1) := by decide +kernel
theorem dJ1_indexOf_4cfef_33 : decode cJ1_indexOf_4cfef 33 = .ok (.invokestatic 95, 3) := by decide +kernel
theorem dJ1_indexOf_4cfef_36 : decode cJ1_indexOf_4cfef 36 = .ok (.ireturn, 1) := by decide +kernel
theorem dJ1_indexOfChar_4cfef_0 : decode cJ1_indexOfChar_4cfef 0 = .ok (.iload_n 1, 1) := by decide +kernel
theorem dJ1_indexOfChar_4cfef_1 : decode cJ1_indexOfChar_4cfef 1 = .ok (.i2b, 1) := by decide +kernel
theorem dJ1_indexOfChar_4cfef_2 : decode cJ1_indexOfChar_4cfef 2 = .ok (.istore 4, 2) := by decide +kernel
theorem dJ1_indexOfChar_4cfef_4 : decode cJ1_indexOfChar_4cfef 4 = .ok (.iload_n 2, 1) := by decide +kernel
theorem dJ1_indexOfChar_4cfef_5 : decode cJ1_indexOfChar_4cfef 5 = .ok (.istore 5, 2) := by decide +kernel
theorem dJ1_indexOfChar_4cfef_7 : decode cJ1_indexOfChar_4cfef 7 = .ok (.iload 5, 2) := by decide +kernel
theorem dJ1_indexOfChar_4cfef_9 : decode cJ1_indexOfChar_4cfef 9 = .ok (.iload_n 3, 1) := by decide +kernel
theorem dJ1_indexOfChar_4cfef_10 : decode cJ1_indexOfChar_4cfef 10 = .ok (.if_icmp .ge 21, 3) := by decide +kernel
theorem dJ1_indexOfChar_4cfef_13 : decode cJ1_indexOfChar_4cfef 13 = .ok (.aload_n 0, 1) := by decide +kernel
theorem dJ1_indexOfChar_4cfef_14 : decode cJ1_indexOfChar_4cfef 14 = .ok (.iload 5, 2) := by decide +kernel
theorem dJ1_indexOfChar_4cfef_16 : decode cJ1_indexOfChar_4cfef 16 = .ok (.baload, 1) := by decide +kernel
theorem dJ1_indexOfChar_4cfef_17 : decode cJ1_indexOfChar_4cfef 17 = .ok (.iload 4, 2) := by decide +kernel
theorem dJ1_indexOfChar_4cfef_19 : decode cJ1_indexOfChar_4cfef 19 = .ok (.if_icmp .ne 6, 3) := by decide +kernel
theorem dJ1_indexOfChar_4cfef_22 : decode cJ1_indexOfChar_4cfef 22 = .ok (.iload 5, 2) := by decide +kernel
theorem dJ1_indexOfChar_4cfef_24 : decode cJ1_indexOfChar_4cfef 24 = .ok (.ireturn, 1) := by decide +kernel
theorem dJ1_indexOfChar_4cfef_25 : decode cJ1_indexOfChar_4cfef 25 = .ok (.iinc 5 1, 3) := by decide +kernel
theorem dJ1_indexOfChar_4cfef_28 : decode cJ1_indexOfChar_4cfef 28 = .ok (.goto (-21), 3) := by decide +kernel
theorem dJ1_indexOfChar_4cfef_31 : decode cJ1_indexOfChar_4cfef 31 = .ok (.iconst (-1), 1) := by decide +kernel
theorem dJ1_indexOfChar_4cfef_32 : decode cJ1_indexOfChar_4cfef 32 = .ok (.ireturn, 1) := by decide +kernel
theorem dJ2_getChar_3b067_0 : decode cJ2_getChar_3b067 0 = .ok (.getstatic 44, 3) := by decide +kernel
theorem dJ2_getChar_3b067_3 : decode cJ2_getChar_3b067 3 = .ok (.ifCond .ne 25, 3) := by decide +kernel
theorem dJ2_getChar_3b067_6 : decode cJ2_getChar_3b067 6 = .ok (.iload_n 1, 1) := by decide +kernel
theorem dJ2_getChar_3b067_7 : decode cJ2_getChar_3b067 7 = .ok (.ifCond .lt 11, 3) := by decide +kernel
theorem dJ2_getChar_3b067_10 : decode cJ2_getChar_3b067 10 = .ok (.iload_n 1, 1) := by decide +kernel
theorem dJ2_getChar_3b067_11 : decode cJ2_getChar_3b067 11 = .ok (.aload_n 0, 1) := by decide +kernel
theorem dJ2_getChar_3b067_12 : decode cJ2_getChar_3b067 12 = .ok (.invokestatic 48, 3) := by decide +kernel
theorem dJ2_getChar_3b067_15 : decode cJ2_getChar_3b067 15 = .ok (.if_icmp .lt 13, 3) := by decide +kernel
theorem dJ2_getChar_3b067_18 : decode cJ2_getChar_3b067 18 = .ok (.new 52, 3) := by decide +kernel
theorem dJ2_getChar_3b067_21 : decode cJ2_getChar_3b067 21 = .ok (.dup, 1) := by decide +kernel
theorem dJ2_getChar_3b067_22 : decode cJ2_getChar_3b067 22 = .ok (.ldc 54, 2) := by decide +kernel
theorem dJ2_getChar_3b067_24 : decode cJ2_getChar_3b067 24 = .ok (.invokespecial 56, 3) := by decide +kernel
theorem dJ2_getChar_3b067_27 : decode cJ2_getChar_3b067 27 = .ok (.athrow, 1) := by decide +kernel
theorem dJ2_getChar_3b067_28 : decode cJ2_getChar_3b067 28 = .ok (.iload_n 1, 1) := by decide +kernel
theorem dJ2_getChar_3b067_29 : decode cJ2_getChar_3b067 29 = .ok (.iconst 1, 1) := by decide +kernel
theorem dJ2_getChar_3b067_30 : decode cJ2_getChar_3b067 30 = .ok (.ishl, 1) := by decide +kernel
theorem dJ2_getChar_3b067_31 : decode cJ2_getChar_3b067 31 = .ok (.istore_n 1, 1) := by decide +kernel
theorem dJ2_getChar_3b067_32 : decode cJ2_getChar_3b067 32 = .ok (.aload_n 0, 1) := by decide +kernel
theorem dJ2_getChar_3b067_33 : decode cJ2_getChar_3b067 33 = .ok (.iload_n 1, 1) := by decide +kernel
theorem dJ2_getChar_3b067_34 : decode cJ2_getChar_3b067 34 = .ok (.iinc 1 1, 3) := by decide +kernel
theorem dJ2_getChar_3b067_37 : decode cJ2_getChar_3b067 37 = .ok (.baload, 1) := by decide +kernel
theorem dJ2_getChar_3b067_38 : decode cJ2_getChar_3b067 38 = .ok (.sipush 255, 3) := by decide +kernel
theorem dJ2_getChar_3b067_41 : decode cJ2_getChar_3b067 41 = .ok (.iand, 1) := by decide +kernel
theorem dJ2_getChar_3b067_42 : decode cJ2_getChar_3b067 42 = .ok (.getstatic 59, 3) := by decide +kernel
theorem dJ2_getChar_3b067_45 : decode cJ2_getChar_3b067 45 = .ok (.ishl, 1) := by decide +kernel
theorem dJ2_getChar_3b067_46 : decode cJ2_getChar_3b067 46 = .ok (.aload_n 0, 1) := by decide +kernel
theorem dJ2_getChar_3b067_47 : decode cJ2_getChar_3b067 47 = .ok (.iload_n 1, 1) := by decide +kernel
theorem dJ2_getChar_3b067_48 : decode cJ2_getChar_3b067 48 = .ok (.baload, 1) := by decide +kernel
theorem dJ2_getChar_3b067_49 : decode cJ2_getChar_3b067 49 = .ok (.sipush 255, 3) := by decide +kernel
theorem dJ2_getChar_3b067_52 : decode cJ2_getChar_3b067 52 = .ok (.iand, 1) := by decide +kernel
theorem dJ2_getChar_3b067_53 : decode cJ2_getChar_3b067 53 = .ok (.getstatic 63, 3) := by decide +kernel
theorem dJ2_getChar_3b067_56 : decode cJ2_getChar_3b067 56 = .ok (.ishl, 1) := by decide +kernel
theorem dJ2_getChar_3b067_57 : decode cJ2_getChar_3b067 57 = .ok (.ior, 1) := by decide +kernel
theorem dJ2_getChar_3b067_58 : decode cJ2_getChar_3b067 58 = .ok (.i2c, 1) := by decide +kernel
theorem dJ2_getChar_3b067_59 : decode cJ2_getChar_3b067 59 = .ok (.ireturn, 1) := by decide +kernel
theorem dJ2_length_9d52b_0 : decode cJ2_length_9d52b 0 = .ok (.aload_n 0, 1) := by decide +kernel
theorem dJ2_length_9d52b_1 : decode cJ2_length_9d52b 1 = .ok (.arraylength, 1) := by decide +kernel
theorem dJ2_length_9d52b_2 : decode cJ2_length_9d52b 2 = .ok (.iconst 1, 1) := by decide +kernel
theorem dJ2_length_9d52b_3 : decode cJ2_length_9d52b 3 = .ok (.ishr, 1) := by decide +kernel
theorem dJ2_length_9d52b_4 : decode cJ2_length_9d52b 4 = .ok (.ireturn, 1) := by decide +kernel
theorem dJ2_indexOf_4cfef_0 : decode cJ2_indexOf_4cfef 0 = .ok (.iload_n 2, 1) := by decide +kernel
theorem dJ2_indexOf_4cfef_1 : decode cJ2_indexOf_4cfef 1 = .ok (.iconst 0, 1) := by decide +kernel
theorem dJ2_indexOf_4cfef_2 : decode cJ2_indexOf_4cfef 2 = .ok (.invokestatic 224, 3) := by decide +kernel
theorem dJ2_indexOf_4cfef_5 : decode cJ2_indexOf_4cfef 5 = .ok (.istore_n 2, 1) := by decide +kernel
theorem dJ2_indexOf_4cfef_6 : decode cJ2_indexOf_4cfef 6 = .ok (.iload_n 3, 1) := by decide +kernel
theorem dJ2_indexOf_4cfef_7 : decode cJ2_indexOf_4cfef 7 = .ok (.aload_n 0, 1) := by decide +kernel
theorem dJ2_indexOf_4cfef_8 : decode cJ2_indexOf_4cfef 8 = .ok (.arraylength, 1) := by decide +kernel
theorem dJ2_indexOf_4cfef_9 : decode cJ2_indexOf_4cfef 9 = .ok (.iconst 1, 1) := by decide +kernel
theorem dJ2_indexOf_4cfef_10 : decode cJ2_indexOf_4cfef 10 = .ok (.ishr, 1) := by decide +kernel
theorem dJ2_indexOf_4cfef_11 : decode cJ2_indexOf_4cfef 11 = .ok (.invokestatic 183, 3) := by decide +kernel
theorem dJ2_indexOf_4cfef_14 : decode cJ2_indexOf_4cfef 14 = .ok (.istore_n 3, 1) := by decide +kernel
theorem dJ2_indexOf_4cfef_15 : decode cJ2_indexOf_4cfef 15 = .ok (.iload_n 2, 1) := by decide +kernel
theorem dJ2_indexOf_4cfef_16 : decode cJ2_indexOf_4cfef 16 = .ok (.iload_n 3, 1) := by decide +kernel
theorem dJ2_indexOf_4cfef_17 : decode cJ2_indexOf_4cfef 17 = .ok (.if_icmp .lt 5, 3) := by decide +kernel
theorem dJ2_indexOf_4cfef_20 : decode cJ2_indexOf_4cfef 20 = .ok (.iconst (-1), 1) := by decide +kernel
theorem dJ2_indexOf_4cfef_21 : decode cJ2_indexOf_4cfef 21 = .ok (.ireturn, 1) := by decide +kernel
theorem dJ2_indexOf_4cfef_22 : decode cJ2_indexOf_4cfef 22 = .ok (.iload_n 1, 1) := by decide +kernel
theorem dJ2_indexOf_4cfef_23 : decode cJ2_indexOf_4cfef 23 = .ok (.ldc 227, 2) := by decide +kernel
theorem dJ2_indexOf_4cfef_25 : decode cJ2_indexOf_4cfef 25 = .ok (.if_icmp .ge 11, 3) := by decide +kernel
theorem dJ2_indexOf_4cfef_28 : decode cJ2_indexOf_4cfef 28 = .ok (.aload_n 0, 1) := by decide +kernel
theorem dJ2_indexOf_4cfef_29 : decode cJ2_indexOf_4cfef 29 = .ok (.iload_n 1, 1) := by decide +kernel
theorem dJ2_indexOf_4cfef_30 : decode cJ2_indexOf_4cfef 30 = .ok (.iload_n 2, 1) := by decide +kernel
theorem dJ2_indexOf_4cfef_31 : decode cJ2_indexOf_4cfef 31 = .ok (.iload_n 3, 1) := by decide +kernel
theorem dJ2_indexOf_4cfef_32 : decode cJ2_indexOf_4cfef 32 = .ok (.invokestatic 228, 3) := by decide +kernel
theorem dJ2_indexOf_4cfef_35 : decode cJ2_indexOf_4cfef 35 = .ok (.ireturn, 1) := by decide +kernel
theorem dJ2_indexOf_4cfef_36 : decode cJ2_indexOf_4cfef 36 = .ok (.aload_n 0, 1) := by decide +kernel
theorem dJ2_indexOf_4cfef_37 : decode cJ2_indexOf_4cfef 37 = .ok (.iload_n 1, 1) := by decide +kernel
theorem dJ2_indexOf_4cfef_38 : decode cJ2_indexOf_4cfef 38 = .ok (.iload_n 2, 1) := by decide +kernel
theorem dJ2_indexOf_4cfef_39 : decode cJ2_indexOf_4cfef 39 = .ok (.iload_n 3, 1) := by decide +kernel
theorem dJ2_indexOf_4cfef_40 : decode cJ2_indexOf_4cfef 40 = .ok (.invokestatic 232, 3) := by decide +kernel
theorem dJ2_indexOf_4cfef_43 : decode cJ2_indexOf_4cfef 43 = .ok (.ireturn, 1) := by decide +kernel
theorem dJ2_indexOfChar_4cfef_0 : decode cJ2_indexOfChar_4cfef 0 = .ok (.iload_n 2, 1) := by decide +kernel
theorem dJ2_indexOfChar_4cfef_1 : decode cJ2_indexOfChar_4cfef 1 = .ok (.iload_n 3, 1) := by decide +kernel
theorem dJ2_indexOfChar_4cfef_2 : decode cJ2_indexOfChar_4cfef 2 = .ok (.aload_n 0, 1) := by decide +kernel
theorem dJ2_indexOfChar_4cfef_3 : decode cJ2_indexOfChar_4cfef 3 = .ok (.invokestatic 96, 3) := by decide +kernel
theorem dJ2_indexOfChar_4cfef_6 : decode cJ2_indexOfChar_4cfef 6 = .ok (.aload_n 0, 1) := by decide +kernel
theorem dJ2_indexOfChar_4cfef_7 : decode cJ2_indexOfChar_4cfef 7 = .ok (.iload_n 1, 1) := by decide +kernel
theorem dJ2_indexOfChar_4cfef_8 : decode cJ2_indexOfChar_4cfef 8 = .ok (.iload_n 2, 1) := by decide +kernel
theorem dJ2_indexOfChar_4cfef_9 : decode cJ2_indexOfChar_4cfef 9 = .ok (.iload_n 3, 1) := by decide +kernel
theorem dJ2_indexOfChar_4cfef_10 : decode cJ2_indexOfChar_4cfef 10 = .ok (.invokestatic 244, 3) := by decide +kernel
theorem dJ2_indexOfChar_4cfef_13 : decode cJ2_indexOfChar_4cfef 13 = .ok (.ireturn, 1) := by decide +kernel
theorem dJ2_indexOfCharUnsafe_4cfef_0 : decode cJ2_indexOfCharUnsafe_4cfef 0 = .ok (.iload_n 2, 1) := by decide +kernel
theorem dJ2_indexOfCharUnsafe_4cfef_1 : decode cJ2_indexOfCharUnsafe_4cfef 1 = .ok (.istore 4, 2) := by decide +kernel
theorem dJ2_indexOfCharUnsafe_4cfef_3 : decode cJ2_indexOfCharUnsafe_4cfef 3 = .ok (.iload 4, 2) := by decide +kernel
theorem dJ2_indexOfCharUnsafe_4cfef_5 : decode cJ2_indexOfCharUnsafe_4cfef 5 = .ok (.iload_n 3, 1) := by decide +kernel
theorem dJ2_indexOfCharUnsafe_4cfef_6 : decode cJ2_indexOfCharUnsafe_4cfef 6 = .ok (.if_icmp .ge 22, 3) := by decide +kernel
theorem dJ2_indexOfCharUnsafe_4cfef_9 : decode cJ2_indexOfCharUnsafe_4cfef 9 = .ok (.aload_n 0, 1) := by decide +kernel
theorem dJ2_indexOfCharUnsafe_4cfef_10 : decode cJ2_indexOfCharUnsafe_4cfef 10 = .ok (.iload 4, 2) := by decide +kernel
theorem dJ2_indexOfCharUnsafe_4cfef_12 : decode cJ2_indexOfCharUnsafe_4cfef 12 = .ok (.invokestatic 71, 3) := by decide +kernel
theorem dJ2_indexOfCharUnsafe_4cfef_15 : decode cJ2_indexOfCharUnsafe_4cfef 15 = .ok (.iload_n 1, 1) := by decide +kernel
theorem dJ2_indexOfCharUnsafe_4cfef_16 : decode cJ2_indexOfCharUnsafe_4cfef 16 = .ok (.if_icmp .ne 6, 3) := by decide +kernel
theorem dJ2_indexOfCharUnsafe_4cfef_19 : decode cJ2_indexOfCharUnsafe_4cfef 19 = .ok (.iload 4, 2) := by decide +kernel
theorem dJ2_indexOfCharUnsafe_4cfef_21 : decode cJ2_indexOfCharUnsafe_4cfef 21 = .ok (.ireturn, 1) := by decide +kernel
theorem dJ2_indexOfCharUnsafe_4cfef_22 : decode cJ2_indexOfCharUnsafe_4cfef 22 = .ok (.iinc 4 1, 3) := by decide +kernel
theorem dJ2_indexOfCharUnsafe_4cfef_25 : decode cJ2_indexOfCharUnsafe_4cfef 25 = .ok (.goto (-22), 3) := by decide +kernel
theorem dJ2_indexOfCharUnsafe_4cfef_28 : decode cJ2_indexOfCharUnsafe_4cfef 28 = .ok (.iconst (-1), 1) := by decide +kernel
theorem dJ2_indexOfCharUnsafe_4cfef_29 : decode cJ2_indexOfCharUnsafe_4cfef 29 = .ok (.ireturn, 1) := by decide +kernel
theorem dJ2_indexOfSupplementary_4cfef_0 : decode cJ2_indexOfSupplementary_4cfef 0 = .ok (.iload_n 1, 1) := by decide +kernel
theorem dJ2_indexOfSupplementary_4cfef_1 : decode cJ2_indexOfSupplementary_4cfef 1 = .ok (.invokestatic 164, 3) := by decide +kernel
theorem dJ2_indexOfSupplementary_4cfef_4 : decode cJ2_indexOfSupplementary_4cfef 4 = .ok (.ifCond .eq 65, 3) := by decide +kernel
theorem dJ2_indexOfSupplementary_4cfef_7 : decode cJ2_indexOfSupplementary_4cfef 7 = .ok (.iload_n 1, 1) := by decide +kernel
theorem dJ2_indexOfSupplementary_4cfef_8 : decode cJ2_indexOfSupplementary_4cfef 8 = .ok (.invokestatic 157, 3) := by decide +kernel
theorem dJ2_indexOfSupplementary_4cfef_11 : decode cJ2_indexOfSupplementary_4cfef 11 = .ok (.istore 4, 2) := by decide +kernel
theorem dJ2_indexOfSupplementary_4cfef_13 : decode cJ2_indexOfSupplementary_4cfef 13 = .ok (.iload_n 1, 1) := by decide +kernel
theorem dJ2_indexOfSupplementary_4cfef_14 : decode cJ2_indexOfSupplementary_4cfef 14 = .ok (.invokestatic 161, 3) := by decide +kernel
theorem dJ2_indexOfSupplementary_4cfef_17 : decode cJ2_indexOfSupplementary_4cfef 17 = .ok (.istore 5, 2) := by decide +kernel
theorem dJ2_indexOfSupplementary_4cfef_19 : decode cJ2_indexOfSupplementary_4cfef 19 = .ok (.iload_n 2, 1) := by decide +kernel
theorem dJ2_indexOfSupplementary_4cfef_20 : decode cJ2_indexOfSupplementary_4cfef 20 = .ok (.iload_n 3, 1) := by decide +kernel
theorem dJ2_indexOfSupplementary_4cfef_21 : decode cJ2_indexOfSupplementary_4cfef 21 = .ok (.aload_n 0, 1) := by decide +kernel
theorem dJ2_indexOfSupplementary_4cfef_22 : decode cJ2_indexOfSupplementary_4cfef 22 = .ok (.invokestatic 96, 3) := by decide +kernel
theorem dJ2_indexOfSupplementary_4cfef_25 : decode cJ2_indexOfSupplementary_4cfef 25 = .ok (.iload_n 2, 1) := by decide +kernel
theorem dJ2_indexOfSupplementary_4cfef_26 : decode cJ2_indexOfSupplementary_4cfef 26 = .ok (.istore 6, 2) := by decide +kernel
theorem dJ2_indexOfSupplementary_4cfef_28 : decode cJ2_indexOfSupplementary_4cfef 28 = .ok (.iload 6, 2) := by decide +kernel
theorem dJ2_indexOfSupplementary_4cfef_30 : decode cJ2_indexOfSupplementary_4cfef 30 = .ok (.iload_n 3, 1) := by decide +kernel
theorem dJ2_indexOfSupplementary_4cfef_31 : decode cJ2_indexOfSupplementary_4cfef 31 = .ok (.iconst 1, 1) := by decide +kernel
theorem dJ2_indexOfSupplementary_4cfef_32 : decode cJ2_indexOfSupplementary_4cfef 32 = .ok (.isub, 1) := by decide +kernel
theorem dJ2_indexOfSupplementary_4cfef_33 : decode cJ2_indexOfSupplementary_4cfef 33 = .ok (.if_icmp .ge 36, 3) := by decide +kernel
theorem dJ2_indexOfSupplementary_4cfef_36 : decode cJ2_indexOfSupplementary_4cfef 36 = .ok (.aload_n 0, 1) := by decide +kernel
theorem dJ2_indexOfSupplementary_4cfef_37 : decode cJ2_indexOfSupplementary_4cfef 37 = .ok (.iload 6, 2) := by decide +kernel
theorem dJ2_indexOfSupplementary_4cfef_39 : decode cJ2_indexOfSupplementary_4cfef 39 = .ok (.invokestatic 71, 3) := by decide +kernel
theorem dJ2_indexOfSupplementary_4cfef_42 : decode cJ2_indexOfSupplementary_4cfef 42 = .ok (.iload 4, 2) := by decide +kernel
theorem dJ2_indexOfSupplementary_4cfef_44 : decode cJ2_indexOfSupplementary_4cfef 44 = .ok (.if_icmp .ne 19, 3) := by decide +kernel
theorem dJ2_indexOfSupplementary_4cfef_47 : decode cJ2_indexOfSupplementary_4cfef 47 = .ok (.aload_n 0, 1) := by decide +kernel
theorem dJ2_indexOfSupplementary_4cfef_48 : decode cJ2_indexOfSupplementary_4cfef 48 = .ok (.iload 6, 2) := by decide +kernel
theorem dJ2_indexOfSupplementary_4cfef_50 : decode cJ2_indexOfSupplementary_4cfef 50 = .ok (.iconst 1, 1) := by decide +kernel
theorem dJ2_indexOfSupplementary_4cfef_51 : decode cJ2_indexOfSupplementary_4cfef 51 = .ok (.iadd, 1) := by decide +kernel
theorem dJ2_indexOfSupplementary_4cfef_52 : decode cJ2_indexOfSupplementary_4cfef 52 = .ok (.invokestatic 71, 3) := by decide +kernel
theorem dJ2_indexOfSupplementary_4cfef_55 : decode cJ2_indexOfSupplementary_4cfef 55 = .ok (.iload 5, 2) := by decide +kernel
theorem dJ2_indexOfSupplementary_4cfef_57 : decode cJ2_indexOfSupplementary_4cfef 57 = .ok (.if_icmp .ne 6, 3) := by decide +kernel
theorem dJ2_indexOfSupplementary_4cfef_60 : decode cJ2_indexOfSupplementary_4cfef 60 = .ok (.iload 6, 2) := by decide +kernel
theorem dJ2_indexOfSupplementary_4cfef_62 : decode cJ2_indexOfSupplementary_4cfef 62 = .ok (.ireturn, 1) := by decide +kernel
theorem dJ2_indexOfSupplementary_4cfef_63 : decode cJ2_indexOfSupplementary_4cfef 63 = .ok (.iinc 6 1, 3) := by decide +kernel
theorem dJ2_indexOfSupplementary_4cfef_66 : decode cJ2_indexOfSupplementary_4cfef 66 = .ok (.goto (-38), 3) := by decide +kernel
theorem dJ2_indexOfSupplementary_4cfef_69 : decode cJ2_indexOfSupplementary_4cfef 69 = .ok (.iconst (-1), 1) := by decide +kernel
theorem dJ2_indexOfSupplementary_4cfef_70 : decode cJ2_indexOfSupplementary_4cfef 70 = .ok (.ireturn, 1) := by decide +kernel
theorem dJ2_checkBoundsBeginEnd_d044e_0 : decode cJ2_checkBoundsBeginEnd_d044e 0 = .ok (.iload_n 0, 1) := by decide +kernel
theorem dJ2_checkBoundsBeginEnd_d044e_1 : decode cJ2_checkBoundsBeginEnd_d044e 1 = .ok (.iload_n 1, 1) := by decide +kernel
theorem dJ2_checkBoundsBeginEnd_d044e_2 : decode cJ2_checkBoundsBeginEnd_d044e 2 = .ok (.aload_n 2, 1) := by decide +kernel
theorem dJ2_checkBoundsBeginEnd_d044e_3 : decode cJ2_checkBoundsBeginEnd_d044e 3 = .ok (.invokestatic 48, 3) := by decide +kernel
theorem dJ2_checkBoundsBeginEnd_d044e_6 : decode cJ2_checkBoundsBeginEnd_d044e 6 = .ok (.invokestatic 241, 3) := by decide +kernel
theorem dJ2_checkBoundsBeginEnd_d044e_9 : decode cJ2_checkBoundsBeginEnd_d044e 9 = .ok (.return_, 1) := by decide +kernel
theorem dJ3_checkFromToIndex_8c36e_0 : decode cJ3_checkFromToIndex_8c36e 0 = .ok (.iload_n 0, 1) := by decide +kernel
theorem dJ3_checkFromToIndex_8c36e_1 : decode cJ3_checkFromToIndex_8c36e 1 = .ok (.ifCond .lt 13, 3) := by decide +kernel
theorem dJ3_checkFromToIndex_8c36e_4 : decode cJ3_checkFromToIndex_8c36e 4 = .ok (.iload_n 0, 1) := by decide +kernel
theorem dJ3_checkFromToIndex_8c36e_5 : decode cJ3_checkFromToIndex_8c36e 5 = .ok (.iload_n 1, 1) := by decide +kernel
theorem dJ3_checkFromToIndex_8c36e_6 : decode cJ3_checkFromToIndex_8c36e 6 = .ok (.if_icmp .gt 8, 3) := by decide +kernel
theorem dJ3_checkFromToIndex_8c36e_9 : decode cJ3_checkFromToIndex_8c36e 9 = .ok (.iload_n 1, 1) := by decide +kernel
theorem dJ3_checkFromToIndex_8c36e_10 : decode cJ3_checkFromToIndex_8c36e 10 = .ok (.iload_n 2, 1) := by decide +kernel
theorem dJ3_checkFromToIndex_8c36e_11 : decode cJ3_checkFromToIndex_8c36e 11 = .ok (.if_icmp .le 11, 3) := by decide +kernel
theorem dJ3_checkFromToIndex_8c36e_14 : decode cJ3_checkFromToIndex_8c36e 14 = .ok (.aload_n 3, 1) := by decide +kernel
theorem dJ3_checkFromToIndex_8c36e_15 : decode cJ3_checkFromToIndex_8c36e 15 = .ok (.iload_n 0, 1) := by decide +kernel
theorem dJ3_checkFromToIndex_8c36e_16 : decode cJ3_checkFromToIndex_8c36e 16 = .ok (.iload_n 1, 1) := by decide +kernel
theorem dJ3_checkFromToIndex_8c36e_17 : decode cJ3_checkFromToIndex_8c36e 17 = .ok (.iload_n 2, 1) := by decide +kernel
theorem dJ3_checkFromToIndex_8c36e_18 : decode cJ3_checkFromToIndex_8c36e 18 = .ok (.invokestatic 99, 3) := by decide +kernel
theorem dJ3_checkFromToIndex_8c36e_21 : decode cJ3_checkFromToIndex_8c36e 21 = .ok (.athrow, 1) := by decide +kernel
theorem dJ3_checkFromToIndex_8c36e_22 : decode cJ3_checkFromToIndex_8c36e 22 = .ok (.iload_n 0, 1) := by decide +kernel
theorem dJ3_checkFromToIndex_8c36e_23 : decode cJ3_checkFromToIndex_8c36e 23 = .ok (.ireturn, 1) := by decide +kernel
theorem dL_law_0 : decode cL_law 0 = .ok (.new 7, 3) := by decide +kernel
theorem dL_law_3 : decode cL_law 3 = .ok (.dup, 1) := by decide +kernel
theorem dL_law_4 : decode cL_law 4 = .ok (.invokespecial 9, 3) := by decide +kernel
theorem dL_law_7 : decode cL_law 7 = .ok (.astore_n 1, 1) := by decide +kernel
theorem dL_law_8 : decode cL_law 8 = .ok (.new 10, 3) := by decide +kernel
theorem dL_law_11 : decode cL_law 11 = .ok (.dup, 1) := by decide +kernel
theorem dL_law_12 : decode cL_law 12 = .ok (.invokespecial 12, 3) := by decide +kernel
theorem dL_law_15 : decode cL_law 15 = .ok (.astore_n 2, 1) := by decide +kernel
theorem dL_law_16 : decode cL_law 16 = .ok (.iconst 0, 1) := by decide +kernel
theorem dL_law_17 : decode cL_law 17 = .ok (.istore_n 3, 1) := by decide +kernel
theorem dL_law_18 : decode cL_law 18 = .ok (.iload_n 3, 1) := by decide +kernel
theorem dL_law_19 : decode cL_law 19 = .ok (.aload_n 0, 1) := by decide +kernel
theorem dL_law_20 : decode cL_law 20 = .ok (.arraylength, 1) := by decide +kernel
theorem dL_law_21 : decode cL_law 21 = .ok (.bipush 6, 2) := by decide +kernel
theorem dL_law_23 : decode cL_law 23 = .ok (.isub, 1) := by decide +kernel
theorem dL_law_24 : decode cL_law 24 = .ok (.if_icmp .gt 1325, 3) := by decide +kernel
theorem dL_law_27 : decode cL_law 27 = .ok (.aload_n 0, 1) := by decide +kernel
theorem dL_law_28 : decode cL_law 28 = .ok (.iload_n 3, 1) := by decide +kernel
theorem dL_law_29 : decode cL_law 29 = .ok (.iaload, 1) := by decide +kernel
theorem dL_law_30 : decode cL_law 30 = .ok (.bipush 63, 2) := by decide +kernel
theorem dL_law_32 : decode cL_law 32 = .ok (.iand, 1) := by decide +kernel
theorem dL_law_33 : decode cL_law 33 = .ok (.tableswitch 1310 0 34 #[155, 188, 221, 254, 287, 320, 353, 386, 449, 472, 495, 548, 571, 594, 617, 640, 683, 716, 759, 812, 845, 898, 941, 984, 1007, 1050, 1093, 1156, 1179, 1202, 1215, 1228, 1251, 1264, 1287], 155) := by decide +kernel
theorem dL_law_188 : decode cL_law 188 = .ok (.aload_n 1, 1) := by decide +kernel
theorem dL_law_189 : decode cL_law 189 = .ok (.aload_n 0, 1) := by decide +kernel
theorem dL_law_190 : decode cL_law 190 = .ok (.iload_n 3, 1) := by decide +kernel
theorem dL_law_191 : decode cL_law 191 = .ok (.iconst 1, 1) := by decide +kernel
theorem dL_law_192 : decode cL_law 192 = .ok (.iadd, 1) := by decide +kernel
theorem dL_law_193 : decode cL_law 193 = .ok (.iaload, 1) := by decide +kernel
theorem dL_law_194 : decode cL_law 194 = .ok (.aload_n 0, 1) := by decide +kernel
theorem dL_law_195 : decode cL_law 195 = .ok (.iload_n 3, 1) := by decide +kernel
theorem dL_law_196 : decode cL_law 196 = .ok (.iconst 2, 1) := by decide +kernel
theorem dL_law_197 : decode cL_law 197 = .ok (.iadd, 1) := by decide +kernel
theorem dL_law_198 : decode cL_law 198 = .ok (.iaload, 1) := by decide +kernel
theorem dL_law_199 : decode cL_law 199 = .ok (.invokevirtual 13, 3) := by decide +kernel
theorem dL_law_202 : decode cL_law 202 = .ok (.aload_n 2, 1) := by decide +kernel
theorem dL_law_203 : decode cL_law 203 = .ok (.aload_n 0, 1) := by decide +kernel
theorem dL_law_204 : decode cL_law 204 = .ok (.iload_n 3, 1) := by decide +kernel
theorem dL_law_205 : decode cL_law 205 = .ok (.iconst 1, 1) := by decide +kernel
theorem dL_law_206 : decode cL_law 206 = .ok (.iadd, 1) := by decide +kernel
theorem dL_law_207 : decode cL_law 207 = .ok (.iaload, 1) := by decide +kernel
theorem dL_law_208 : decode cL_law 208 = .ok (.aload_n 0, 1) := by decide +kernel
theorem dL_law_209 : decode cL_law 209 = .ok (.iload_n 3, 1) := by decide +kernel
theorem dL_law_210 : decode cL_law 210 = .ok (.iconst 2, 1) := by decide +kernel
theorem dL_law_211 : decode cL_law 211 = .ok (.iadd, 1) := by decide +kernel
theorem dL_law_212 : decode cL_law 212 = .ok (.iaload, 1) := by decide +kernel
theorem dL_law_213 : decode cL_law 213 = .ok (.invokevirtual 17, 3) := by decide +kernel
theorem dL_law_216 : decode cL_law 216 = .ok (.if_icmp .eq 1127, 3) := by decide +kernel
theorem dL_law_219 : decode cL_law 219 = .ok (.iconst 0, 1) := by decide +kernel
theorem dL_law_220 : decode cL_law 220 = .ok (.ireturn, 1) := by decide +kernel
theorem dL_law_221 : decode cL_law 221 = .ok (.aload_n 1, 1) := by decide +kernel
theorem dL_law_222 : decode cL_law 222 = .ok (.aload_n 0, 1) := by decide +kernel
theorem dL_law_223 : decode cL_law 223 = .ok (.iload_n 3, 1) := by decide +kernel
theorem dL_law_224 : decode cL_law 224 = .ok (.iconst 1, 1) := by decide +kernel
theorem dL_law_225 : decode cL_law 225 = .ok (.iadd, 1) := by decide +kernel
theorem dL_law_226 : decode cL_law 226 = .ok (.iaload, 1) := by decide +kernel
theorem dL_law_227 : decode cL_law 227 = .ok (.aload_n 0, 1) := by decide +kernel
theorem dL_law_228 : decode cL_law 228 = .ok (.iload_n 3, 1) := by decide +kernel
theorem dL_law_229 : decode cL_law 229 = .ok (.iconst 2, 1) := by decide +kernel
theorem dL_law_230 : decode cL_law 230 = .ok (.iadd, 1) := by decide +kernel
theorem dL_law_231 : decode cL_law 231 = .ok (.iaload, 1) := by decide +kernel
theorem dL_law_232 : decode cL_law 232 = .ok (.invokevirtual 18, 3) := by decide +kernel
theorem dL_law_235 : decode cL_law 235 = .ok (.aload_n 2, 1) := by decide +kernel
theorem dL_law_236 : decode cL_law 236 = .ok (.aload_n 0, 1) := by decide +kernel
theorem dL_law_237 : decode cL_law 237 = .ok (.iload_n 3, 1) := by decide +kernel
theorem dL_law_238 : decode cL_law 238 = .ok (.iconst 1, 1) := by decide +kernel
theorem dL_law_239 : decode cL_law 239 = .ok (.iadd, 1) := by decide +kernel
theorem dL_law_240 : decode cL_law 240 = .ok (.iaload, 1) := by decide +kernel
theorem dL_law_241 : decode cL_law 241 = .ok (.aload_n 0, 1) := by decide +kernel
theorem dL_law_242 : decode cL_law 242 = .ok (.iload_n 3, 1) := by decide +kernel
theorem dL_law_243 : decode cL_law 243 = .ok (.iconst 2, 1) := by decide +kernel
theorem dL_law_244 : decode cL_law 244 = .ok (.iadd, 1) := by decide +kernel
theorem dL_law_245 : decode cL_law 245 = .ok (.iaload, 1) := by decide +kernel
theorem dL_law_246 : decode cL_law 246 = .ok (.invokevirtual 21, 3) := by decide +kernel
theorem dL_law_249 : decode cL_law 249 = .ok (.if_icmp .eq 1094, 3) := by decide +kernel
theorem dL_law_252 : decode cL_law 252 = .ok (.iconst 0, 1) := by decide +kernel
theorem dL_law_253 : decode cL_law 253 = .ok (.ireturn, 1) := by decide +kernel
theorem dL_law_254 : decode cL_law 254 = .ok (.aload_n 1, 1) := by decide +kernel
theorem dL_law_255 : decode cL_law 255 = .ok (.aload_n 0, 1) := by decide +kernel
theorem dL_law_256 : decode cL_law 256 = .ok (.iload_n 3, 1) := by decide +kernel
theorem dL_law_257 : decode cL_law 257 = .ok (.iconst 1, 1) := by decide +kernel
theorem dL_law_258 : decode cL_law 258 = .ok (.iadd, 1) := by decide +kernel
theorem dL_law_259 : decode cL_law 259 = .ok (.iaload, 1) := by decide +kernel
theorem dL_law_260 : decode cL_law 260 = .ok (.aload_n 0, 1) := by decide +kernel
theorem dL_law_261 : decode cL_law 261 = .ok (.iload_n 3, 1) := by decide +kernel
theorem dL_law_262 : decode cL_law 262 = .ok (.iconst 2, 1) := by decide +kernel
theorem dL_law_263 : decode cL_law 263 = .ok (.iadd, 1) := by decide +kernel
theorem dL_law_264 : decode cL_law 264 = .ok (.iaload, 1) := by decide +kernel
theorem dL_law_265 : decode cL_law 265 = .ok (.invokevirtual 22, 3) := by decide +kernel
theorem dL_law_268 : decode cL_law 268 = .ok (.aload_n 2, 1) := by decide +kernel
theorem dL_law_269 : decode cL_law 269 = .ok (.aload_n 0, 1) := by decide +kernel
theorem dL_law_270 : decode cL_law 270 = .ok (.iload_n 3, 1) := by decide +kernel
theorem dL_law_271 : decode cL_law 271 = .ok (.iconst 1, 1) := by decide +kernel
theorem dL_law_272 : decode cL_law 272 = .ok (.iadd, 1) := by decide +kernel
theorem dL_law_273 : decode cL_law 273 = .ok (.iaload, 1) := by decide +kernel
theorem dL_law_274 : decode cL_law 274 = .ok (.aload_n 0, 1) := by decide +kernel
theorem dL_law_275 : decode cL_law 275 = .ok (.iload_n 3, 1) := by decide +kernel
theorem dL_law_276 : decode cL_law 276 = .ok (.iconst 2, 1) := by decide +kernel
theorem dL_law_277 : decode cL_law 277 = .ok (.iadd, 1) := by decide +kernel
theorem dL_law_278 : decode cL_law 278 = .ok (.iaload, 1) := by decide +kernel
theorem dL_law_279 : decode cL_law 279 = .ok (.invokevirtual 25, 3) := by decide +kernel
theorem dL_law_282 : decode cL_law 282 = .ok (.if_icmp .eq 1061, 3) := by decide +kernel
theorem dL_law_285 : decode cL_law 285 = .ok (.iconst 0, 1) := by decide +kernel
theorem dL_law_286 : decode cL_law 286 = .ok (.ireturn, 1) := by decide +kernel
theorem dL_law_287 : decode cL_law 287 = .ok (.aload_n 1, 1) := by decide +kernel
theorem dL_law_288 : decode cL_law 288 = .ok (.aload_n 0, 1) := by decide +kernel
theorem dL_law_289 : decode cL_law 289 = .ok (.iload_n 3, 1) := by decide +kernel
theorem dL_law_290 : decode cL_law 290 = .ok (.iconst 1, 1) := by decide +kernel
theorem dL_law_291 : decode cL_law 291 = .ok (.iadd, 1) := by decide +kernel
theorem dL_law_292 : decode cL_law 292 = .ok (.iaload, 1) := by decide +kernel
theorem dL_law_293 : decode cL_law 293 = .ok (.aload_n 0, 1) := by decide +kernel
theorem dL_law_294 : decode cL_law 294 = .ok (.iload_n 3, 1) := by decide +kernel
theorem dL_law_295 : decode cL_law 295 = .ok (.iconst 2, 1) := by decide +kernel
theorem dL_law_296 : decode cL_law 296 = .ok (.iadd, 1) := by decide +kernel
theorem dL_law_297 : decode cL_law 297 = .ok (.iaload, 1) := by decide +kernel
theorem dL_law_298 : decode cL_law 298 = .ok (.invokevirtual 26, 3) := by decide +kernel
theorem dL_law_301 : decode cL_law 301 = .ok (.aload_n 2, 1) := by decide +kernel
theorem dL_law_302 : decode cL_law 302 = .ok (.aload_n 0, 1) := by decide +kernel
theorem dL_law_303 : decode cL_law 303 = .ok (.iload_n 3, 1) := by decide +kernel
theorem dL_law_304 : decode cL_law 304 = .ok (.iconst 1, 1) := by decide +kernel
theorem dL_law_305 : decode cL_law 305 = .ok (.iadd, 1) := by decide +kernel
theorem dL_law_306 : decode cL_law 306 = .ok (.iaload, 1) := by decide +kernel
theorem dL_law_307 : decode cL_law 307 = .ok (.aload_n 0, 1) := by decide +kernel
theorem dL_law_308 : decode cL_law 308 = .ok (.iload_n 3, 1) := by decide +kernel
theorem dL_law_309 : decode cL_law 309 = .ok (.iconst 2, 1) := by decide +kernel
theorem dL_law_310 : decode cL_law 310 = .ok (.iadd, 1) := by decide +kernel
theorem dL_law_311 : decode cL_law 311 = .ok (.iaload, 1) := by decide +kernel
theorem dL_law_312 : decode cL_law 312 = .ok (.invokevirtual 29, 3) := by decide +kernel
theorem dL_law_315 : decode cL_law 315 = .ok (.if_icmp .eq 1028, 3) := by decide +kernel
theorem dL_law_318 : decode cL_law 318 = .ok (.iconst 0, 1) := by decide +kernel
theorem dL_law_319 : decode cL_law 319 = .ok (.ireturn, 1) := by decide +kernel
theorem dL_law_320 : decode cL_law 320 = .ok (.aload_n 1, 1) := by decide +kernel
theorem dL_law_321 : decode cL_law 321 = .ok (.aload_n 0, 1) := by decide +kernel
theorem dL_law_322 : decode cL_law 322 = .ok (.iload_n 3, 1) := by decide +kernel
theorem dL_law_323 : decode cL_law 323 = .ok (.iconst 1, 1) := by decide +kernel
theorem dL_law_324 : decode cL_law 324 = .ok (.iadd, 1) := by decide +kernel
theorem dL_law_325 : decode cL_law 325 = .ok (.iaload, 1) := by decide +kernel
theorem dL_law_326 : decode cL_law 326 = .ok (.aload_n 0, 1) := by decide +kernel
theorem dL_law_327 : decode cL_law 327 = .ok (.iload_n 3, 1) := by decide +kernel
theorem dL_law_328 : decode cL_law 328 = .ok (.iconst 2, 1) := by decide +kernel
theorem dL_law_329 : decode cL_law 329 = .ok (.iadd, 1) := by decide +kernel
theorem dL_law_330 : decode cL_law 330 = .ok (.iaload, 1) := by decide +kernel
theorem dL_law_331 : decode cL_law 331 = .ok (.invokevirtual 30, 3) := by decide +kernel
theorem dL_law_334 : decode cL_law 334 = .ok (.aload_n 2, 1) := by decide +kernel
theorem dL_law_335 : decode cL_law 335 = .ok (.aload_n 0, 1) := by decide +kernel
theorem dL_law_336 : decode cL_law 336 = .ok (.iload_n 3, 1) := by decide +kernel
theorem dL_law_337 : decode cL_law 337 = .ok (.iconst 1, 1) := by decide +kernel
theorem dL_law_338 : decode cL_law 338 = .ok (.iadd, 1) := by decide +kernel
theorem dL_law_339 : decode cL_law 339 = .ok (.iaload, 1) := by decide +kernel
theorem dL_law_340 : decode cL_law 340 = .ok (.aload_n 0, 1) := by decide +kernel
theorem dL_law_341 : decode cL_law 341 = .ok (.iload_n 3, 1) := by decide +kernel
theorem dL_law_342 : decode cL_law 342 = .ok (.iconst 2, 1) := by decide +kernel
theorem dL_law_343 : decode cL_law 343 = .ok (.iadd, 1) := by decide +kernel
theorem dL_law_344 : decode cL_law 344 = .ok (.iaload, 1) := by decide +kernel
theorem dL_law_345 : decode cL_law 345 = .ok (.invokevirtual 33, 3) := by decide +kernel
theorem dL_law_348 : decode cL_law 348 = .ok (.if_icmp .eq 995, 3) := by decide +kernel
theorem dL_law_351 : decode cL_law 351 = .ok (.iconst 0, 1) := by decide +kernel
theorem dL_law_352 : decode cL_law 352 = .ok (.ireturn, 1) := by decide +kernel
theorem dL_law_353 : decode cL_law 353 = .ok (.aload_n 1, 1) := by decide +kernel
theorem dL_law_354 : decode cL_law 354 = .ok (.aload_n 0, 1) := by decide +kernel
theorem dL_law_355 : decode cL_law 355 = .ok (.iload_n 3, 1) := by decide +kernel
theorem dL_law_356 : decode cL_law 356 = .ok (.iconst 1, 1) := by decide +kernel
theorem dL_law_357 : decode cL_law 357 = .ok (.iadd, 1) := by decide +kernel
theorem dL_law_358 : decode cL_law 358 = .ok (.iaload, 1) := by decide +kernel
theorem dL_law_359 : decode cL_law 359 = .ok (.aload_n 0, 1) := by decide +kernel
theorem dL_law_360 : decode cL_law 360 = .ok (.iload_n 3, 1) := by decide +kernel
theorem dL_law_361 : decode cL_law 361 = .ok (.iconst 2, 1) := by decide +kernel
theorem dL_law_362 : decode cL_law 362 = .ok (.iadd, 1) := by decide +kernel
theorem dL_law_363 : decode cL_law 363 = .ok (.iaload, 1) := by decide +kernel
theorem dL_law_364 : decode cL_law 364 = .ok (.invokevirtual 34, 3) := by decide +kernel
theorem dL_law_367 : decode cL_law 367 = .ok (.aload_n 2, 1) := by decide +kernel
theorem dL_law_368 : decode cL_law 368 = .ok (.aload_n 0, 1) := by decide +kernel
theorem dL_law_369 : decode cL_law 369 = .ok (.iload_n 3, 1) := by decide +kernel
theorem dL_law_370 : decode cL_law 370 = .ok (.iconst 1, 1) := by decide +kernel
theorem dL_law_371 : decode cL_law 371 = .ok (.iadd, 1) := by decide +kernel
theorem dL_law_372 : decode cL_law 372 = .ok (.iaload, 1) := by decide +kernel
theorem dL_law_373 : decode cL_law 373 = .ok (.aload_n 0, 1) := by decide +kernel
theorem dL_law_374 : decode cL_law 374 = .ok (.iload_n 3, 1) := by decide +kernel
theorem dL_law_375 : decode cL_law 375 = .ok (.iconst 2, 1) := by decide +kernel
theorem dL_law_376 : decode cL_law 376 = .ok (.iadd, 1) := by decide +kernel
theorem dL_law_377 : decode cL_law 377 = .ok (.iaload, 1) := by decide +kernel
theorem dL_law_378 : decode cL_law 378 = .ok (.invokevirtual 37, 3) := by decide +kernel
theorem dL_law_381 : decode cL_law 381 = .ok (.if_icmp .eq 962, 3) := by decide +kernel
theorem dL_law_384 : decode cL_law 384 = .ok (.iconst 0, 1) := by decide +kernel
theorem dL_law_385 : decode cL_law 385 = .ok (.ireturn, 1) := by decide +kernel
theorem dL_law_386 : decode cL_law 386 = .ok (.aload_n 1, 1) := by decide +kernel
theorem dL_law_387 : decode cL_law 387 = .ok (.aload_n 0, 1) := by decide +kernel
theorem dL_law_388 : decode cL_law 388 = .ok (.iload_n 3, 1) := by decide +kernel
theorem dL_law_389 : decode cL_law 389 = .ok (.iconst 1, 1) := by decide +kernel
theorem dL_law_390 : decode cL_law 390 = .ok (.iadd, 1) := by decide +kernel
theorem dL_law_391 : decode cL_law 391 = .ok (.iaload, 1) := by decide +kernel
theorem dL_law_392 : decode cL_law 392 = .ok (.aload_n 0, 1) := by decide +kernel
theorem dL_law_393 : decode cL_law 393 = .ok (.iload_n 3, 1) := by decide +kernel
theorem dL_law_394 : decode cL_law 394 = .ok (.iconst 2, 1) := by decide +kernel
theorem dL_law_395 : decode cL_law 395 = .ok (.iadd, 1) := by decide +kernel
theorem dL_law_396 : decode cL_law 396 = .ok (.iaload, 1) := by decide +kernel
theorem dL_law_397 : decode cL_law 397 = .ok (.invokevirtual 38, 3) := by decide +kernel
theorem dL_law_400 : decode cL_law 400 = .ok (.aload_n 2, 1) := by decide +kernel
theorem dL_law_401 : decode cL_law 401 = .ok (.aload_n 0, 1) := by decide +kernel
theorem dL_law_402 : decode cL_law 402 = .ok (.iload_n 3, 1) := by decide +kernel
theorem dL_law_403 : decode cL_law 403 = .ok (.iconst 1, 1) := by decide +kernel
theorem dL_law_404 : decode cL_law 404 = .ok (.iadd, 1) := by decide +kernel
theorem dL_law_405 : decode cL_law 405 = .ok (.iaload, 1) := by decide +kernel
theorem dL_law_406 : decode cL_law 406 = .ok (.aload_n 0, 1) := by decide +kernel
theorem dL_law_407 : decode cL_law 407 = .ok (.iload_n 3, 1) := by decide +kernel
theorem dL_law_408 : decode cL_law 408 = .ok (.iconst 2, 1) := by decide +kernel
theorem dL_law_409 : decode cL_law 409 = .ok (.iadd, 1) := by decide +kernel
theorem dL_law_410 : decode cL_law 410 = .ok (.iaload, 1) := by decide +kernel
theorem dL_law_411 : decode cL_law 411 = .ok (.invokevirtual 41, 3) := by decide +kernel
theorem dL_law_414 : decode cL_law 414 = .ok (.if_icmp .eq 929, 3) := by decide +kernel
theorem dL_law_417 : decode cL_law 417 = .ok (.iconst 0, 1) := by decide +kernel
theorem dL_law_418 : decode cL_law 418 = .ok (.ireturn, 1) := by decide +kernel
theorem dL_law_419 : decode cL_law 419 = .ok (.aload_n 1, 1) := by decide +kernel
theorem dL_law_420 : decode cL_law 420 = .ok (.aload_n 0, 1) := by decide +kernel
theorem dL_law_421 : decode cL_law 421 = .ok (.iload_n 3, 1) := by decide +kernel
theorem dL_law_422 : decode cL_law 422 = .ok (.iconst 1, 1) := by decide +kernel
theorem dL_law_423 : decode cL_law 423 = .ok (.iadd, 1) := by decide +kernel
theorem dL_law_424 : decode cL_law 424 = .ok (.iaload, 1) := by decide +kernel
theorem dL_law_425 : decode cL_law 425 = .ok (.i2l, 1) := by decide +kernel
theorem dL_law_426 : decode cL_law 426 = .ok (.bipush 32, 2) := by decide +kernel
theorem dL_law_428 : decode cL_law 428 = .ok (.lshl, 1) := by decide +kernel
theorem dL_law_429 : decode cL_law 429 = .ok (.aload_n 0, 1) := by decide +kernel
theorem dL_law_430 : decode cL_law 430 = .ok (.iload_n 3, 1) := by decide +kernel
theorem dL_law_431 : decode cL_law 431 = .ok (.iconst 2, 1) := by decide +kernel
theorem dL_law_432 : decode cL_law 432 = .ok (.iadd, 1) := by decide +kernel
theorem dL_law_433 : decode cL_law 433 = .ok (.iaload, 1) := by decide +kernel
theorem dL_law_434 : decode cL_law 434 = .ok (.i2l, 1) := by decide +kernel
theorem dL_law_435 : decode cL_law 435 = .ok (.ldc2_w 42, 3) := by decide +kernel
theorem dL_law_438 : decode cL_law 438 = .ok (.land, 1) := by decide +kernel
theorem dL_law_439 : decode cL_law 439 = .ok (.lor, 1) := by decide +kernel
theorem dL_law_440 : decode cL_law 440 = .ok (.aload_n 0, 1) := by decide +kernel
theorem dL_law_441 : decode cL_law 441 = .ok (.iload_n 3, 1) := by decide +kernel
theorem dL_law_442 : decode cL_law 442 = .ok (.iconst 3, 1) := by decide +kernel
theorem dL_law_443 : decode cL_law 443 = .ok (.iadd, 1) := by decide +kernel
theorem dL_law_444 : decode cL_law 444 = .ok (.iaload, 1) := by decide +kernel
theorem dL_law_445 : decode cL_law 445 = .ok (.invokevirtual 44, 3) := by decide +kernel
theorem dL_law_448 : decode cL_law 448 = .ok (.aload_n 2, 1) := by decide +kernel
theorem dL_law_449 : decode cL_law 449 = .ok (.aload_n 0, 1) := by decide +kernel
theorem dL_law_450 : decode cL_law 450 = .ok (.iload_n 3, 1) := by decide +kernel
theorem dL_law_451 : decode cL_law 451 = .ok (.iconst 1, 1) := by decide +kernel
theorem dL_law_452 : decode cL_law 452 = .ok (.iadd, 1) := by decide +kernel
theorem dL_law_453 : decode cL_law 453 = .ok (.iaload, 1) := by decide +kernel
theorem dL_law_454 : decode cL_law 454 = .ok (.i2l, 1) := by decide +kernel
theorem dL_law_455 : decode cL_law 455 = .ok (.bipush 32, 2) := by decide +kernel
theorem dL_law_457 : decode cL_law 457 = .ok (.lshl, 1) := by decide +kernel
theorem dL_law_458 : decode cL_law 458 = .ok (.aload_n 0, 1) := by decide +kernel
theorem dL_law_459 : decode cL_law 459 = .ok (.iload_n 3, 1) := by decide +kernel
theorem dL_law_460 : decode cL_law 460 = .ok (.iconst 2, 1) := by decide +kernel
theorem dL_law_461 : decode cL_law 461 = .ok (.iadd, 1) := by decide +kernel
theorem dL_law_462 : decode cL_law 462 = .ok (.iaload, 1) := by decide +kernel
theorem dL_law_463 : decode cL_law 463 = .ok (.i2l, 1) := by decide +kernel
theorem dL_law_464 : decode cL_law 464 = .ok (.ldc2_w 42, 3) := by decide +kernel
theorem dL_law_467 : decode cL_law 467 = .ok (.land, 1) := by decide +kernel
theorem dL_law_468 : decode cL_law 468 = .ok (.lor, 1) := by decide +kernel
theorem dL_law_469 : decode cL_law 469 = .ok (.aload_n 0, 1) := by decide +kernel
theorem dL_law_470 : decode cL_law 470 = .ok (.iload_n 3, 1) := by decide +kernel
theorem dL_law_471 : decode cL_law 471 = .ok (.iconst 3, 1) := by decide +kernel
theorem dL_law_472 : decode cL_law 472 = .ok (.iadd, 1) := by decide +kernel
theorem dL_law_473 : decode cL_law 473 = .ok (.iaload, 1) := by decide +kernel
theorem dL_law_474 : decode cL_law 474 = .ok (.invokevirtual 48, 3) := by decide +kernel
theorem dL_law_477 : decode cL_law 477 = .ok (.if_icmp .eq 866, 3) := by decide +kernel
theorem dL_law_480 : decode cL_law 480 = .ok (.iconst 0, 1) := by decide +kernel
theorem dL_law_481 : decode cL_law 481 = .ok (.ireturn, 1) := by decide +kernel
theorem dL_law_482 : decode cL_law 482 = .ok (.aload_n 1, 1) := by decide +kernel
theorem dL_law_483 : decode cL_law 483 = .ok (.aload_n 0, 1) := by decide +kernel
theorem dL_law_484 : decode cL_law 484 = .ok (.iload_n 3, 1) := by decide +kernel
theorem dL_law_485 : decode cL_law 485 = .ok (.iconst 1, 1) := by decide +kernel
theorem dL_law_486 : decode cL_law 486 = .ok (.iadd, 1) := by decide +kernel
theorem dL_law_487 : decode cL_law 487 = .ok (.iaload, 1) := by decide +kernel
theorem dL_law_488 : decode cL_law 488 = .ok (.invokevirtual 49, 3) := by decide +kernel
theorem dL_law_491 : decode cL_law 491 = .ok (.aload_n 2, 1) := by decide +kernel
theorem dL_law_492 : decode cL_law 492 = .ok (.aload_n 0, 1) := by decide +kernel
theorem dL_law_493 : decode cL_law 493 = .ok (.iload_n 3, 1) := by decide +kernel
theorem dL_law_494 : decode cL_law 494 = .ok (.iconst 1, 1) := by decide +kernel
theorem dL_law_495 : decode cL_law 495 = .ok (.iadd, 1) := by decide +kernel
theorem dL_law_496 : decode cL_law 496 = .ok (.iaload, 1) := by decide +kernel
theorem dL_law_497 : decode cL_law 497 = .ok (.invokevirtual 53, 3) := by decide +kernel
theorem dL_law_500 : decode cL_law 500 = .ok (.if_icmp .eq 843, 3) := by decide +kernel
theorem dL_law_503 : decode cL_law 503 = .ok (.iconst 0, 1) := by decide +kernel
theorem dL_law_504 : decode cL_law 504 = .ok (.ireturn, 1) := by decide +kernel
theorem dL_law_505 : decode cL_law 505 = .ok (.aload_n 1, 1) := by decide +kernel
theorem dL_law_506 : decode cL_law 506 = .ok (.aload_n 0, 1) := by decide +kernel
theorem dL_law_507 : decode cL_law 507 = .ok (.iload_n 3, 1) := by decide +kernel
theorem dL_law_508 : decode cL_law 508 = .ok (.iconst 1, 1) := by decide +kernel
theorem dL_law_509 : decode cL_law 509 = .ok (.iadd, 1) := by decide +kernel
theorem dL_law_510 : decode cL_law 510 = .ok (.iaload, 1) := by decide +kernel
theorem dL_law_511 : decode cL_law 511 = .ok (.invokevirtual 54, 3) := by decide +kernel
theorem dL_law_514 : decode cL_law 514 = .ok (.aload_n 2, 1) := by decide +kernel
theorem dL_law_515 : decode cL_law 515 = .ok (.aload_n 0, 1) := by decide +kernel
theorem dL_law_516 : decode cL_law 516 = .ok (.iload_n 3, 1) := by decide +kernel
theorem dL_law_517 : decode cL_law 517 = .ok (.iconst 1, 1) := by decide +kernel
theorem dL_law_518 : decode cL_law 518 = .ok (.iadd, 1) := by decide +kernel
theorem dL_law_519 : decode cL_law 519 = .ok (.iaload, 1) := by decide +kernel
theorem dL_law_520 : decode cL_law 520 = .ok (.invokevirtual 57, 3) := by decide +kernel
theorem dL_law_523 : decode cL_law 523 = .ok (.if_icmp .eq 820, 3) := by decide +kernel
theorem dL_law_526 : decode cL_law 526 = .ok (.iconst 0, 1) := by decide +kernel
theorem dL_law_527 : decode cL_law 527 = .ok (.ireturn, 1) := by decide +kernel
theorem dL_law_528 : decode cL_law 528 = .ok (.aload_n 1, 1) := by decide +kernel
theorem dL_law_529 : decode cL_law 529 = .ok (.aload_n 0, 1) := by decide +kernel
theorem dL_law_530 : decode cL_law 530 = .ok (.iload_n 3, 1) := by decide +kernel
theorem dL_law_531 : decode cL_law 531 = .ok (.iconst 1, 1) := by decide +kernel
theorem dL_law_532 : decode cL_law 532 = .ok (.iadd, 1) := by decide +kernel
theorem dL_law_533 : decode cL_law 533 = .ok (.iaload, 1) := by decide +kernel
theorem dL_law_534 : decode cL_law 534 = .ok (.aload_n 0, 1) := by decide +kernel
theorem dL_law_535 : decode cL_law 535 = .ok (.iload_n 3, 1) := by decide +kernel
theorem dL_law_536 : decode cL_law 536 = .ok (.iconst 2, 1) := by decide +kernel
theorem dL_law_537 : decode cL_law 537 = .ok (.iadd, 1) := by decide +kernel
theorem dL_law_538 : decode cL_law 538 = .ok (.iaload, 1) := by decide +kernel
theorem dL_law_539 : decode cL_law 539 = .ok (.aload_n 0, 1) := by decide +kernel
theorem dL_law_540 : decode cL_law 540 = .ok (.iload_n 3, 1) := by decide +kernel
theorem dL_law_541 : decode cL_law 541 = .ok (.iconst 3, 1) := by decide +kernel
theorem dL_law_542 : decode cL_law 542 = .ok (.iadd, 1) := by decide +kernel
theorem dL_law_543 : decode cL_law 543 = .ok (.iaload, 1) := by decide +kernel
theorem dL_law_544 : decode cL_law 544 = .ok (.aload_n 0, 1) := by decide +kernel
theorem dL_law_545 : decode cL_law 545 = .ok (.iload_n 3, 1) := by decide +kernel
theorem dL_law_546 : decode cL_law 546 = .ok (.iconst 4, 1) := by decide +kernel
theorem dL_law_547 : decode cL_law 547 = .ok (.iadd, 1) := by decide +kernel
theorem dL_law_548 : decode cL_law 548 = .ok (.iaload, 1) := by decide +kernel
theorem dL_law_549 : decode cL_law 549 = .ok (.invokevirtual 58, 3) := by decide +kernel
theorem dL_law_552 : decode cL_law 552 = .ok (.aload_n 2, 1) := by decide +kernel
theorem dL_law_553 : decode cL_law 553 = .ok (.aload_n 0, 1) := by decide +kernel
theorem dL_law_554 : decode cL_law 554 = .ok (.iload_n 3, 1) := by decide +kernel
theorem dL_law_555 : decode cL_law 555 = .ok (.iconst 1, 1) := by decide +kernel
theorem dL_law_556 : decode cL_law 556 = .ok (.iadd, 1) := by decide +kernel
theorem dL_law_557 : decode cL_law 557 = .ok (.iaload, 1) := by decide +kernel
theorem dL_law_558 : decode cL_law 558 = .ok (.aload_n 0, 1) := by decide +kernel
theorem dL_law_559 : decode cL_law 559 = .ok (.iload_n 3, 1) := by decide +kernel
theorem dL_law_560 : decode cL_law 560 = .ok (.iconst 2, 1) := by decide +kernel
theorem dL_law_561 : decode cL_law 561 = .ok (.iadd, 1) := by decide +kernel
theorem dL_law_562 : decode cL_law 562 = .ok (.iaload, 1) := by decide +kernel
theorem dL_law_563 : decode cL_law 563 = .ok (.aload_n 0, 1) := by decide +kernel
theorem dL_law_564 : decode cL_law 564 = .ok (.iload_n 3, 1) := by decide +kernel
theorem dL_law_565 : decode cL_law 565 = .ok (.iconst 3, 1) := by decide +kernel
theorem dL_law_566 : decode cL_law 566 = .ok (.iadd, 1) := by decide +kernel
theorem dL_law_567 : decode cL_law 567 = .ok (.iaload, 1) := by decide +kernel
theorem dL_law_568 : decode cL_law 568 = .ok (.aload_n 0, 1) := by decide +kernel
theorem dL_law_569 : decode cL_law 569 = .ok (.iload_n 3, 1) := by decide +kernel
theorem dL_law_570 : decode cL_law 570 = .ok (.iconst 4, 1) := by decide +kernel
theorem dL_law_571 : decode cL_law 571 = .ok (.iadd, 1) := by decide +kernel
theorem dL_law_572 : decode cL_law 572 = .ok (.iaload, 1) := by decide +kernel
theorem dL_law_573 : decode cL_law 573 = .ok (.invokevirtual 62, 3) := by decide +kernel
theorem dL_law_576 : decode cL_law 576 = .ok (.if_icmp .eq 767, 3) := by decide +kernel
theorem dL_law_579 : decode cL_law 579 = .ok (.iconst 0, 1) := by decide +kernel
theorem dL_law_580 : decode cL_law 580 = .ok (.ireturn, 1) := by decide +kernel
theorem dL_law_581 : decode cL_law 581 = .ok (.aload_n 1, 1) := by decide +kernel
theorem dL_law_582 : decode cL_law 582 = .ok (.aload_n 0, 1) := by decide +kernel
theorem dL_law_583 : decode cL_law 583 = .ok (.iload_n 3, 1) := by decide +kernel
theorem dL_law_584 : decode cL_law 584 = .ok (.iconst 1, 1) := by decide +kernel
theorem dL_law_585 : decode cL_law 585 = .ok (.iadd, 1) := by decide +kernel
theorem dL_law_586 : decode cL_law 586 = .ok (.iaload, 1) := by decide +kernel
theorem dL_law_587 : decode cL_law 587 = .ok (.invokevirtual 63, 3) := by decide +kernel
theorem dL_law_590 : decode cL_law 590 = .ok (.aload_n 2, 1) := by decide +kernel
theorem dL_law_591 : decode cL_law 591 = .ok (.aload_n 0, 1) := by decide +kernel
theorem dL_law_592 : decode cL_law 592 = .ok (.iload_n 3, 1) := by decide +kernel
theorem dL_law_593 : decode cL_law 593 = .ok (.iconst 1, 1) := by decide +kernel
theorem dL_law_594 : decode cL_law 594 = .ok (.iadd, 1) := by decide +kernel
theorem dL_law_595 : decode cL_law 595 = .ok (.iaload, 1) := by decide +kernel
theorem dL_law_596 : decode cL_law 596 = .ok (.invokevirtual 66, 3) := by decide +kernel
theorem dL_law_599 : decode cL_law 599 = .ok (.if_icmp .eq 744, 3) := by decide +kernel
theorem dL_law_602 : decode cL_law 602 = .ok (.iconst 0, 1) := by decide +kernel
theorem dL_law_603 : decode cL_law 603 = .ok (.ireturn, 1) := by decide +kernel
theorem dL_law_604 : decode cL_law 604 = .ok (.aload_n 1, 1) := by decide +kernel
theorem dL_law_605 : decode cL_law 605 = .ok (.aload_n 0, 1) := by decide +kernel
theorem dL_law_606 : decode cL_law 606 = .ok (.iload_n 3, 1) := by decide +kernel
theorem dL_law_607 : decode cL_law 607 = .ok (.iconst 1, 1) := by decide +kernel
theorem dL_law_608 : decode cL_law 608 = .ok (.iadd, 1) := by decide +kernel
theorem dL_law_609 : decode cL_law 609 = .ok (.iaload, 1) := by decide +kernel
theorem dL_law_610 : decode cL_law 610 = .ok (.invokevirtual 67, 3) := by decide +kernel
theorem dL_law_613 : decode cL_law 613 = .ok (.aload_n 2, 1) := by decide +kernel
theorem dL_law_614 : decode cL_law 614 = .ok (.aload_n 0, 1) := by decide +kernel
theorem dL_law_615 : decode cL_law 615 = .ok (.iload_n 3, 1) := by decide +kernel
theorem dL_law_616 : decode cL_law 616 = .ok (.iconst 1, 1) := by decide +kernel
theorem dL_law_617 : decode cL_law 617 = .ok (.iadd, 1) := by decide +kernel
theorem dL_law_618 : decode cL_law 618 = .ok (.iaload, 1) := by decide +kernel
theorem dL_law_619 : decode cL_law 619 = .ok (.invokevirtual 70, 3) := by decide +kernel
theorem dL_law_622 : decode cL_law 622 = .ok (.if_icmp .eq 721, 3) := by decide +kernel
theorem dL_law_625 : decode cL_law 625 = .ok (.iconst 0, 1) := by decide +kernel
theorem dL_law_626 : decode cL_law 626 = .ok (.ireturn, 1) := by decide +kernel
theorem dL_law_627 : decode cL_law 627 = .ok (.aload_n 1, 1) := by decide +kernel
theorem dL_law_628 : decode cL_law 628 = .ok (.aload_n 0, 1) := by decide +kernel
theorem dL_law_629 : decode cL_law 629 = .ok (.iload_n 3, 1) := by decide +kernel
theorem dL_law_630 : decode cL_law 630 = .ok (.iconst 1, 1) := by decide +kernel
theorem dL_law_631 : decode cL_law 631 = .ok (.iadd, 1) := by decide +kernel
theorem dL_law_632 : decode cL_law 632 = .ok (.iaload, 1) := by decide +kernel
theorem dL_law_633 : decode cL_law 633 = .ok (.invokevirtual 71, 3) := by decide +kernel
theorem dL_law_636 : decode cL_law 636 = .ok (.aload_n 2, 1) := by decide +kernel
theorem dL_law_637 : decode cL_law 637 = .ok (.aload_n 0, 1) := by decide +kernel
theorem dL_law_638 : decode cL_law 638 = .ok (.iload_n 3, 1) := by decide +kernel
theorem dL_law_639 : decode cL_law 639 = .ok (.iconst 1, 1) := by decide +kernel
theorem dL_law_640 : decode cL_law 640 = .ok (.iadd, 1) := by decide +kernel
theorem dL_law_641 : decode cL_law 641 = .ok (.iaload, 1) := by decide +kernel
theorem dL_law_642 : decode cL_law 642 = .ok (.invokevirtual 74, 3) := by decide +kernel
theorem dL_law_645 : decode cL_law 645 = .ok (.if_icmp .eq 698, 3) := by decide +kernel
theorem dL_law_648 : decode cL_law 648 = .ok (.iconst 0, 1) := by decide +kernel
theorem dL_law_649 : decode cL_law 649 = .ok (.ireturn, 1) := by decide +kernel
theorem dL_law_650 : decode cL_law 650 = .ok (.aload_n 1, 1) := by decide +kernel
theorem dL_law_651 : decode cL_law 651 = .ok (.aload_n 0, 1) := by decide +kernel
theorem dL_law_652 : decode cL_law 652 = .ok (.iload_n 3, 1) := by decide +kernel
theorem dL_law_653 : decode cL_law 653 = .ok (.iconst 1, 1) := by decide +kernel
theorem dL_law_654 : decode cL_law 654 = .ok (.iadd, 1) := by decide +kernel
theorem dL_law_655 : decode cL_law 655 = .ok (.iaload, 1) := by decide +kernel
theorem dL_law_656 : decode cL_law 656 = .ok (.invokevirtual 75, 3) := by decide +kernel
theorem dL_law_659 : decode cL_law 659 = .ok (.aload_n 2, 1) := by decide +kernel
theorem dL_law_660 : decode cL_law 660 = .ok (.aload_n 0, 1) := by decide +kernel
theorem dL_law_661 : decode cL_law 661 = .ok (.iload_n 3, 1) := by decide +kernel
theorem dL_law_662 : decode cL_law 662 = .ok (.iconst 1, 1) := by decide +kernel
theorem dL_law_663 : decode cL_law 663 = .ok (.iadd, 1) := by decide +kernel
theorem dL_law_664 : decode cL_law 664 = .ok (.iaload, 1) := by decide +kernel
theorem dL_law_665 : decode cL_law 665 = .ok (.invokevirtual 78, 3) := by decide +kernel
theorem dL_law_668 : decode cL_law 668 = .ok (.if_icmp .eq 675, 3) := by decide +kernel
theorem dL_law_671 : decode cL_law 671 = .ok (.iconst 0, 1) := by decide +kernel
theorem dL_law_672 : decode cL_law 672 = .ok (.ireturn, 1) := by decide +kernel
theorem dL_law_673 : decode cL_law 673 = .ok (.aload_n 1, 1) := by decide +kernel
theorem dL_law_674 : decode cL_law 674 = .ok (.aload_n 0, 1) := by decide +kernel
theorem dL_law_675 : decode cL_law 675 = .ok (.iload_n 3, 1) := by decide +kernel
theorem dL_law_676 : decode cL_law 676 = .ok (.iconst 1, 1) := by decide +kernel
theorem dL_law_677 : decode cL_law 677 = .ok (.iadd, 1) := by decide +kernel
theorem dL_law_678 : decode cL_law 678 = .ok (.iaload, 1) := by decide +kernel
theorem dL_law_679 : decode cL_law 679 = .ok (.aload_n 0, 1) := by decide +kernel
theorem dL_law_680 : decode cL_law 680 = .ok (.iload_n 3, 1) := by decide +kernel
theorem dL_law_681 : decode cL_law 681 = .ok (.iconst 2, 1) := by decide +kernel
theorem dL_law_682 : decode cL_law 682 = .ok (.iadd, 1) := by decide +kernel
theorem dL_law_683 : decode cL_law 683 = .ok (.iaload, 1) := by decide +kernel
theorem dL_law_684 : decode cL_law 684 = .ok (.aload_n 0, 1) := by decide +kernel
theorem dL_law_685 : decode cL_law 685 = .ok (.iload_n 3, 1) := by decide +kernel
theorem dL_law_686 : decode cL_law 686 = .ok (.iconst 3, 1) := by decide +kernel
theorem dL_law_687 : decode cL_law 687 = .ok (.iadd, 1) := by decide +kernel
theorem dL_law_688 : decode cL_law 688 = .ok (.iaload, 1) := by decide +kernel
theorem dL_law_689 : decode cL_law 689 = .ok (.invokevirtual 79, 3) := by decide +kernel
theorem dL_law_692 : decode cL_law 692 = .ok (.aload_n 2, 1) := by decide +kernel
theorem dL_law_693 : decode cL_law 693 = .ok (.aload_n 0, 1) := by decide +kernel
theorem dL_law_694 : decode cL_law 694 = .ok (.iload_n 3, 1) := by decide +kernel
theorem dL_law_695 : decode cL_law 695 = .ok (.iconst 1, 1) := by decide +kernel
theorem dL_law_696 : decode cL_law 696 = .ok (.iadd, 1) := by decide +kernel
theorem dL_law_697 : decode cL_law 697 = .ok (.iaload, 1) := by decide +kernel
theorem dL_law_698 : decode cL_law 698 = .ok (.aload_n 0, 1) := by decide +kernel
theorem dL_law_699 : decode cL_law 699 = .ok (.iload_n 3, 1) := by decide +kernel
theorem dL_law_700 : decode cL_law 700 = .ok (.iconst 2, 1) := by decide +kernel
theorem dL_law_701 : decode cL_law 701 = .ok (.iadd, 1) := by decide +kernel
theorem dL_law_702 : decode cL_law 702 = .ok (.iaload, 1) := by decide +kernel
theorem dL_law_703 : decode cL_law 703 = .ok (.aload_n 0, 1) := by decide +kernel
theorem dL_law_704 : decode cL_law 704 = .ok (.iload_n 3, 1) := by decide +kernel
theorem dL_law_705 : decode cL_law 705 = .ok (.iconst 3, 1) := by decide +kernel
theorem dL_law_706 : decode cL_law 706 = .ok (.iadd, 1) := by decide +kernel
theorem dL_law_707 : decode cL_law 707 = .ok (.iaload, 1) := by decide +kernel
theorem dL_law_708 : decode cL_law 708 = .ok (.invokevirtual 83, 3) := by decide +kernel
theorem dL_law_711 : decode cL_law 711 = .ok (.if_icmp .eq 632, 3) := by decide +kernel
theorem dL_law_714 : decode cL_law 714 = .ok (.iconst 0, 1) := by decide +kernel
theorem dL_law_715 : decode cL_law 715 = .ok (.ireturn, 1) := by decide +kernel
theorem dL_law_716 : decode cL_law 716 = .ok (.aload_n 1, 1) := by decide +kernel
theorem dL_law_717 : decode cL_law 717 = .ok (.aload_n 0, 1) := by decide +kernel
theorem dL_law_718 : decode cL_law 718 = .ok (.iload_n 3, 1) := by decide +kernel
theorem dL_law_719 : decode cL_law 719 = .ok (.iconst 1, 1) := by decide +kernel
theorem dL_law_720 : decode cL_law 720 = .ok (.iadd, 1) := by decide +kernel
theorem dL_law_721 : decode cL_law 721 = .ok (.iaload, 1) := by decide +kernel
theorem dL_law_722 : decode cL_law 722 = .ok (.aload_n 0, 1) := by decide +kernel
theorem dL_law_723 : decode cL_law 723 = .ok (.iload_n 3, 1) := by decide +kernel
theorem dL_law_724 : decode cL_law 724 = .ok (.iconst 2, 1) := by decide +kernel
theorem dL_law_725 : decode cL_law 725 = .ok (.iadd, 1) := by decide +kernel
theorem dL_law_726 : decode cL_law 726 = .ok (.iaload, 1) := by decide +kernel
theorem dL_law_727 : decode cL_law 727 = .ok (.invokevirtual 84, 3) := by decide +kernel
theorem dL_law_730 : decode cL_law 730 = .ok (.aload_n 2, 1) := by decide +kernel
theorem dL_law_731 : decode cL_law 731 = .ok (.aload_n 0, 1) := by decide +kernel
theorem dL_law_732 : decode cL_law 732 = .ok (.iload_n 3, 1) := by decide +kernel
theorem dL_law_733 : decode cL_law 733 = .ok (.iconst 1, 1) := by decide +kernel
theorem dL_law_734 : decode cL_law 734 = .ok (.iadd, 1) := by decide +kernel
theorem dL_law_735 : decode cL_law 735 = .ok (.iaload, 1) := by decide +kernel
theorem dL_law_736 : decode cL_law 736 = .ok (.aload_n 0, 1) := by decide +kernel
theorem dL_law_737 : decode cL_law 737 = .ok (.iload_n 3, 1) := by decide +kernel
theorem dL_law_738 : decode cL_law 738 = .ok (.iconst 2, 1) := by decide +kernel
theorem dL_law_739 : decode cL_law 739 = .ok (.iadd, 1) := by decide +kernel
theorem dL_law_740 : decode cL_law 740 = .ok (.iaload, 1) := by decide +kernel
theorem dL_law_741 : decode cL_law 741 = .ok (.invokevirtual 87, 3) := by decide +kernel
theorem dL_law_744 : decode cL_law 744 = .ok (.if_icmp .eq 599, 3) := by decide +kernel
theorem dL_law_747 : decode cL_law 747 = .ok (.iconst 0, 1) := by decide +kernel
theorem dL_law_748 : decode cL_law 748 = .ok (.ireturn, 1) := by decide +kernel
theorem dL_law_749 : decode cL_law 749 = .ok (.aload_n 1, 1) := by decide +kernel
theorem dL_law_750 : decode cL_law 750 = .ok (.aload_n 0, 1) := by decide +kernel
theorem dL_law_751 : decode cL_law 751 = .ok (.iload_n 3, 1) := by decide +kernel
theorem dL_law_752 : decode cL_law 752 = .ok (.iconst 1, 1) := by decide +kernel
theorem dL_law_753 : decode cL_law 753 = .ok (.iadd, 1) := by decide +kernel
theorem dL_law_754 : decode cL_law 754 = .ok (.iaload, 1) := by decide +kernel
theorem dL_law_755 : decode cL_law 755 = .ok (.aload_n 0, 1) := by decide +kernel
theorem dL_law_756 : decode cL_law 756 = .ok (.iload_n 3, 1) := by decide +kernel
theorem dL_law_757 : decode cL_law 757 = .ok (.iconst 2, 1) := by decide +kernel
theorem dL_law_758 : decode cL_law 758 = .ok (.iadd, 1) := by decide +kernel
theorem dL_law_759 : decode cL_law 759 = .ok (.iaload, 1) := by decide +kernel
theorem dL_law_760 : decode cL_law 760 = .ok (.aload_n 0, 1) := by decide +kernel
theorem dL_law_761 : decode cL_law 761 = .ok (.iload_n 3, 1) := by decide +kernel
theorem dL_law_762 : decode cL_law 762 = .ok (.iconst 3, 1) := by decide +kernel
theorem dL_law_763 : decode cL_law 763 = .ok (.iadd, 1) := by decide +kernel
theorem dL_law_764 : decode cL_law 764 = .ok (.iaload, 1) := by decide +kernel
theorem dL_law_765 : decode cL_law 765 = .ok (.invokevirtual 88, 3) := by decide +kernel
theorem dL_law_768 : decode cL_law 768 = .ok (.aload_n 2, 1) := by decide +kernel
theorem dL_law_769 : decode cL_law 769 = .ok (.aload_n 0, 1) := by decide +kernel
theorem dL_law_770 : decode cL_law 770 = .ok (.iload_n 3, 1) := by decide +kernel
theorem dL_law_771 : decode cL_law 771 = .ok (.iconst 1, 1) := by decide +kernel
theorem dL_law_772 : decode cL_law 772 = .ok (.iadd, 1) := by decide +kernel
theorem dL_law_773 : decode cL_law 773 = .ok (.iaload, 1) := by decide +kernel
theorem dL_law_774 : decode cL_law 774 = .ok (.aload_n 0, 1) := by decide +kernel
theorem dL_law_775 : decode cL_law 775 = .ok (.iload_n 3, 1) := by decide +kernel
theorem dL_law_776 : decode cL_law 776 = .ok (.iconst 2, 1) := by decide +kernel
theorem dL_law_777 : decode cL_law 777 = .ok (.iadd, 1) := by decide +kernel
theorem dL_law_778 : decode cL_law 778 = .ok (.iaload, 1) := by decide +kernel
theorem dL_law_779 : decode cL_law 779 = .ok (.aload_n 0, 1) := by decide +kernel
theorem dL_law_780 : decode cL_law 780 = .ok (.iload_n 3, 1) := by decide +kernel
theorem dL_law_781 : decode cL_law 781 = .ok (.iconst 3, 1) := by decide +kernel
theorem dL_law_782 : decode cL_law 782 = .ok (.iadd, 1) := by decide +kernel
theorem dL_law_783 : decode cL_law 783 = .ok (.iaload, 1) := by decide +kernel
theorem dL_law_784 : decode cL_law 784 = .ok (.invokevirtual 91, 3) := by decide +kernel
theorem dL_law_787 : decode cL_law 787 = .ok (.if_icmp .eq 556, 3) := by decide +kernel
theorem dL_law_790 : decode cL_law 790 = .ok (.iconst 0, 1) := by decide +kernel
theorem dL_law_791 : decode cL_law 791 = .ok (.ireturn, 1) := by decide +kernel
theorem dL_law_792 : decode cL_law 792 = .ok (.aload_n 1, 1) := by decide +kernel
theorem dL_law_793 : decode cL_law 793 = .ok (.aload_n 0, 1) := by decide +kernel
theorem dL_law_794 : decode cL_law 794 = .ok (.iload_n 3, 1) := by decide +kernel
theorem dL_law_795 : decode cL_law 795 = .ok (.iconst 1, 1) := by decide +kernel
theorem dL_law_796 : decode cL_law 796 = .ok (.iadd, 1) := by decide +kernel
theorem dL_law_797 : decode cL_law 797 = .ok (.iaload, 1) := by decide +kernel
theorem dL_law_798 : decode cL_law 798 = .ok (.aload_n 0, 1) := by decide +kernel
theorem dL_law_799 : decode cL_law 799 = .ok (.iload_n 3, 1) := by decide +kernel
theorem dL_law_800 : decode cL_law 800 = .ok (.iconst 2, 1) := by decide +kernel
theorem dL_law_801 : decode cL_law 801 = .ok (.iadd, 1) := by decide +kernel
theorem dL_law_802 : decode cL_law 802 = .ok (.iaload, 1) := by decide +kernel
theorem dL_law_803 : decode cL_law 803 = .ok (.aload_n 0, 1) := by decide +kernel
theorem dL_law_804 : decode cL_law 804 = .ok (.iload_n 3, 1) := by decide +kernel
theorem dL_law_805 : decode cL_law 805 = .ok (.iconst 3, 1) := by decide +kernel
theorem dL_law_806 : decode cL_law 806 = .ok (.iadd, 1) := by decide +kernel
theorem dL_law_807 : decode cL_law 807 = .ok (.iaload, 1) := by decide +kernel
theorem dL_law_808 : decode cL_law 808 = .ok (.aload_n 0, 1) := by decide +kernel
theorem dL_law_809 : decode cL_law 809 = .ok (.iload_n 3, 1) := by decide +kernel
theorem dL_law_810 : decode cL_law 810 = .ok (.iconst 4, 1) := by decide +kernel
theorem dL_law_811 : decode cL_law 811 = .ok (.iadd, 1) := by decide +kernel
theorem dL_law_812 : decode cL_law 812 = .ok (.iaload, 1) := by decide +kernel
theorem dL_law_813 : decode cL_law 813 = .ok (.invokevirtual 92, 3) := by decide +kernel
theorem dL_law_816 : decode cL_law 816 = .ok (.aload_n 2, 1) := by decide +kernel
theorem dL_law_817 : decode cL_law 817 = .ok (.aload_n 0, 1) := by decide +kernel
theorem dL_law_818 : decode cL_law 818 = .ok (.iload_n 3, 1) := by decide +kernel
theorem dL_law_819 : decode cL_law 819 = .ok (.iconst 1, 1) := by decide +kernel
theorem dL_law_820 : decode cL_law 820 = .ok (.iadd, 1) := by decide +kernel
theorem dL_law_821 : decode cL_law 821 = .ok (.iaload, 1) := by decide +kernel
theorem dL_law_822 : decode cL_law 822 = .ok (.aload_n 0, 1) := by decide +kernel
theorem dL_law_823 : decode cL_law 823 = .ok (.iload_n 3, 1) := by decide +kernel
theorem dL_law_824 : decode cL_law 824 = .ok (.iconst 2, 1) := by decide +kernel
theorem dL_law_825 : decode cL_law 825 = .ok (.iadd, 1) := by decide +kernel
theorem dL_law_826 : decode cL_law 826 = .ok (.iaload, 1) := by decide +kernel
theorem dL_law_827 : decode cL_law 827 = .ok (.aload_n 0, 1) := by decide +kernel
theorem dL_law_828 : decode cL_law 828 = .ok (.iload_n 3, 1) := by decide +kernel
theorem dL_law_829 : decode cL_law 829 = .ok (.iconst 3, 1) := by decide +kernel
theorem dL_law_830 : decode cL_law 830 = .ok (.iadd, 1) := by decide +kernel
theorem dL_law_831 : decode cL_law 831 = .ok (.iaload, 1) := by decide +kernel
theorem dL_law_832 : decode cL_law 832 = .ok (.aload_n 0, 1) := by decide +kernel
theorem dL_law_833 : decode cL_law 833 = .ok (.iload_n 3, 1) := by decide +kernel
theorem dL_law_834 : decode cL_law 834 = .ok (.iconst 4, 1) := by decide +kernel
theorem dL_law_835 : decode cL_law 835 = .ok (.iadd, 1) := by decide +kernel
theorem dL_law_836 : decode cL_law 836 = .ok (.iaload, 1) := by decide +kernel
theorem dL_law_837 : decode cL_law 837 = .ok (.invokevirtual 95, 3) := by decide +kernel
theorem dL_law_840 : decode cL_law 840 = .ok (.if_icmp .eq 503, 3) := by decide +kernel
theorem dL_law_843 : decode cL_law 843 = .ok (.iconst 0, 1) := by decide +kernel
theorem dL_law_844 : decode cL_law 844 = .ok (.ireturn, 1) := by decide +kernel
theorem dL_law_845 : decode cL_law 845 = .ok (.aload_n 1, 1) := by decide +kernel
theorem dL_law_846 : decode cL_law 846 = .ok (.aload_n 0, 1) := by decide +kernel
theorem dL_law_847 : decode cL_law 847 = .ok (.iload_n 3, 1) := by decide +kernel
theorem dL_law_848 : decode cL_law 848 = .ok (.iconst 1, 1) := by decide +kernel
theorem dL_law_849 : decode cL_law 849 = .ok (.iadd, 1) := by decide +kernel
theorem dL_law_850 : decode cL_law 850 = .ok (.iaload, 1) := by decide +kernel
theorem dL_law_851 : decode cL_law 851 = .ok (.aload_n 0, 1) := by decide +kernel
theorem dL_law_852 : decode cL_law 852 = .ok (.iload_n 3, 1) := by decide +kernel
theorem dL_law_853 : decode cL_law 853 = .ok (.iconst 2, 1) := by decide +kernel
theorem dL_law_854 : decode cL_law 854 = .ok (.iadd, 1) := by decide +kernel
theorem dL_law_855 : decode cL_law 855 = .ok (.iaload, 1) := by decide +kernel
theorem dL_law_856 : decode cL_law 856 = .ok (.invokevirtual 96, 3) := by decide +kernel
theorem dL_law_859 : decode cL_law 859 = .ok (.aload_n 2, 1) := by decide +kernel
theorem dL_law_860 : decode cL_law 860 = .ok (.aload_n 0, 1) := by decide +kernel
theorem dL_law_861 : decode cL_law 861 = .ok (.iload_n 3, 1) := by decide +kernel
theorem dL_law_862 : decode cL_law 862 = .ok (.iconst 1, 1) := by decide +kernel
theorem dL_law_863 : decode cL_law 863 = .ok (.iadd, 1) := by decide +kernel
theorem dL_law_864 : decode cL_law 864 = .ok (.iaload, 1) := by decide +kernel
theorem dL_law_865 : decode cL_law 865 = .ok (.aload_n 0, 1) := by decide +kernel
theorem dL_law_866 : decode cL_law 866 = .ok (.iload_n 3, 1) := by decide +kernel
theorem dL_law_867 : decode cL_law 867 = .ok (.iconst 2, 1) := by decide +kernel
theorem dL_law_868 : decode cL_law 868 = .ok (.iadd, 1) := by decide +kernel
theorem dL_law_869 : decode cL_law 869 = .ok (.iaload, 1) := by decide +kernel
theorem dL_law_870 : decode cL_law 870 = .ok (.invokevirtual 99, 3) := by decide +kernel
theorem dL_law_873 : decode cL_law 873 = .ok (.if_icmp .eq 470, 3) := by decide +kernel
theorem dL_law_876 : decode cL_law 876 = .ok (.iconst 0, 1) := by decide +kernel
theorem dL_law_877 : decode cL_law 877 = .ok (.ireturn, 1) := by decide +kernel
theorem dL_law_878 : decode cL_law 878 = .ok (.aload_n 1, 1) := by decide +kernel
theorem dL_law_879 : decode cL_law 879 = .ok (.aload_n 0, 1) := by decide +kernel
theorem dL_law_880 : decode cL_law 880 = .ok (.iload_n 3, 1) := by decide +kernel
theorem dL_law_881 : decode cL_law 881 = .ok (.iconst 1, 1) := by decide +kernel
theorem dL_law_882 : decode cL_law 882 = .ok (.iadd, 1) := by decide +kernel
theorem dL_law_883 : decode cL_law 883 = .ok (.iaload, 1) := by decide +kernel
theorem dL_law_884 : decode cL_law 884 = .ok (.aload_n 0, 1) := by decide +kernel
theorem dL_law_885 : decode cL_law 885 = .ok (.iload_n 3, 1) := by decide +kernel
theorem dL_law_886 : decode cL_law 886 = .ok (.iconst 2, 1) := by decide +kernel
theorem dL_law_887 : decode cL_law 887 = .ok (.iadd, 1) := by decide +kernel
theorem dL_law_888 : decode cL_law 888 = .ok (.iaload, 1) := by decide +kernel
theorem dL_law_889 : decode cL_law 889 = .ok (.aload_n 0, 1) := by decide +kernel
theorem dL_law_890 : decode cL_law 890 = .ok (.iload_n 3, 1) := by decide +kernel
theorem dL_law_891 : decode cL_law 891 = .ok (.iconst 3, 1) := by decide +kernel
theorem dL_law_892 : decode cL_law 892 = .ok (.iadd, 1) := by decide +kernel
theorem dL_law_893 : decode cL_law 893 = .ok (.iaload, 1) := by decide +kernel
theorem dL_law_894 : decode cL_law 894 = .ok (.aload_n 0, 1) := by decide +kernel
theorem dL_law_895 : decode cL_law 895 = .ok (.iload_n 3, 1) := by decide +kernel
theorem dL_law_896 : decode cL_law 896 = .ok (.iconst 4, 1) := by decide +kernel
theorem dL_law_897 : decode cL_law 897 = .ok (.iadd, 1) := by decide +kernel
theorem dL_law_898 : decode cL_law 898 = .ok (.iaload, 1) := by decide +kernel
theorem dL_law_899 : decode cL_law 899 = .ok (.invokevirtual 100, 3) := by decide +kernel
theorem dL_law_902 : decode cL_law 902 = .ok (.aload_n 2, 1) := by decide +kernel
theorem dL_law_903 : decode cL_law 903 = .ok (.aload_n 0, 1) := by decide +kernel
theorem dL_law_904 : decode cL_law 904 = .ok (.iload_n 3, 1) := by decide +kernel
theorem dL_law_905 : decode cL_law 905 = .ok (.iconst 1, 1) := by decide +kernel
theorem dL_law_906 : decode cL_law 906 = .ok (.iadd, 1) := by decide +kernel
theorem dL_law_907 : decode cL_law 907 = .ok (.iaload, 1) := by decide +kernel
theorem dL_law_908 : decode cL_law 908 = .ok (.aload_n 0, 1) := by decide +kernel
theorem dL_law_909 : decode cL_law 909 = .ok (.iload_n 3, 1) := by decide +kernel
theorem dL_law_910 : decode cL_law 910 = .ok (.iconst 2, 1) := by decide +kernel
theorem dL_law_911 : decode cL_law 911 = .ok (.iadd, 1) := by decide +kernel
theorem dL_law_912 : decode cL_law 912 = .ok (.iaload, 1) := by decide +kernel
theorem dL_law_913 : decode cL_law 913 = .ok (.aload_n 0, 1) := by decide +kernel
theorem dL_law_914 : decode cL_law 914 = .ok (.iload_n 3, 1) := by decide +kernel
theorem dL_law_915 : decode cL_law 915 = .ok (.iconst 3, 1) := by decide +kernel
theorem dL_law_916 : decode cL_law 916 = .ok (.iadd, 1) := by decide +kernel
theorem dL_law_917 : decode cL_law 917 = .ok (.iaload, 1) := by decide +kernel
theorem dL_law_918 : decode cL_law 918 = .ok (.aload_n 0, 1) := by decide +kernel
theorem dL_law_919 : decode cL_law 919 = .ok (.iload_n 3, 1) := by decide +kernel
theorem dL_law_920 : decode cL_law 920 = .ok (.iconst 4, 1) := by decide +kernel
theorem dL_law_921 : decode cL_law 921 = .ok (.iadd, 1) := by decide +kernel
theorem dL_law_922 : decode cL_law 922 = .ok (.iaload, 1) := by decide +kernel
theorem dL_law_923 : decode cL_law 923 = .ok (.invokevirtual 103, 3) := by decide +kernel
theorem dL_law_926 : decode cL_law 926 = .ok (.if_icmp .eq 417, 3) := by decide +kernel
theorem dL_law_929 : decode cL_law 929 = .ok (.iconst 0, 1) := by decide +kernel
theorem dL_law_930 : decode cL_law 930 = .ok (.ireturn, 1) := by decide +kernel
theorem dL_law_931 : decode cL_law 931 = .ok (.aload_n 1, 1) := by decide +kernel
theorem dL_law_932 : decode cL_law 932 = .ok (.aload_n 0, 1) := by decide +kernel
theorem dL_law_933 : decode cL_law 933 = .ok (.iload_n 3, 1) := by decide +kernel
theorem dL_law_934 : decode cL_law 934 = .ok (.iconst 1, 1) := by decide +kernel
theorem dL_law_935 : decode cL_law 935 = .ok (.iadd, 1) := by decide +kernel
theorem dL_law_936 : decode cL_law 936 = .ok (.iaload, 1) := by decide +kernel
theorem dL_law_937 : decode cL_law 937 = .ok (.aload_n 0, 1) := by decide +kernel
theorem dL_law_938 : decode cL_law 938 = .ok (.iload_n 3, 1) := by decide +kernel
theorem dL_law_939 : decode cL_law 939 = .ok (.iconst 2, 1) := by decide +kernel
theorem dL_law_940 : decode cL_law 940 = .ok (.iadd, 1) := by decide +kernel
theorem dL_law_941 : decode cL_law 941 = .ok (.iaload, 1) := by decide +kernel
theorem dL_law_942 : decode cL_law 942 = .ok (.aload_n 0, 1) := by decide +kernel
theorem dL_law_943 : decode cL_law 943 = .ok (.iload_n 3, 1) := by decide +kernel
theorem dL_law_944 : decode cL_law 944 = .ok (.iconst 3, 1) := by decide +kernel
theorem dL_law_945 : decode cL_law 945 = .ok (.iadd, 1) := by decide +kernel
theorem dL_law_946 : decode cL_law 946 = .ok (.iaload, 1) := by decide +kernel
theorem dL_law_947 : decode cL_law 947 = .ok (.invokevirtual 104, 3) := by decide +kernel
theorem dL_law_950 : decode cL_law 950 = .ok (.aload_n 2, 1) := by decide +kernel
theorem dL_law_951 : decode cL_law 951 = .ok (.aload_n 0, 1) := by decide +kernel
theorem dL_law_952 : decode cL_law 952 = .ok (.iload_n 3, 1) := by decide +kernel
theorem dL_law_953 : decode cL_law 953 = .ok (.iconst 1, 1) := by decide +kernel
theorem dL_law_954 : decode cL_law 954 = .ok (.iadd, 1) := by decide +kernel
theorem dL_law_955 : decode cL_law 955 = .ok (.iaload, 1) := by decide +kernel
theorem dL_law_956 : decode cL_law 956 = .ok (.aload_n 0, 1) := by decide +kernel
theorem dL_law_957 : decode cL_law 957 = .ok (.iload_n 3, 1) := by decide +kernel
theorem dL_law_958 : decode cL_law 958 = .ok (.iconst 2, 1) := by decide +kernel
theorem dL_law_959 : decode cL_law 959 = .ok (.iadd, 1) := by decide +kernel
theorem dL_law_960 : decode cL_law 960 = .ok (.iaload, 1) := by decide +kernel
theorem dL_law_961 : decode cL_law 961 = .ok (.aload_n 0, 1) := by decide +kernel
theorem dL_law_962 : decode cL_law 962 = .ok (.iload_n 3, 1) := by decide +kernel
theorem dL_law_963 : decode cL_law 963 = .ok (.iconst 3, 1) := by decide +kernel
theorem dL_law_964 : decode cL_law 964 = .ok (.iadd, 1) := by decide +kernel
theorem dL_law_965 : decode cL_law 965 = .ok (.iaload, 1) := by decide +kernel
theorem dL_law_966 : decode cL_law 966 = .ok (.invokevirtual 107, 3) := by decide +kernel
theorem dL_law_969 : decode cL_law 969 = .ok (.if_icmp .eq 374, 3) := by decide +kernel
theorem dL_law_972 : decode cL_law 972 = .ok (.iconst 0, 1) := by decide +kernel
theorem dL_law_973 : decode cL_law 973 = .ok (.ireturn, 1) := by decide +kernel
theorem dL_law_974 : decode cL_law 974 = .ok (.aload_n 1, 1) := by decide +kernel
theorem dL_law_975 : decode cL_law 975 = .ok (.aload_n 0, 1) := by decide +kernel
theorem dL_law_976 : decode cL_law 976 = .ok (.iload_n 3, 1) := by decide +kernel
theorem dL_law_977 : decode cL_law 977 = .ok (.iconst 1, 1) := by decide +kernel
theorem dL_law_978 : decode cL_law 978 = .ok (.iadd, 1) := by decide +kernel
theorem dL_law_979 : decode cL_law 979 = .ok (.iaload, 1) := by decide +kernel
theorem dL_law_980 : decode cL_law 980 = .ok (.aload_n 0, 1) := by decide +kernel
theorem dL_law_981 : decode cL_law 981 = .ok (.iload_n 3, 1) := by decide +kernel
theorem dL_law_982 : decode cL_law 982 = .ok (.iconst 2, 1) := by decide +kernel
theorem dL_law_983 : decode cL_law 983 = .ok (.iadd, 1) := by decide +kernel
theorem dL_law_984 : decode cL_law 984 = .ok (.iaload, 1) := by decide +kernel
theorem dL_law_985 : decode cL_law 985 = .ok (.aload_n 0, 1) := by decide +kernel
theorem dL_law_986 : decode cL_law 986 = .ok (.iload_n 3, 1) := by decide +kernel
theorem dL_law_987 : decode cL_law 987 = .ok (.iconst 3, 1) := by decide +kernel
theorem dL_law_988 : decode cL_law 988 = .ok (.iadd, 1) := by decide +kernel
theorem dL_law_989 : decode cL_law 989 = .ok (.iaload, 1) := by decide +kernel
theorem dL_law_990 : decode cL_law 990 = .ok (.invokevirtual 108, 3) := by decide +kernel
theorem dL_law_993 : decode cL_law 993 = .ok (.aload_n 2, 1) := by decide +kernel
theorem dL_law_994 : decode cL_law 994 = .ok (.aload_n 0, 1) := by decide +kernel
theorem dL_law_995 : decode cL_law 995 = .ok (.iload_n 3, 1) := by decide +kernel
theorem dL_law_996 : decode cL_law 996 = .ok (.iconst 1, 1) := by decide +kernel
theorem dL_law_997 : decode cL_law 997 = .ok (.iadd, 1) := by decide +kernel
theorem dL_law_998 : decode cL_law 998 = .ok (.iaload, 1) := by decide +kernel
theorem dL_law_999 : decode cL_law 999 = .ok (.aload_n 0, 1) := by decide +kernel
theorem dL_law_1000 : decode cL_law 1000 = .ok (.iload_n 3, 1) := by decide +kernel
theorem dL_law_1001 : decode cL_law 1001 = .ok (.iconst 2, 1) := by decide +kernel
theorem dL_law_1002 : decode cL_law 1002 = .ok (.iadd, 1) := by decide +kernel
theorem dL_law_1003 : decode cL_law 1003 = .ok (.iaload, 1) := by decide +kernel
theorem dL_law_1004 : decode cL_law 1004 = .ok (.aload_n 0, 1) := by decide +kernel
theorem dL_law_1005 : decode cL_law 1005 = .ok (.iload_n 3, 1) := by decide +kernel
theorem dL_law_1006 : decode cL_law 1006 = .ok (.iconst 3, 1) := by decide +kernel
theorem dL_law_1007 : decode cL_law 1007 = .ok (.iadd, 1) := by decide +kernel
theorem dL_law_1008 : decode cL_law 1008 = .ok (.iaload, 1) := by decide +kernel
theorem dL_law_1009 : decode cL_law 1009 = .ok (.invokevirtual 111, 3) := by decide +kernel
theorem dL_law_1012 : decode cL_law 1012 = .ok (.if_icmp .eq 331, 3) := by decide +kernel
theorem dL_law_1015 : decode cL_law 1015 = .ok (.iconst 0, 1) := by decide +kernel
theorem dL_law_1016 : decode cL_law 1016 = .ok (.ireturn, 1) := by decide +kernel
theorem dL_law_1017 : decode cL_law 1017 = .ok (.aload_n 1, 1) := by decide +kernel
theorem dL_law_1018 : decode cL_law 1018 = .ok (.aload_n 0, 1) := by decide +kernel
theorem dL_law_1019 : decode cL_law 1019 = .ok (.iload_n 3, 1) := by decide +kernel
theorem dL_law_1020 : decode cL_law 1020 = .ok (.iconst 1, 1) := by decide +kernel
theorem dL_law_1021 : decode cL_law 1021 = .ok (.iadd, 1) := by decide +kernel
theorem dL_law_1022 : decode cL_law 1022 = .ok (.iaload, 1) := by decide +kernel
theorem dL_law_1023 : decode cL_law 1023 = .ok (.invokevirtual 112, 3) := by decide +kernel
theorem dL_law_1026 : decode cL_law 1026 = .ok (.aload_n 2, 1) := by decide +kernel
theorem dL_law_1027 : decode cL_law 1027 = .ok (.aload_n 0, 1) := by decide +kernel
theorem dL_law_1028 : decode cL_law 1028 = .ok (.iload_n 3, 1) := by decide +kernel
theorem dL_law_1029 : decode cL_law 1029 = .ok (.iconst 1, 1) := by decide +kernel
theorem dL_law_1030 : decode cL_law 1030 = .ok (.iadd, 1) := by decide +kernel
theorem dL_law_1031 : decode cL_law 1031 = .ok (.iaload, 1) := by decide +kernel
theorem dL_law_1032 : decode cL_law 1032 = .ok (.invokevirtual 115, 3) := by decide +kernel
theorem dL_law_1035 : decode cL_law 1035 = .ok (.if_icmp .eq 308, 3) := by decide +kernel
theorem dL_law_1038 : decode cL_law 1038 = .ok (.iconst 0, 1) := by decide +kernel
theorem dL_law_1039 : decode cL_law 1039 = .ok (.ireturn, 1) := by decide +kernel
theorem dL_law_1040 : decode cL_law 1040 = .ok (.aload_n 1, 1) := by decide +kernel
theorem dL_law_1041 : decode cL_law 1041 = .ok (.aload_n 0, 1) := by decide +kernel
theorem dL_law_1042 : decode cL_law 1042 = .ok (.iload_n 3, 1) := by decide +kernel
theorem dL_law_1043 : decode cL_law 1043 = .ok (.iconst 1, 1) := by decide +kernel
theorem dL_law_1044 : decode cL_law 1044 = .ok (.iadd, 1) := by decide +kernel
theorem dL_law_1045 : decode cL_law 1045 = .ok (.iaload, 1) := by decide +kernel
theorem dL_law_1046 : decode cL_law 1046 = .ok (.aload_n 0, 1) := by decide +kernel
theorem dL_law_1047 : decode cL_law 1047 = .ok (.iload_n 3, 1) := by decide +kernel
theorem dL_law_1048 : decode cL_law 1048 = .ok (.iconst 2, 1) := by decide +kernel
theorem dL_law_1049 : decode cL_law 1049 = .ok (.iadd, 1) := by decide +kernel
theorem dL_law_1050 : decode cL_law 1050 = .ok (.iaload, 1) := by decide +kernel
theorem dL_law_1051 : decode cL_law 1051 = .ok (.aload_n 0, 1) := by decide +kernel
theorem dL_law_1052 : decode cL_law 1052 = .ok (.iload_n 3, 1) := by decide +kernel
theorem dL_law_1053 : decode cL_law 1053 = .ok (.iconst 3, 1) := by decide +kernel
theorem dL_law_1054 : decode cL_law 1054 = .ok (.iadd, 1) := by decide +kernel
theorem dL_law_1055 : decode cL_law 1055 = .ok (.iaload, 1) := by decide +kernel
theorem dL_law_1056 : decode cL_law 1056 = .ok (.invokevirtual 116, 3) := by decide +kernel
theorem dL_law_1059 : decode cL_law 1059 = .ok (.aload_n 2, 1) := by decide +kernel
theorem dL_law_1060 : decode cL_law 1060 = .ok (.aload_n 0, 1) := by decide +kernel
theorem dL_law_1061 : decode cL_law 1061 = .ok (.iload_n 3, 1) := by decide +kernel
theorem dL_law_1062 : decode cL_law 1062 = .ok (.iconst 1, 1) := by decide +kernel
theorem dL_law_1063 : decode cL_law 1063 = .ok (.iadd, 1) := by decide +kernel
theorem dL_law_1064 : decode cL_law 1064 = .ok (.iaload, 1) := by decide +kernel
theorem dL_law_1065 : decode cL_law 1065 = .ok (.aload_n 0, 1) := by decide +kernel
theorem dL_law_1066 : decode cL_law 1066 = .ok (.iload_n 3, 1) := by decide +kernel
theorem dL_law_1067 : decode cL_law 1067 = .ok (.iconst 2, 1) := by decide +kernel
theorem dL_law_1068 : decode cL_law 1068 = .ok (.iadd, 1) := by decide +kernel
theorem dL_law_1069 : decode cL_law 1069 = .ok (.iaload, 1) := by decide +kernel
theorem dL_law_1070 : decode cL_law 1070 = .ok (.aload_n 0, 1) := by decide +kernel
theorem dL_law_1071 : decode cL_law 1071 = .ok (.iload_n 3, 1) := by decide +kernel
theorem dL_law_1072 : decode cL_law 1072 = .ok (.iconst 3, 1) := by decide +kernel
theorem dL_law_1073 : decode cL_law 1073 = .ok (.iadd, 1) := by decide +kernel
theorem dL_law_1074 : decode cL_law 1074 = .ok (.iaload, 1) := by decide +kernel
theorem dL_law_1075 : decode cL_law 1075 = .ok (.invokevirtual 119, 3) := by decide +kernel
theorem dL_law_1078 : decode cL_law 1078 = .ok (.if_icmp .eq 265, 3) := by decide +kernel
theorem dL_law_1081 : decode cL_law 1081 = .ok (.iconst 0, 1) := by decide +kernel
theorem dL_law_1082 : decode cL_law 1082 = .ok (.ireturn, 1) := by decide +kernel
theorem dL_law_1083 : decode cL_law 1083 = .ok (.aload_n 1, 1) := by decide +kernel
theorem dL_law_1084 : decode cL_law 1084 = .ok (.aload_n 0, 1) := by decide +kernel
theorem dL_law_1085 : decode cL_law 1085 = .ok (.iload_n 3, 1) := by decide +kernel
theorem dL_law_1086 : decode cL_law 1086 = .ok (.iconst 1, 1) := by decide +kernel
theorem dL_law_1087 : decode cL_law 1087 = .ok (.iadd, 1) := by decide +kernel
theorem dL_law_1088 : decode cL_law 1088 = .ok (.iaload, 1) := by decide +kernel
theorem dL_law_1089 : decode cL_law 1089 = .ok (.aload_n 0, 1) := by decide +kernel
theorem dL_law_1090 : decode cL_law 1090 = .ok (.iload_n 3, 1) := by decide +kernel
theorem dL_law_1091 : decode cL_law 1091 = .ok (.iconst 2, 1) := by decide +kernel
theorem dL_law_1092 : decode cL_law 1092 = .ok (.iadd, 1) := by decide +kernel
theorem dL_law_1093 : decode cL_law 1093 = .ok (.iaload, 1) := by decide +kernel
theorem dL_law_1094 : decode cL_law 1094 = .ok (.aload_n 0, 1) := by decide +kernel
theorem dL_law_1095 : decode cL_law 1095 = .ok (.iload_n 3, 1) := by decide +kernel
theorem dL_law_1096 : decode cL_law 1096 = .ok (.iconst 3, 1) := by decide +kernel
theorem dL_law_1097 : decode cL_law 1097 = .ok (.iadd, 1) := by decide +kernel
theorem dL_law_1098 : decode cL_law 1098 = .ok (.iaload, 1) := by decide +kernel
theorem dL_law_1099 : decode cL_law 1099 = .ok (.invokevirtual 120, 3) := by decide +kernel
theorem dL_law_1102 : decode cL_law 1102 = .ok (.aload_n 2, 1) := by decide +kernel
theorem dL_law_1103 : decode cL_law 1103 = .ok (.aload_n 0, 1) := by decide +kernel
theorem dL_law_1104 : decode cL_law 1104 = .ok (.iload_n 3, 1) := by decide +kernel
theorem dL_law_1105 : decode cL_law 1105 = .ok (.iconst 1, 1) := by decide +kernel
theorem dL_law_1106 : decode cL_law 1106 = .ok (.iadd, 1) := by decide +kernel
theorem dL_law_1107 : decode cL_law 1107 = .ok (.iaload, 1) := by decide +kernel
theorem dL_law_1108 : decode cL_law 1108 = .ok (.aload_n 0, 1) := by decide +kernel
theorem dL_law_1109 : decode cL_law 1109 = .ok (.iload_n 3, 1) := by decide +kernel
theorem dL_law_1110 : decode cL_law 1110 = .ok (.iconst 2, 1) := by decide +kernel
theorem dL_law_1111 : decode cL_law 1111 = .ok (.iadd, 1) := by decide +kernel
theorem dL_law_1112 : decode cL_law 1112 = .ok (.iaload, 1) := by decide +kernel
theorem dL_law_1113 : decode cL_law 1113 = .ok (.aload_n 0, 1) := by decide +kernel
theorem dL_law_1114 : decode cL_law 1114 = .ok (.iload_n 3, 1) := by decide +kernel
theorem dL_law_1115 : decode cL_law 1115 = .ok (.iconst 3, 1) := by decide +kernel
theorem dL_law_1116 : decode cL_law 1116 = .ok (.iadd, 1) := by decide +kernel
theorem dL_law_1117 : decode cL_law 1117 = .ok (.iaload, 1) := by decide +kernel
theorem dL_law_1118 : decode cL_law 1118 = .ok (.invokevirtual 123, 3) := by decide +kernel
theorem dL_law_1121 : decode cL_law 1121 = .ok (.if_icmp .eq 222, 3) := by decide +kernel
theorem dL_law_1124 : decode cL_law 1124 = .ok (.iconst 0, 1) := by decide +kernel
theorem dL_law_1125 : decode cL_law 1125 = .ok (.ireturn, 1) := by decide +kernel
theorem dL_law_1126 : decode cL_law 1126 = .ok (.aload_n 1, 1) := by decide +kernel
theorem dL_law_1127 : decode cL_law 1127 = .ok (.aload_n 0, 1) := by decide +kernel
theorem dL_law_1128 : decode cL_law 1128 = .ok (.iload_n 3, 1) := by decide +kernel
theorem dL_law_1129 : decode cL_law 1129 = .ok (.iconst 1, 1) := by decide +kernel
theorem dL_law_1130 : decode cL_law 1130 = .ok (.iadd, 1) := by decide +kernel
theorem dL_law_1131 : decode cL_law 1131 = .ok (.iaload, 1) := by decide +kernel
theorem dL_law_1132 : decode cL_law 1132 = .ok (.aload_n 0, 1) := by decide +kernel
theorem dL_law_1133 : decode cL_law 1133 = .ok (.iload_n 3, 1) := by decide +kernel
theorem dL_law_1134 : decode cL_law 1134 = .ok (.iconst 2, 1) := by decide +kernel
theorem dL_law_1135 : decode cL_law 1135 = .ok (.iadd, 1) := by decide +kernel
theorem dL_law_1136 : decode cL_law 1136 = .ok (.iaload, 1) := by decide +kernel
theorem dL_law_1137 : decode cL_law 1137 = .ok (.aload_n 0, 1) := by decide +kernel
theorem dL_law_1138 : decode cL_law 1138 = .ok (.iload_n 3, 1) := by decide +kernel
theorem dL_law_1139 : decode cL_law 1139 = .ok (.iconst 3, 1) := by decide +kernel
theorem dL_law_1140 : decode cL_law 1140 = .ok (.iadd, 1) := by decide +kernel
theorem dL_law_1141 : decode cL_law 1141 = .ok (.iaload, 1) := by decide +kernel
theorem dL_law_1142 : decode cL_law 1142 = .ok (.aload_n 0, 1) := by decide +kernel
theorem dL_law_1143 : decode cL_law 1143 = .ok (.iload_n 3, 1) := by decide +kernel
theorem dL_law_1144 : decode cL_law 1144 = .ok (.iconst 4, 1) := by decide +kernel
theorem dL_law_1145 : decode cL_law 1145 = .ok (.iadd, 1) := by decide +kernel
theorem dL_law_1146 : decode cL_law 1146 = .ok (.iaload, 1) := by decide +kernel
theorem dL_law_1147 : decode cL_law 1147 = .ok (.aload_n 0, 1) := by decide +kernel
theorem dL_law_1148 : decode cL_law 1148 = .ok (.iload_n 3, 1) := by decide +kernel
theorem dL_law_1149 : decode cL_law 1149 = .ok (.iconst 5, 1) := by decide +kernel
theorem dL_law_1150 : decode cL_law 1150 = .ok (.iadd, 1) := by decide +kernel
theorem dL_law_1151 : decode cL_law 1151 = .ok (.iaload, 1) := by decide +kernel
theorem dL_law_1152 : decode cL_law 1152 = .ok (.invokevirtual 124, 3) := by decide +kernel
theorem dL_law_1155 : decode cL_law 1155 = .ok (.aload_n 2, 1) := by decide +kernel
theorem dL_law_1156 : decode cL_law 1156 = .ok (.aload_n 0, 1) := by decide +kernel
theorem dL_law_1157 : decode cL_law 1157 = .ok (.iload_n 3, 1) := by decide +kernel
theorem dL_law_1158 : decode cL_law 1158 = .ok (.iconst 1, 1) := by decide +kernel
theorem dL_law_1159 : decode cL_law 1159 = .ok (.iadd, 1) := by decide +kernel
theorem dL_law_1160 : decode cL_law 1160 = .ok (.iaload, 1) := by decide +kernel
theorem dL_law_1161 : decode cL_law 1161 = .ok (.aload_n 0, 1) := by decide +kernel
theorem dL_law_1162 : decode cL_law 1162 = .ok (.iload_n 3, 1) := by decide +kernel
theorem dL_law_1163 : decode cL_law 1163 = .ok (.iconst 2, 1) := by decide +kernel
theorem dL_law_1164 : decode cL_law 1164 = .ok (.iadd, 1) := by decide +kernel
theorem dL_law_1165 : decode cL_law 1165 = .ok (.iaload, 1) := by decide +kernel
theorem dL_law_1166 : decode cL_law 1166 = .ok (.aload_n 0, 1) := by decide +kernel
theorem dL_law_1167 : decode cL_law 1167 = .ok (.iload_n 3, 1) := by decide +kernel
theorem dL_law_1168 : decode cL_law 1168 = .ok (.iconst 3, 1) := by decide +kernel
theorem dL_law_1169 : decode cL_law 1169 = .ok (.iadd, 1) := by decide +kernel
theorem dL_law_1170 : decode cL_law 1170 = .ok (.iaload, 1) := by decide +kernel
theorem dL_law_1171 : decode cL_law 1171 = .ok (.aload_n 0, 1) := by decide +kernel
theorem dL_law_1172 : decode cL_law 1172 = .ok (.iload_n 3, 1) := by decide +kernel
theorem dL_law_1173 : decode cL_law 1173 = .ok (.iconst 4, 1) := by decide +kernel
theorem dL_law_1174 : decode cL_law 1174 = .ok (.iadd, 1) := by decide +kernel
theorem dL_law_1175 : decode cL_law 1175 = .ok (.iaload, 1) := by decide +kernel
theorem dL_law_1176 : decode cL_law 1176 = .ok (.aload_n 0, 1) := by decide +kernel
theorem dL_law_1177 : decode cL_law 1177 = .ok (.iload_n 3, 1) := by decide +kernel
theorem dL_law_1178 : decode cL_law 1178 = .ok (.iconst 5, 1) := by decide +kernel
theorem dL_law_1179 : decode cL_law 1179 = .ok (.iadd, 1) := by decide +kernel
theorem dL_law_1180 : decode cL_law 1180 = .ok (.iaload, 1) := by decide +kernel
theorem dL_law_1181 : decode cL_law 1181 = .ok (.invokevirtual 128, 3) := by decide +kernel
theorem dL_law_1184 : decode cL_law 1184 = .ok (.if_icmp .eq 159, 3) := by decide +kernel
theorem dL_law_1187 : decode cL_law 1187 = .ok (.iconst 0, 1) := by decide +kernel
theorem dL_law_1188 : decode cL_law 1188 = .ok (.ireturn, 1) := by decide +kernel
theorem dL_law_1189 : decode cL_law 1189 = .ok (.aload_n 1, 1) := by decide +kernel
theorem dL_law_1190 : decode cL_law 1190 = .ok (.aload_n 0, 1) := by decide +kernel
theorem dL_law_1191 : decode cL_law 1191 = .ok (.iload_n 3, 1) := by decide +kernel
theorem dL_law_1192 : decode cL_law 1192 = .ok (.iconst 1, 1) := by decide +kernel
theorem dL_law_1193 : decode cL_law 1193 = .ok (.iadd, 1) := by decide +kernel
theorem dL_law_1194 : decode cL_law 1194 = .ok (.iaload, 1) := by decide +kernel
theorem dL_law_1195 : decode cL_law 1195 = .ok (.invokevirtual 129, 3) := by decide +kernel
theorem dL_law_1198 : decode cL_law 1198 = .ok (.aload_n 2, 1) := by decide +kernel
theorem dL_law_1199 : decode cL_law 1199 = .ok (.aload_n 0, 1) := by decide +kernel
theorem dL_law_1200 : decode cL_law 1200 = .ok (.iload_n 3, 1) := by decide +kernel
theorem dL_law_1201 : decode cL_law 1201 = .ok (.iconst 1, 1) := by decide +kernel
theorem dL_law_1202 : decode cL_law 1202 = .ok (.iadd, 1) := by decide +kernel
theorem dL_law_1203 : decode cL_law 1203 = .ok (.iaload, 1) := by decide +kernel
theorem dL_law_1204 : decode cL_law 1204 = .ok (.invokevirtual 132, 3) := by decide +kernel
theorem dL_law_1207 : decode cL_law 1207 = .ok (.if_icmp .eq 136, 3) := by decide +kernel
theorem dL_law_1210 : decode cL_law 1210 = .ok (.iconst 0, 1) := by decide +kernel
theorem dL_law_1211 : decode cL_law 1211 = .ok (.ireturn, 1) := by decide +kernel
theorem dL_law_1212 : decode cL_law 1212 = .ok (.aload_n 1, 1) := by decide +kernel
theorem dL_law_1213 : decode cL_law 1213 = .ok (.aload_n 0, 1) := by decide +kernel
theorem dL_law_1214 : decode cL_law 1214 = .ok (.iload_n 3, 1) := by decide +kernel
theorem dL_law_1215 : decode cL_law 1215 = .ok (.iconst 1, 1) := by decide +kernel
theorem dL_law_1216 : decode cL_law 1216 = .ok (.iadd, 1) := by decide +kernel
theorem dL_law_1217 : decode cL_law 1217 = .ok (.iaload, 1) := by decide +kernel
theorem dL_law_1218 : decode cL_law 1218 = .ok (.invokevirtual 133, 3) := by decide +kernel
theorem dL_law_1221 : decode cL_law 1221 = .ok (.aload_n 2, 1) := by decide +kernel
theorem dL_law_1222 : decode cL_law 1222 = .ok (.aload_n 0, 1) := by decide +kernel
theorem dL_law_1223 : decode cL_law 1223 = .ok (.iload_n 3, 1) := by decide +kernel
theorem dL_law_1224 : decode cL_law 1224 = .ok (.iconst 1, 1) := by decide +kernel
theorem dL_law_1225 : decode cL_law 1225 = .ok (.iadd, 1) := by decide +kernel
theorem dL_law_1226 : decode cL_law 1226 = .ok (.iaload, 1) := by decide +kernel
theorem dL_law_1227 : decode cL_law 1227 = .ok (.invokevirtual 136, 3) := by decide +kernel
theorem dL_law_1230 : decode cL_law 1230 = .ok (.if_icmp .eq 113, 3) := by decide +kernel
theorem dL_law_1233 : decode cL_law 1233 = .ok (.iconst 0, 1) := by decide +kernel
theorem dL_law_1234 : decode cL_law 1234 = .ok (.ireturn, 1) := by decide +kernel
theorem dL_law_1235 : decode cL_law 1235 = .ok (.aload_n 1, 1) := by decide +kernel
theorem dL_law_1236 : decode cL_law 1236 = .ok (.invokevirtual 137, 3) := by decide +kernel
theorem dL_law_1239 : decode cL_law 1239 = .ok (.aload_n 2, 1) := by decide +kernel
theorem dL_law_1240 : decode cL_law 1240 = .ok (.invokevirtual 141, 3) := by decide +kernel
theorem dL_law_1243 : decode cL_law 1243 = .ok (.if_icmp .eq 100, 3) := by decide +kernel
theorem dL_law_1246 : decode cL_law 1246 = .ok (.iconst 0, 1) := by decide +kernel
theorem dL_law_1247 : decode cL_law 1247 = .ok (.ireturn, 1) := by decide +kernel
theorem dL_law_1248 : decode cL_law 1248 = .ok (.aload_n 1, 1) := by decide +kernel
theorem dL_law_1249 : decode cL_law 1249 = .ok (.invokevirtual 142, 3) := by decide +kernel
theorem dL_law_1252 : decode cL_law 1252 = .ok (.aload_n 2, 1) := by decide +kernel
theorem dL_law_1253 : decode cL_law 1253 = .ok (.invokevirtual 145, 3) := by decide +kernel
theorem dL_law_1256 : decode cL_law 1256 = .ok (.if_icmp .eq 87, 3) := by decide +kernel
theorem dL_law_1259 : decode cL_law 1259 = .ok (.iconst 0, 1) := by decide +kernel
theorem dL_law_1260 : decode cL_law 1260 = .ok (.ireturn, 1) := by decide +kernel
theorem dL_law_1261 : decode cL_law 1261 = .ok (.aload_n 1, 1) := by decide +kernel
theorem dL_law_1262 : decode cL_law 1262 = .ok (.aload_n 0, 1) := by decide +kernel
theorem dL_law_1263 : decode cL_law 1263 = .ok (.iload_n 3, 1) := by decide +kernel
theorem dL_law_1264 : decode cL_law 1264 = .ok (.iconst 1, 1) := by decide +kernel
theorem dL_law_1265 : decode cL_law 1265 = .ok (.iadd, 1) := by decide +kernel
theorem dL_law_1266 : decode cL_law 1266 = .ok (.iaload, 1) := by decide +kernel
theorem dL_law_1267 : decode cL_law 1267 = .ok (.invokevirtual 146, 3) := by decide +kernel
theorem dL_law_1270 : decode cL_law 1270 = .ok (.aload_n 2, 1) := by decide +kernel
theorem dL_law_1271 : decode cL_law 1271 = .ok (.aload_n 0, 1) := by decide +kernel
theorem dL_law_1272 : decode cL_law 1272 = .ok (.iload_n 3, 1) := by decide +kernel
theorem dL_law_1273 : decode cL_law 1273 = .ok (.iconst 1, 1) := by decide +kernel
theorem dL_law_1274 : decode cL_law 1274 = .ok (.iadd, 1) := by decide +kernel
theorem dL_law_1275 : decode cL_law 1275 = .ok (.iaload, 1) := by decide +kernel
theorem dL_law_1276 : decode cL_law 1276 = .ok (.invokevirtual 149, 3) := by decide +kernel
theorem dL_law_1279 : decode cL_law 1279 = .ok (.if_icmp .eq 64, 3) := by decide +kernel
theorem dL_law_1282 : decode cL_law 1282 = .ok (.iconst 0, 1) := by decide +kernel
theorem dL_law_1283 : decode cL_law 1283 = .ok (.ireturn, 1) := by decide +kernel
theorem dL_law_1284 : decode cL_law 1284 = .ok (.aload_n 1, 1) := by decide +kernel
theorem dL_law_1285 : decode cL_law 1285 = .ok (.invokevirtual 150, 3) := by decide +kernel
theorem dL_law_1288 : decode cL_law 1288 = .ok (.aload_n 2, 1) := by decide +kernel
theorem dL_law_1289 : decode cL_law 1289 = .ok (.invokevirtual 153, 3) := by decide +kernel
theorem dL_law_1292 : decode cL_law 1292 = .ok (.if_icmp .eq 51, 3) := by decide +kernel
theorem dL_law_1295 : decode cL_law 1295 = .ok (.iconst 0, 1) := by decide +kernel
theorem dL_law_1296 : decode cL_law 1296 = .ok (.ireturn, 1) := by decide +kernel
theorem dL_law_1297 : decode cL_law 1297 = .ok (.aload_n 1, 1) := by decide +kernel
theorem dL_law_1298 : decode cL_law 1298 = .ok (.aload_n 0, 1) := by decide +kernel
theorem dL_law_1299 : decode cL_law 1299 = .ok (.iload_n 3, 1) := by decide +kernel
theorem dL_law_1300 : decode cL_law 1300 = .ok (.iconst 1, 1) := by decide +kernel
theorem dL_law_1301 : decode cL_law 1301 = .ok (.iadd, 1) := by decide +kernel
theorem dL_law_1302 : decode cL_law 1302 = .ok (.iaload, 1) := by decide +kernel
theorem dL_law_1303 : decode cL_law 1303 = .ok (.invokevirtual 154, 3) := by decide +kernel
theorem dL_law_1306 : decode cL_law 1306 = .ok (.aload_n 2, 1) := by decide +kernel
theorem dL_law_1307 : decode cL_law 1307 = .ok (.aload_n 0, 1) := by decide +kernel
theorem dL_law_1308 : decode cL_law 1308 = .ok (.iload_n 3, 1) := by decide +kernel
theorem dL_law_1309 : decode cL_law 1309 = .ok (.iconst 1, 1) := by decide +kernel
theorem dL_law_1310 : decode cL_law 1310 = .ok (.iadd, 1) := by decide +kernel
theorem dL_law_1311 : decode cL_law 1311 = .ok (.iaload, 1) := by decide +kernel
theorem dL_law_1312 : decode cL_law 1312 = .ok (.invokevirtual 157, 3) := by decide +kernel
theorem dL_law_1315 : decode cL_law 1315 = .ok (.if_icmp .eq 28, 3) := by decide +kernel
theorem dL_law_1318 : decode cL_law 1318 = .ok (.iconst 0, 1) := by decide +kernel
theorem dL_law_1319 : decode cL_law 1319 = .ok (.ireturn, 1) := by decide +kernel
theorem dL_law_1320 : decode cL_law 1320 = .ok (.aload_n 1, 1) := by decide +kernel
theorem dL_law_1321 : decode cL_law 1321 = .ok (.aload_n 0, 1) := by decide +kernel
theorem dL_law_1322 : decode cL_law 1322 = .ok (.iload_n 3, 1) := by decide +kernel
theorem dL_law_1323 : decode cL_law 1323 = .ok (.iconst 1, 1) := by decide +kernel
theorem dL_law_1324 : decode cL_law 1324 = .ok (.iadd, 1) := by decide +kernel
theorem dL_law_1325 : decode cL_law 1325 = .ok (.iaload, 1) := by decide +kernel
theorem dL_law_1326 : decode cL_law 1326 = .ok (.invokevirtual 158, 3) := by decide +kernel
theorem dL_law_1329 : decode cL_law 1329 = .ok (.aload_n 2, 1) := by decide +kernel
theorem dL_law_1330 : decode cL_law 1330 = .ok (.aload_n 0, 1) := by decide +kernel
theorem dL_law_1331 : decode cL_law 1331 = .ok (.iload_n 3, 1) := by decide +kernel
theorem dL_law_1332 : decode cL_law 1332 = .ok (.iconst 1, 1) := by decide +kernel
theorem dL_law_1333 : decode cL_law 1333 = .ok (.iadd, 1) := by decide +kernel
theorem dL_law_1334 : decode cL_law 1334 = .ok (.iaload, 1) := by decide +kernel
theorem dL_law_1335 : decode cL_law 1335 = .ok (.invokevirtual 161, 3) := by decide +kernel
theorem dL_law_1338 : decode cL_law 1338 = .ok (.if_icmp .eq 5, 3) := by decide +kernel
theorem dL_law_1341 : decode cL_law 1341 = .ok (.iconst 0, 1) := by decide +kernel
theorem dL_law_1342 : decode cL_law 1342 = .ok (.ireturn, 1) := by decide +kernel
theorem dL_law_1343 : decode cL_law 1343 = .ok (.iinc 3 6, 3) := by decide +kernel
theorem dL_law_1346 : decode cL_law 1346 = .ok (.goto (-1328), 3) := by decide +kernel
theorem dL_law_1349 : decode cL_law 1349 = .ok (.iconst 1, 1) := by decide +kernel
theorem dL_law_1350 : decode cL_law 1350 = .ok (.ireturn, 1) := by decide +kernel
end
section
/-! THE LIGHT MACHINE: a fixed layout of 64 cells (zen), all that changes is a store of ints c : place -> slot -> Int32 (zS);
zW: from this point of a method, with locals L, stack st and store c, the method returns with Qf; zCl: a call returns with Qf.
A row an instruction (z_..), each proved once out of the kit's. -/
abbrev zS : Type := Nat → Nat → Int32
abbrev zE : Type := va_G × (ClassId × ClassId × ClassId) × (Nat × (Nat → Int32))
def zup (c : zS) (k : Nat) (f : Nat → Int32) : zS := fun j => if j = k then f else c j
theorem zup_s (c : zS) (k : Nat) (f : Nat → Int32) : zup c k f k = f := if_pos rfl
theorem zup_n {c : zS} {k j : Nat} {f : Nat → Int32} (h : j ≠ k) : zup c k f j = c j := if_neg h
abbrev zrow (cA : ClassId) (n : Nat) : (Nat → Int32) → va_E := fun f => .inl (cA, n, .inl f)
def zents (E : zE) (ad : Nat → Nat) : List ((Nat → Int32) → va_E) := [
  fun f => .inr (7, [.ref (ad 1), .ref (ad 16), .ref (ad 31), .ref (ad 33), .ref (ad 40), .ref (ad 42), .ref (ad 50), .int (f 7)]),
  fun f => .inr (4, [.ref (ad 2), .ref (ad 5), .ref (ad 8), .ref (ad 14), .int (f 4), .ref (ad 15), .int (f 6), .int (f 7)]),
  fun f => .inr (0, [.int (f 0), .ref (ad 3), .ref (ad 4), .int (f 3)]), zrow E.2.1.1 60, zrow E.2.1.1 60,
  fun f => .inr (0, [.int (f 0), .ref (ad 6), .ref (ad 7), .int (f 3)]), zrow E.2.1.1 60, zrow E.2.1.1 60,
  fun f => .inr (1, [.ref (ad 2), .ref (ad 5), .ref (ad 9), .ref (ad 10), .ref (ad 11), .ref (ad 12), .ref (ad 13), .int (f 7), .int (f 8), .int (f 9)]),
  zrow E.2.1.1 6, zrow E.2.1.1 6, zrow E.2.1.1 6, zrow E.2.1.1 6, zrow E.2.1.2.1 6,
  zrow E.2.1.1 60, zrow E.2.1.1 24,
  fun f => .inr (4, [.ref (ad 17), .ref (ad 20), .ref (ad 23), .ref (ad 29), .int (f 4), .ref (ad 30), .int (f 6), .int (f 7)]),
  fun f => .inr (0, [.int (f 0), .ref (ad 18), .ref (ad 19), .int (f 3)]), zrow E.2.1.1 60, zrow E.2.1.1 60,
  fun f => .inr (0, [.int (f 0), .ref (ad 21), .ref (ad 22), .int (f 3)]), zrow E.2.1.1 60, zrow E.2.1.1 60,
  fun f => .inr (1, [.ref (ad 17), .ref (ad 20), .ref (ad 24), .ref (ad 25), .ref (ad 26), .ref (ad 27), .ref (ad 28), .int (f 7), .int (f 8), .int (f 9)]),
  zrow E.2.1.1 6, zrow E.2.1.1 6, zrow E.2.1.1 6, zrow E.2.1.1 6, zrow E.2.1.2.1 6,
  zrow E.2.1.1 60, zrow E.2.1.1 24,
  fun f => .inr (2, [.ref (ad 14), .ref (ad 32), .int (f 2), .int (f 3), .int (f 4), .ref (ad (64 + (f 5).toNatClampNeg))]), zrow E.2.1.1 60,
  fun _ => .inr (5, [.ref (ad 8), .ref (ad 34)]),
  fun f => .inr (1, [.ref (ad 2), .ref (ad 5), .ref (ad 35), .ref (ad 36), .ref (ad 37), .ref (ad 38), .ref (ad 39), .int (f 7), .int (f 8), .int (f 9)]),
  zrow E.2.1.1 6, zrow E.2.1.1 6, zrow E.2.1.1 6, zrow E.2.1.1 6, zrow E.2.1.2.1 6,
  fun f => .inr (6, [.ref (ad 41), .int (f 1), .int (f 2), .int (f 3), .int (f 4), .int (f 5)]), zrow E.2.1.1 30,
  fun _ => .inr (3, [.ref (ad 43), .ref (ad 44), .ref (ad 45)]), zrow E.2.1.1 4, zrow E.2.1.1 4,
  fun _ => .inl (E.2.1.2.2, 4, .inr (.inr (.inr (.inr (fun i => if i < 4 then some (ad (46 + i)) else none))))),
  zrow E.2.1.1 24, zrow E.2.1.1 24, zrow E.2.1.1 24, zrow E.2.1.1 24,
  zrow E.2.1.1 7,
  fun f => .inr (8, [.ref (ad 52), .ref (ad 53), .ref (ad 54), .int (f 3), .ref (ad 55), .int (f 5), .int (f 6), .int (f 7), .int (f 8), .ref (ad 56), .ref (ad 57), .ref (ad 58), .int (f 12), .ref (ad 59), .int (f 14), .int (f 15), .ref (ad 60), .ref (ad 61), .ref (ad 62), .ref (ad 63)]),
  zrow E.2.1.1 372, zrow E.2.1.1 372, zrow E.2.1.1 38, zrow E.2.1.1 7, zrow E.2.1.1 124, zrow E.2.1.1 128, zrow E.2.1.1 64, zrow E.2.1.1 30,
  zrow E.2.1.1 4, zrow E.2.1.1 4, zrow E.2.1.1 96, zrow E.2.1.1 24]
def zen (E : zE) (ad : Nat → Nat) (k : Nat) (f : Nat → Int32) : va_E := ((zents E ad)[k]?.getD (fun _ => .inr (0, []))) f
def zwd (E : zE) (ad : Nat → Nat) (c : zS) : va_W := (List.range 64).map (fun k => (ad k, zen E ad k (c k)))
theorem zwd_at {E : zE} {ad : Nat → Nat} {c : zS} {k : Nat} (h : k < 64) : (zwd E ad c)[k]? = some (ad k, zen E ad k (c k)) := by
  unfold zwd
  rw [List.getElem?_map, List.getElem?_range h]
  rfl
theorem zwd_len {E : zE} {ad : Nat → Nat} {c : zS} : (zwd E ad c).length = 64 := by simp [zwd]
theorem zwd_set {E : zE} {ad : Nat → Nat} {c : zS} {k : Nat} (f : Nat → Int32) (h : k < 64) : (zwd E ad c).set k (ad k, zen E ad k f) = zwd E ad (zup c k f) := by
  apply List.ext_getElem?
  intro i
  by_cases hi : i < 64
  · rw [zwd_at hi]
    by_cases e : i = k
    · subst e
      rw [List.getElem?_set_self (by rw [zwd_len]; exact hi), zup_s]
    · rw [List.getElem?_set_ne (Ne.symm e), zwd_at hi, zup_n e]
  · rw [List.getElem?_eq_none (by rw [List.length_set, zwd_len]; omega), List.getElem?_eq_none (by rw [zwd_len]; omega)]
def zA (ad : Nat → Nat) : Nat → Prop := fun q => ∃ k : Nat, k < 64 ∧ q = ad k
theorem zwd_D {E : zE} {ad : Nat → Nat} {c : zS} {A : Nat → Prop} (hi : ∀ i j : Nat, i < 64 → j < 64 → ad i = ad j → i = j) (hA : ∀ k : Nat, k < 64 → A (ad k)) : va_D A (zwd E ad c) := by
  have lt : ∀ {i : Nat} {p : Nat × va_E}, (zwd E ad c)[i]? = some p → i < 64 ∧ p.1 = ad i := by
    intro i p h
    have h1 : i < 64 := by
      have := (List.getElem?_eq_some_iff.mp h).1
      rw [zwd_len] at this
      exact this
    rw [zwd_at h1] at h
    cases h
    exact ⟨h1, rfl⟩
  refine ⟨fun i j p q h1 h2 e => ?_, fun k q h => ?_⟩
  · obtain ⟨a1, a2⟩ := lt h1
    obtain ⟨b1, b2⟩ := lt h2
    exact hi i j a1 b1 (by rw [← a2, ← b2]; exact e)
  · obtain ⟨a1, a2⟩ := lt h
    rw [a2]
    exact hA k a1
def zAbove : List Int32 := [-1, 0, 0, 0, 1, 2, 0]
def zBodies : List Int32 := [10, 11, 12, 13, 20, 0, 0, 21, 0, 30, 0, 0, 0, 0, 40, 0, 50, 0, 51, 0, 0, 60, 0, 0, 70, 71, 0, 0]
/-- what holds of the machine's tables and of the cells that nobody writes -/
def zX (E : zE) (ad : Nat → Nat) (A : Nat → Prop) (U : State) (H : Heap) : Prop :=
  va_K E.1 vwCl [(E.2.1.1, .int), (E.2.1.2.1, .boolean), (E.2.1.2.2, .array .int)] U ∧ (∀ i j : Nat, i < 64 → j < 64 → ad i = ad j → i = j) ∧ (∀ k : Nat, k < 64 → A (ad k)) ∧
  va_Z "AnswerPass" "ABOVE" "[I" (.ref (ad 70)) A U H ∧ va_T .int (ad 70) 7 (fun j => .int (zAbove.getD j 0)) A U H ∧
  va_Z "AnswerPass$Voices" "BODIES" "[I" (.ref (ad 71)) A U H ∧ va_T .int (ad 71) 28 (fun j => .int (zBodies.getD j 0)) A U H ∧
  va_Z "java/lang/String" "COMPACT_STRINGS" "Z" (.int 1) A U H ∧
  (vk_R RX2 25 "" (ad 64) U ∧ vk_R RX2 34 "csh" (ad 65) U ∧ vk_R RX2 36 "cmk" (ad 66) U) ∧
  vk_S 3 [0, 3, 3] [[], [99, 115, 104], [99, 109, 107]] (fun i => ad (64 + i)) (fun i => ad (67 + i)) A U H ∧
  va_Nw (.fieldLinkNest RX6 40 "AnswerPass" "ABOVE" "[I" "AnswerPass") U ∧
  (va_X (ad 72) E.2.2.1 E.2.2.2 U H ∧ ad 72 < H.size ∧ ¬ A (ad 72))
theorem zX_to {E : zE} {ad : Nat → Nat} {A B : Nat → Prop} {s U : State} {H H1 : Heap} (hW : s.WarmedH U.vm) (hBA : ∀ q, B q → A q) (hB : ∀ k : Nat, k < 64 → B (ad k)) (hz : H.size ≤ H1.size) (hq : ∀ a : Nat, a < H.size → ¬ A a → H1[a]? = H[a]?) (h : zX E ad A s H) : zX E ad B U H1 := by
  obtain ⟨h1, h2, h3, h4, h5, h6, h7, h8, ⟨h9, h10, h11⟩, h12, h13, h14, h15, h16⟩ := h
  have hvm := hW.alike
  exact ⟨h1.moved hvm, h2, hB, ((h4.moved hvm).kept hq).narrow hBA, ((h5.moved hvm).kept hq).narrow hBA, ((h6.moved hvm).kept hq).narrow hBA, ((h7.moved hvm).kept hq).narrow hBA, ((h8.moved hvm).kept hq).narrow hBA,
    ⟨h9.warm hW, h10.warm hW, h11.warm hW⟩, ((h12.moved hvm).kept hq).narrow hBA, va_Nw.warmF hW h13, (h14.moved hvm).kept (hq _ h15 h16), Nat.lt_of_lt_of_le h15 hz, fun z => h16 (hBA _ z)⟩
theorem zX_same {E : zE} {ad : Nat → Nat} {A : Nat → Prop} {s U : State} {H : Heap} (hv : U.vm = s.vm) (h : zX E ad A s H) : zX E ad A U H := by
  obtain ⟨h1, h2, h3, h4, h5, h6, h7, h8, ⟨h9, h10, h11⟩, h12, h13, h14, h15, h16⟩ := h
  have hvm : s.vm.Alike U.vm := by rw [hv]; exact Vm.Alike.refl _
  exact ⟨h1.moved hvm, h2, h3, h4.moved hvm, h5.moved hvm, h6.moved hvm, h7.moved hvm, h8.moved hvm, ⟨h9.same hv, h10.same hv, h11.same hv⟩, h12.moved hvm, va_tabs rfl hv.symm h13, h14.moved hvm, h15, h16⟩
def zPre (E : zE) (ad : Nat → Nat) (c : zS) : State → Prop := fun U => zX E ad (zA ad) U U.heap ∧ va_P E.1 vwCl (zwd E ad c) U.heap
def zQ (E : zE) (ad : Nat → Nat) (rk : Nat) (Qf : Int32 → zS → Prop) : Array Value → State → Outcome → State → Prop := match rk with
  | 0 => va_Qv (fun c => Qf 0 c) (fun c t => va_P E.1 vwCl (zwd E ad c) t.heap) (zA ad)
  | 2 => va_Qr (fun u : Int32 × zS => Qf u.1 u.2) (fun u a t => a = ad u.1.toNatClampNeg ∧ va_P E.1 vwCl (zwd E ad u.2) t.heap) (zA ad)
  | _ => va_Qi (fun r c => Qf r c) (fun c t => va_P E.1 vwCl (zwd E ad c) t.heap) (zA ad)
def zrm (d : Nat) : Room := { frames := d, cells := 0, slots := 0, locals := 40 * d }
/-- a method: its name, code, locals, what it returns, the kind of that (0 void, 1 int, 2 a reference, 3 boolean, 4 byte) -/
abbrev zM : Type := MethodName × ByteArray × Nat × Option FieldType × Nat
def zCl (l : Launch) (E : zE) (ad : Nat → Nat) (M : zM) (d : Nat) (av : List Value) (c : zS) (Qf : Int32 → zS → Prop) : Prop :=
  Met l M.1 (.code M.1 M.2.1 M.2.2.1 M.2.2.2.1 :: tblG) (zrm d) (va_Pc av (zPre E ad c)) (zQ E ad M.2.2.2.2 Qf) 0 0 (zA ad)
def zri (rk : Nat) : Instr := match rk with
  | 0 => .return_
  | 2 => .areturn
  | _ => .ireturn
def zrs (ad : Nat → Nat) (rk : Nat) (r : Int32) : List Value := match rk with
  | 0 => []
  | 2 => [.ref (ad r.toNatClampNeg)]
  | _ => [.int r]
def zok (rk : Nat) (r : Int32) : Prop := match rk with
  | 0 => r = 0
  | 3 => narrow .boolean (.int r) = .int r
  | 4 => narrow .byte (.int r) = .int r
  | _ => True
def zrt (rk : Nat) (ret : Option FieldType) : Prop := match rk with
  | 0 => ret = none
  | 1 => ret = some .int
  | 2 => ∃ n : String, ret = some (.object n)
  | 3 => ret = some .boolean
  | 4 => ret = some .byte
  | _ => False
def zlv : Nat → List (Option Value) → List (Nat × Value)
  | _, [] => []
  | i, none :: t => zlv (i + 1) t
  | i, some v :: t => (i, v) :: zlv (i + 1) t
theorem zlv_in {v : Value} : ∀ {L : List (Option Value)} {i k : Nat}, L[k]? = some (some v) → (i + k, v) ∈ zlv i L
  | [], i, k, h => by simp at h
  | none :: t, i, k, h => by
    cases k with
    | zero => simp at h
    | succ k =>
      have := zlv_in (i := i + 1) (L := t) (k := k) (by simpa using h)
      rw [show i + (k + 1) = i + 1 + k by omega]
      exact this
  | some w :: t, i, k, h => by
    cases k with
    | zero =>
      simp only [List.getElem?_cons_zero, Option.some.injEq] at h
      subst h
      exact List.mem_cons_self
    | succ k =>
      have := zlv_in (i := i + 1) (L := t) (k := k) (by simpa using h)
      rw [show i + (k + 1) = i + 1 + k by omega]
      exact List.mem_cons_of_mem _ this
theorem zlv_of {q : Nat × Value} : ∀ {L : List (Option Value)} {i : Nat}, q ∈ zlv i L → ∃ k : Nat, q.1 = i + k ∧ L[k]? = some (some q.2)
  | [], i, h => by simp [zlv] at h
  | none :: t, i, h => by
    obtain ⟨k, h1, h2⟩ := zlv_of (L := t) (i := i + 1) h
    exact ⟨k + 1, by omega, by simpa using h2⟩
  | some w :: t, i, h => by
    rcases List.mem_cons.mp h with e | h
    · subst e
      exact ⟨0, rfl, rfl⟩
    · obtain ⟨k, h1, h2⟩ := zlv_of (L := t) (i := i + 1) h
      exact ⟨k + 1, by omega, by simpa using h2⟩
theorem zlv_at {ls : Array Slot} {nL : Nat} {L : List (Option Value)} (h : lv_has ls nL (zlv 0 L)) {k : Nat} {v : Value} (hk : L[k]? = some (some v)) : ls[k]? = some (.val v) := by
  have := h.2.2 _ (zlv_in (i := 0) hk)
  simpa using this
def zc1 (L : List (Option Value)) (i : Nat) : Bool := match i with
  | 0 => true
  | j + 1 => match L[j]? with
    | some (some w) => w.category == 1
    | _ => true
theorem zlv_set {ls : Array Slot} {nL : Nat} {L : List (Option Value)} {i : Nat} {v : Value} (hc : zc1 L i = true) (h : lv_has ls nL ((i, v) :: (zlv 0 L).filter (fun q => !(q.1 == i) && !(q.1 + 1 == i && q.2.category == 2)))) : lv_has ls nL (zlv 0 (L.set i (some v))) := by
  refine ⟨h.1, h.2.1, fun q hq => h.2.2 q ?_⟩
  obtain ⟨k, h1, h2⟩ := zlv_of hq
  have h1 : q.1 = k := by omega
  by_cases e : k = i
  · subst e
    have hl : k < L.length := by
      have := (List.getElem?_eq_some_iff.mp h2).1
      simpa using this
    rw [List.getElem?_set_self hl] at h2
    simp only [Option.some.injEq] at h2
    have : q = (k, v) := by rw [← h1, h2]
    rw [this]
    exact List.mem_cons_self
  · rw [List.getElem?_set_ne (Ne.symm e)] at h2
    refine List.mem_cons_of_mem _ (List.mem_filter.mpr ⟨?_, ?_⟩)
    · have := zlv_in (i := 0) h2
      rw [Nat.zero_add, ← h1] at this
      exact this
    · have a1 : (q.1 == i) = false := by simpa [h1] using e
      rw [a1]
      by_cases b1 : q.1 + 1 = i
      · subst b1
        have hc2 : zc1 L (k + 1) = true := by
          have h9 := hc
          rw [h1] at h9
          exact h9
        simp only [zc1, h2] at hc2
        have : q.2.category = 1 := by simpa using hc2
        simp [this]
      · simp [b1]
/-- what the machine is in, all through a method's body -/
def zC (own : String) (cc : ByteArray) (nL d : Nat) (p : Program) (R : Room) (s : State) (m : MethodId) (args : Array Value) (c0 : Code) (cells slots : Nat) : Prop :=
  p.tables.exec = Jvm.exec ∧ c0.code = cc ∧ c0.maxLocals = nL ∧ s.vm.findClass own = some m.cls ∧ (∀ w ∈ tblG, w.before args s = true) ∧ d ≤ R.frames ∧ 40 * d ≤ R.locals ∧ cells ≤ R.cells ∧ slots ≤ R.slots
def zR (l : Launch) (E : zE) (ad : Nat → Nat) (cc : ByteArray) (rk : Nat) (Qf : Int32 → zS → Prop) (p : Program) (e : Env) (R : Room) (s : State) (m : MethodId) (args : Array Value) (below : List Frame) (meth : Method) (c0 : Code) (cells slots : Nat) (Q : State → Prop) (A : Nat → Prop) : Prop :=
  ∀ (H : Heap) (locs : List Loc) (ls : Array Slot) (pc : Nat) (r : Int32) (c : zS), Qf r c → zok rk r → va_P E.1 vwCl (zwd E ad c) H → va_S A s.heap H locs → decode cc pc = .ok (zri rk, 1) → W p l e R s m args below meth c0 H locs cells slots Q (F0 m pc ls (zrs ad rk r))
def zW (l : Launch) (E : zE) (ad : Nat → Nat) (own : String) (cc : ByteArray) (nL rk d : Nat) (Qf : Int32 → zS → Prop) (pc : Nat) (L : List (Option Value)) (st : List Value) (c : zS) : Prop :=
  ∀ (p : Program) (e : Env) (R : Room) (s : State) (m : MethodId) (args : Array Value) (below : List Frame) (meth : Method) (c0 : Code) (H : Heap) (locs : List Loc) (cells slots : Nat) (Q : State → Prop) (A : Nat → Prop) (ls : Array Slot),
    zC own cc nL d p R s m args c0 cells slots → zX E ad A s s.heap → va_P E.1 vwCl (zwd E ad c) H → va_S A s.heap H locs → lv_has ls nL (zlv 0 L) → zR l E ad cc rk Qf p e R s m args below meth c0 cells slots Q A →
    W p l e R s m args below meth c0 H locs cells slots Q (F0 m pc ls st)
section ZROWS
variable {l : Launch} {E : zE} {ad : Nat → Nat} {own : String} {cc : ByteArray} {nL rk d : Nat} {Qf : Int32 → zS → Prop} {pc : Nat} {L : List (Option Value)} {st : List Value} {c : zS}
theorem z_enter {y : MethodName} {ret : Option FieldType} {av : List Value} (L : List (Option Value)) (hy : plainName y.cls = true) (ho : y.cls = own) (hr : zrt rk ret) (hL : zlv 0 L = lv_args 0 av) (hn : (lg_sl av).length ≤ nL) (k : zW l E ad own cc nL rk d Qf 0 L [] c) : zCl l E ad (y, cc, nL, ret, rk) d av c Qf := by
  refine Met.ofW (cc := cc) (maxL := nL) (ret := ret) hy rfl ?_
  intro p e s m args below meth c0 s₁ B hml hv
  obtain ⟨rfl, hX, hP⟩ := hv
  have hx := B.exec
  have hb := B.bytes
  have hret := B.returns
  have hts := atoms_spec (ws := .code y cc nL ret :: tblG) B.pre
  have hown : s.vm.findClass own = some m.cls := by rw [← ho]; exact findClass_of_methodNamed B.named
  have hlocks := B.notSynchronized
  rw [lg_entry_eq]
  have hl := lv_entry av (n := nL) hn
  generalize (lg_sl av ++ List.replicate (nL - (lg_sl av).length) Slot.unset).toArray = ls at hl ⊢
  rw [← hL] at hl
  refine k p e (zrm d) s m av.toArray below meth c0 s.heap [] 0 0 _ (zA ad) ls ⟨hx, hb, hml, hown, fun w hw => hts w (List.mem_cons_of_mem _ hw), Nat.le_refl _, Nat.le_refl _, Nat.zero_le _, Nat.zero_le _⟩ hX hP va_S.rf hl ?_
  intro H' locs' ls' pc' r c' hQ hok hP' hS' hdec
  match rk, hr, hQ, hok, hdec with
  | 0, hr, hQ, hok, hdec =>
    have hok : r = 0 := hok
    subst hok
    exact W.vret hx hb (hret.trans hr) (fun t ht hW => ⟨⟨c', rfl, hQ, by subst ht; exact hP'⟩, hS'.F ht⟩) hS'.2.2 hdec
  | 1, hr, hQ, hok, hdec => exact W.iret (v := r) hx hb (hret.trans hr) (fun t ht hW => ⟨⟨r, c', rfl, hQ, by subst ht; exact hP'⟩, hS'.F ht⟩) hS'.2.2 hdec
  | 2, hr, hQ, hok, hdec =>
    obtain ⟨n, hr⟩ := hr
    exact W.aret (v := .ref (ad r.toNatClampNeg)) hx hb (hret.trans hr) (Or.inl ⟨n, rfl⟩) (Or.inr ⟨_, rfl⟩) (fun t ht hW => ⟨⟨(r, c'), _, rfl, hQ, rfl, by subst ht; exact hP'⟩, hS'.F ht⟩) hS'.2.2 hdec
  | 3, hr, hQ, hok, hdec => exact W.zret (v := r) hx hb (hret.trans hr) hok (fun t ht hW => ⟨⟨r, c', rfl, hQ, by subst ht; exact hP'⟩, hS'.F ht⟩) hS'.2.2 hdec
  | 4, hr, hQ, hok, hdec => exact W.zret (v := r) hx hb (hret.trans hr) hok (fun t ht hW => ⟨⟨r, c', rfl, hQ, by subst ht; exact hP'⟩, hS'.F ht⟩) hS'.2.2 hdec
  | n + 5, hr, hQ, hok, hdec => exact absurd hr id
theorem z_iadd {a b : Int32} (hd : decode cc pc = .ok (.iadd, 1)) (k : zW l E ad own cc nL rk d Qf (pc + 1) L (.int (a + b) :: st) c) : zW l E ad own cc nL rk d Qf pc L (.int b :: .int a :: st) c := by
  intro p e R s m args below meth c0 H locs cells slots Q A ls h1 hX hP hS hL hR
  exact lv_iadd h1.1 h1.2.1 hd  (k p e R s m args below meth c0 H locs cells slots Q A ls h1 hX hP hS hL hR)
theorem z_isub {a b : Int32} (hd : decode cc pc = .ok (.isub, 1)) (k : zW l E ad own cc nL rk d Qf (pc + 1) L (.int (a - b) :: st) c) : zW l E ad own cc nL rk d Qf pc L (.int b :: .int a :: st) c := by
  intro p e R s m args below meth c0 H locs cells slots Q A ls h1 hX hP hS hL hR
  exact lv_isub h1.1 h1.2.1 hd  (k p e R s m args below meth c0 H locs cells slots Q A ls h1 hX hP hS hL hR)
theorem z_imul {a b : Int32} (hd : decode cc pc = .ok (.imul, 1)) (k : zW l E ad own cc nL rk d Qf (pc + 1) L (.int (a * b) :: st) c) : zW l E ad own cc nL rk d Qf pc L (.int b :: .int a :: st) c := by
  intro p e R s m args below meth c0 H locs cells slots Q A ls h1 hX hP hS hL hR
  exact lv_imul h1.1 h1.2.1 hd  (k p e R s m args below meth c0 H locs cells slots Q A ls h1 hX hP hS hL hR)
theorem z_iand {a b : Int32} (hd : decode cc pc = .ok (.iand, 1)) (k : zW l E ad own cc nL rk d Qf (pc + 1) L (.int (a &&& b) :: st) c) : zW l E ad own cc nL rk d Qf pc L (.int b :: .int a :: st) c := by
  intro p e R s m args below meth c0 H locs cells slots Q A ls h1 hX hP hS hL hR
  exact lv_iand h1.1 h1.2.1 hd  (k p e R s m args below meth c0 H locs cells slots Q A ls h1 hX hP hS hL hR)
theorem z_ior {a b : Int32} (hd : decode cc pc = .ok (.ior, 1)) (k : zW l E ad own cc nL rk d Qf (pc + 1) L (.int (a ||| b) :: st) c) : zW l E ad own cc nL rk d Qf pc L (.int b :: .int a :: st) c := by
  intro p e R s m args below meth c0 H locs cells slots Q A ls h1 hX hP hS hL hR
  exact lv_ior h1.1 h1.2.1 hd  (k p e R s m args below meth c0 H locs cells slots Q A ls h1 hX hP hS hL hR)
theorem z_ixor {a b : Int32} (hd : decode cc pc = .ok (.ixor, 1)) (k : zW l E ad own cc nL rk d Qf (pc + 1) L (.int (a ^^^ b) :: st) c) : zW l E ad own cc nL rk d Qf pc L (.int b :: .int a :: st) c := by
  intro p e R s m args below meth c0 H locs cells slots Q A ls h1 hX hP hS hL hR
  exact lv_ixor h1.1 h1.2.1 hd  (k p e R s m args below meth c0 H locs cells slots Q A ls h1 hX hP hS hL hR)
theorem z_ishl {a b : Int32} (hd : decode cc pc = .ok (.ishl, 1)) (k : zW l E ad own cc nL rk d Qf (pc + 1) L (.int (a <<< (b &&& 31)) :: st) c) : zW l E ad own cc nL rk d Qf pc L (.int b :: .int a :: st) c := by
  intro p e R s m args below meth c0 H locs cells slots Q A ls h1 hX hP hS hL hR
  exact lv_ishl h1.1 h1.2.1 hd  (k p e R s m args below meth c0 H locs cells slots Q A ls h1 hX hP hS hL hR)
theorem z_ishr {a b : Int32} (hd : decode cc pc = .ok (.ishr, 1)) (k : zW l E ad own cc nL rk d Qf (pc + 1) L (.int (a >>> (b &&& 31)) :: st) c) : zW l E ad own cc nL rk d Qf pc L (.int b :: .int a :: st) c := by
  intro p e R s m args below meth c0 H locs cells slots Q A ls h1 hX hP hS hL hR
  exact lv_ishr h1.1 h1.2.1 hd  (k p e R s m args below meth c0 H locs cells slots Q A ls h1 hX hP hS hL hR)
theorem z_iushr {a b : Int32} (hd : decode cc pc = .ok (.iushr, 1)) (k : zW l E ad own cc nL rk d Qf (pc + 1) L (.int ((a.toUInt32 >>> (b.toUInt32 &&& Int32.toUInt32 31)).toInt32) :: st) c) : zW l E ad own cc nL rk d Qf pc L (.int b :: .int a :: st) c := by
  intro p e R s m args below meth c0 H locs cells slots Q A ls h1 hX hP hS hL hR
  exact lv_iushr h1.1 h1.2.1 hd rfl (k p e R s m args below meth c0 H locs cells slots Q A ls h1 hX hP hS hL hR)
theorem z_ineg {a : Int32} (hd : decode cc pc = .ok (.ineg, 1)) (k : zW l E ad own cc nL rk d Qf (pc + 1) L (.int (-a) :: st) c) : zW l E ad own cc nL rk d Qf pc L (.int a :: st) c := by
  intro p e R s m args below meth c0 H locs cells slots Q A ls h1 hX hP hS hL hR
  exact lv_ineg h1.1 h1.2.1 hd  (k p e R s m args below meth c0 H locs cells slots Q A ls h1 hX hP hS hL hR)
theorem z_idiv {a b : Int32} (hd : decode cc pc = .ok (.idiv, 1)) (h0 : ¬ b = 0) (k : zW l E ad own cc nL rk d Qf (pc + 1) L (.int (a / b) :: st) c) : zW l E ad own cc nL rk d Qf pc L (.int b :: .int a :: st) c := by
  intro p e R s m args below meth c0 H locs cells slots Q A ls h1 hX hP hS hL hR
  exact lv_idiv h1.1 h1.2.1 hd h0 (k p e R s m args below meth c0 H locs cells slots Q A ls h1 hX hP hS hL hR)
theorem z_irem {a b : Int32} (hd : decode cc pc = .ok (.irem, 1)) (h0 : ¬ b = 0) (k : zW l E ad own cc nL rk d Qf (pc + 1) L (.int (a - a / b * b) :: st) c) : zW l E ad own cc nL rk d Qf pc L (.int b :: .int a :: st) c := by
  intro p e R s m args below meth c0 H locs cells slots Q A ls h1 hX hP hS hL hR
  exact lv_irem h1.1 h1.2.1 hd h0 (k p e R s m args below meth c0 H locs cells slots Q A ls h1 hX hP hS hL hR)
theorem z_land {a b : Int64} (hd : decode cc pc = .ok (.land, 1)) (k : zW l E ad own cc nL rk d Qf (pc + 1) L (.long (a &&& b) :: st) c) : zW l E ad own cc nL rk d Qf pc L (.long b :: .long a :: st) c := by
  intro p e R s m args below meth c0 H locs cells slots Q A ls h1 hX hP hS hL hR
  exact lv_land h1.1 h1.2.1 hd  (k p e R s m args below meth c0 H locs cells slots Q A ls h1 hX hP hS hL hR)
theorem z_lor {a b : Int64} (hd : decode cc pc = .ok (.lor, 1)) (k : zW l E ad own cc nL rk d Qf (pc + 1) L (.long (a ||| b) :: st) c) : zW l E ad own cc nL rk d Qf pc L (.long b :: .long a :: st) c := by
  intro p e R s m args below meth c0 H locs cells slots Q A ls h1 hX hP hS hL hR
  exact lv_lor h1.1 h1.2.1 hd  (k p e R s m args below meth c0 H locs cells slots Q A ls h1 hX hP hS hL hR)
theorem z_lshl {a : Int64} {b : Int32} (hd : decode cc pc = .ok (.lshl, 1)) (k : zW l E ad own cc nL rk d Qf (pc + 1) L (.long (a <<< (b.toInt64 &&& 63)) :: st) c) : zW l E ad own cc nL rk d Qf pc L (.int b :: .long a :: st) c := by
  intro p e R s m args below meth c0 H locs cells slots Q A ls h1 hX hP hS hL hR
  exact lv_lshl h1.1 h1.2.1 hd rfl (k p e R s m args below meth c0 H locs cells slots Q A ls h1 hX hP hS hL hR)
theorem z_lshr {a : Int64} {b : Int32} (hd : decode cc pc = .ok (.lshr, 1)) (k : zW l E ad own cc nL rk d Qf (pc + 1) L (.long (a >>> (b.toInt64 &&& 63)) :: st) c) : zW l E ad own cc nL rk d Qf pc L (.int b :: .long a :: st) c := by
  intro p e R s m args below meth c0 H locs cells slots Q A ls h1 hX hP hS hL hR
  exact lv_lshr h1.1 h1.2.1 hd rfl (k p e R s m args below meth c0 H locs cells slots Q A ls h1 hX hP hS hL hR)
theorem z_lushr {a : Int64} {b : Int32} (hd : decode cc pc = .ok (.lushr, 1)) (k : zW l E ad own cc nL rk d Qf (pc + 1) L (.long ((a.toUInt64 >>> (b.toInt64.toUInt64 &&& Int64.toUInt64 63)).toInt64) :: st) c) : zW l E ad own cc nL rk d Qf pc L (.int b :: .long a :: st) c := by
  intro p e R s m args below meth c0 H locs cells slots Q A ls h1 hX hP hS hL hR
  exact lv_lushr h1.1 h1.2.1 hd rfl (k p e R s m args below meth c0 H locs cells slots Q A ls h1 hX hP hS hL hR)
theorem z_i2l {a : Int32} (hd : decode cc pc = .ok (.i2l, 1)) (k : zW l E ad own cc nL rk d Qf (pc + 1) L (.long a.toInt64 :: st) c) : zW l E ad own cc nL rk d Qf pc L (.int a :: st) c := by
  intro p e R s m args below meth c0 H locs cells slots Q A ls h1 hX hP hS hL hR
  exact lv_i2l h1.1 h1.2.1 hd rfl (k p e R s m args below meth c0 H locs cells slots Q A ls h1 hX hP hS hL hR)
theorem z_l2i {a : Int64} (hd : decode cc pc = .ok (.l2i, 1)) (k : zW l E ad own cc nL rk d Qf (pc + 1) L (.int a.toInt32 :: st) c) : zW l E ad own cc nL rk d Qf pc L (.long a :: st) c := by
  intro p e R s m args below meth c0 H locs cells slots Q A ls h1 hX hP hS hL hR
  exact lv_l2i h1.1 h1.2.1 hd rfl (k p e R s m args below meth c0 H locs cells slots Q A ls h1 hX hP hS hL hR)
theorem z_i2b {a : Int32} (hd : decode cc pc = .ok (.i2b, 1)) (k : zW l E ad own cc nL rk d Qf (pc + 1) L (.int a.toInt8.toInt32 :: st) c) : zW l E ad own cc nL rk d Qf pc L (.int a :: st) c := by
  intro p e R s m args below meth c0 H locs cells slots Q A ls h1 hX hP hS hL hR
  exact lv_i2b h1.1 h1.2.1 hd rfl (k p e R s m args below meth c0 H locs cells slots Q A ls h1 hX hP hS hL hR)
theorem z_i2s {a : Int32} (hd : decode cc pc = .ok (.i2s, 1)) (k : zW l E ad own cc nL rk d Qf (pc + 1) L (.int a.toInt16.toInt32 :: st) c) : zW l E ad own cc nL rk d Qf pc L (.int a :: st) c := by
  intro p e R s m args below meth c0 H locs cells slots Q A ls h1 hX hP hS hL hR
  exact lv_i2s h1.1 h1.2.1 hd rfl (k p e R s m args below meth c0 H locs cells slots Q A ls h1 hX hP hS hL hR)
theorem z_i2c {a : Int32} (hd : decode cc pc = .ok (.i2c, 1)) (k : zW l E ad own cc nL rk d Qf (pc + 1) L (.int (a.toUInt32 % 65536).toInt32 :: st) c) : zW l E ad own cc nL rk d Qf pc L (.int a :: st) c := by
  intro p e R s m args below meth c0 H locs cells slots Q A ls h1 hX hP hS hL hR
  exact lv_i2c h1.1 h1.2.1 hd rfl (k p e R s m args below meth c0 H locs cells slots Q A ls h1 hX hP hS hL hR)
theorem z_iconst {n : Int} {v : Int32} (hd : decode cc pc = .ok (.iconst n, 1)) (hv : Int32.ofInt n = v) (k : zW l E ad own cc nL rk d Qf (pc + 1) L (.int v :: st) c) : zW l E ad own cc nL rk d Qf pc L st c := by
  intro p e R s m args below meth c0 H locs cells slots Q A ls h1 hX hP hS hL hR
  exact lv_iconst h1.1 h1.2.1 hd hv (k p e R s m args below meth c0 H locs cells slots Q A ls h1 hX hP hS hL hR)
theorem z_bipush {n : Int} {v : Int32} (hd : decode cc pc = .ok (.bipush n, 2)) (hv : (Int8.ofInt n).toInt32 = v) (k : zW l E ad own cc nL rk d Qf (pc + 2) L (.int v :: st) c) : zW l E ad own cc nL rk d Qf pc L st c := by
  intro p e R s m args below meth c0 H locs cells slots Q A ls h1 hX hP hS hL hR
  exact lv_bipush h1.1 h1.2.1 hd hv (k p e R s m args below meth c0 H locs cells slots Q A ls h1 hX hP hS hL hR)
theorem z_sipush {n : Int} {v : Int32} (hd : decode cc pc = .ok (.sipush n, 3)) (hv : (Int16.ofInt n).toInt32 = v) (k : zW l E ad own cc nL rk d Qf (pc + 3) L (.int v :: st) c) : zW l E ad own cc nL rk d Qf pc L st c := by
  intro p e R s m args below meth c0 H locs cells slots Q A ls h1 hX hP hS hL hR
  exact lv_sipush h1.1 h1.2.1 hd hv (k p e R s m args below meth c0 H locs cells slots Q A ls h1 hX hP hS hL hR)
theorem z_dup {v : Value} (hd : decode cc pc = .ok (.dup, 1)) (hc : v.category = 1) (k : zW l E ad own cc nL rk d Qf (pc + 1) L (v :: v :: st) c) : zW l E ad own cc nL rk d Qf pc L (v :: st) c := by
  intro p e R s m args below meth c0 H locs cells slots Q A ls h1 hX hP hS hL hR
  exact lv_dup h1.1 h1.2.1 hd hc (k p e R s m args below meth c0 H locs cells slots Q A ls h1 hX hP hS hL hR)
theorem z_pop {v : Value} (hd : decode cc pc = .ok (.pop, 1)) (hc : v.category = 1) (k : zW l E ad own cc nL rk d Qf (pc + 1) L st c) : zW l E ad own cc nL rk d Qf pc L (v :: st) c := by
  intro p e R s m args below meth c0 H locs cells slots Q A ls h1 hX hP hS hL hR
  exact lv_pop h1.1 h1.2.1 hd hc (k p e R s m args below meth c0 H locs cells slots Q A ls h1 hX hP hS hL hR)
theorem z_dup2 {v w : Value} (hd : decode cc pc = .ok (.dup2, 1)) (hc : v.category = 1) (hw : w.category = 1) (k : zW l E ad own cc nL rk d Qf (pc + 1) L (v :: w :: v :: w :: st) c) : zW l E ad own cc nL rk d Qf pc L (v :: w :: st) c := by
  intro p e R s m args below meth c0 H locs cells slots Q A ls h1 hX hP hS hL hR
  exact lv_dup2_11 h1.1 h1.2.1 hd hc hw (k p e R s m args below meth c0 H locs cells slots Q A ls h1 hX hP hS hL hR)
theorem z_iload_n {k : Fin 4} {i : Nat} {x : Int32} (hd : decode cc pc = .ok (.iload_n k, 1)) (hi : (k : Nat) = i) (hl : L[i]? = some (some (.int x))) (kk : zW l E ad own cc nL rk d Qf (pc + 1) L (.int x :: st) c) : zW l E ad own cc nL rk d Qf pc L st c := by
  intro p e R s m args below meth c0 H locs cells slots Q A ls h1 hX hP hS hL hR
  exact lv_iload_n h1.1 h1.2.1 hd hi (zlv_at hL hl) (kk p e R s m args below meth c0 H locs cells slots Q A ls h1 hX hP hS hL hR)
theorem z_iload {i : Nat} {x : Int32} (hd : decode cc pc = .ok (.iload i, 2)) (hl : L[i]? = some (some (.int x))) (k : zW l E ad own cc nL rk d Qf (pc + 2) L (.int x :: st) c) : zW l E ad own cc nL rk d Qf pc L st c := by
  intro p e R s m args below meth c0 H locs cells slots Q A ls h1 hX hP hS hL hR
  exact lv_iload h1.1 h1.2.1 hd (zlv_at hL hl) (k p e R s m args below meth c0 H locs cells slots Q A ls h1 hX hP hS hL hR)
theorem z_aload_n {k : Fin 4} {i : Nat} {x : Nat} (hd : decode cc pc = .ok (.aload_n k, 1)) (hi : (k : Nat) = i) (hl : L[i]? = some (some (.ref x))) (kk : zW l E ad own cc nL rk d Qf (pc + 1) L (.ref x :: st) c) : zW l E ad own cc nL rk d Qf pc L st c := by
  intro p e R s m args below meth c0 H locs cells slots Q A ls h1 hX hP hS hL hR
  exact lv_aload_n h1.1 h1.2.1 hd hi (zlv_at hL hl) (kk p e R s m args below meth c0 H locs cells slots Q A ls h1 hX hP hS hL hR)
theorem z_aload {i : Nat} {x : Nat} (hd : decode cc pc = .ok (.aload i, 2)) (hl : L[i]? = some (some (.ref x))) (k : zW l E ad own cc nL rk d Qf (pc + 2) L (.ref x :: st) c) : zW l E ad own cc nL rk d Qf pc L st c := by
  intro p e R s m args below meth c0 H locs cells slots Q A ls h1 hX hP hS hL hR
  exact lv_aload h1.1 h1.2.1 hd (zlv_at hL hl) (k p e R s m args below meth c0 H locs cells slots Q A ls h1 hX hP hS hL hR)
theorem z_lload_n {k : Fin 4} {i : Nat} {x : Int64} (hd : decode cc pc = .ok (.lload_n k, 1)) (hi : (k : Nat) = i) (hl : L[i]? = some (some (.long x))) (kk : zW l E ad own cc nL rk d Qf (pc + 1) L (.long x :: st) c) : zW l E ad own cc nL rk d Qf pc L st c := by
  intro p e R s m args below meth c0 H locs cells slots Q A ls h1 hX hP hS hL hR
  exact lv_lload_n h1.1 h1.2.1 hd hi (zlv_at hL hl) (kk p e R s m args below meth c0 H locs cells slots Q A ls h1 hX hP hS hL hR)
theorem z_istore_n {k : Fin 4} {i : Nat} {x : Int32} (L' : List (Option Value)) (hd : decode cc pc = .ok (.istore_n k, 1)) (hi : (k : Nat) = i) (hn : i < nL) (hc : zc1 L i = true) (hl : L.set i (some (.int x)) = L') (kk : zW l E ad own cc nL rk d Qf (pc + 1) L' st c) : zW l E ad own cc nL rk d Qf pc L (.int x :: st) c := by
  intro p e R s m args below meth c0 H locs cells slots Q A ls h1 hX hP hS hL hR
  subst hl
  exact lv_istore_n h1.1 h1.2.1 hd hi hL hn rfl (fun ls' hL' => kk p e R s m args below meth c0 H locs cells slots Q A ls' h1 hX hP hS (zlv_set hc hL') hR)
theorem z_istore {i : Nat} {x : Int32} (L' : List (Option Value)) (hd : decode cc pc = .ok (.istore i, 2)) (hn : i < nL) (hc : zc1 L i = true) (hl : L.set i (some (.int x)) = L') (kk : zW l E ad own cc nL rk d Qf (pc + 2) L' st c) : zW l E ad own cc nL rk d Qf pc L (.int x :: st) c := by
  intro p e R s m args below meth c0 H locs cells slots Q A ls h1 hX hP hS hL hR
  subst hl
  exact lv_istore h1.1 h1.2.1 hd hL hn rfl (fun ls' hL' => kk p e R s m args below meth c0 H locs cells slots Q A ls' h1 hX hP hS (zlv_set hc hL') hR)
theorem z_astore_n {k : Fin 4} {i : Nat} {x : Nat} (L' : List (Option Value)) (hd : decode cc pc = .ok (.astore_n k, 1)) (hi : (k : Nat) = i) (hn : i < nL) (hc : zc1 L i = true) (hl : L.set i (some (.ref x)) = L') (kk : zW l E ad own cc nL rk d Qf (pc + 1) L' st c) : zW l E ad own cc nL rk d Qf pc L (.ref x :: st) c := by
  intro p e R s m args below meth c0 H locs cells slots Q A ls h1 hX hP hS hL hR
  subst hl
  exact lv_astore_n h1.1 h1.2.1 hd hi hL hn rfl (fun ls' hL' => kk p e R s m args below meth c0 H locs cells slots Q A ls' h1 hX hP hS (zlv_set hc hL') hR)
theorem z_astore {i : Nat} {x : Nat} (L' : List (Option Value)) (hd : decode cc pc = .ok (.astore i, 2)) (hn : i < nL) (hc : zc1 L i = true) (hl : L.set i (some (.ref x)) = L') (kk : zW l E ad own cc nL rk d Qf (pc + 2) L' st c) : zW l E ad own cc nL rk d Qf pc L (.ref x :: st) c := by
  intro p e R s m args below meth c0 H locs cells slots Q A ls h1 hX hP hS hL hR
  subst hl
  exact lv_astore h1.1 h1.2.1 hd hL hn rfl (fun ls' hL' => kk p e R s m args below meth c0 H locs cells slots Q A ls' h1 hX hP hS (zlv_set hc hL') hR)
theorem z_iinc {i : Nat} {n : Int} {x v : Int32} (L' : List (Option Value)) (hd : decode cc pc = .ok (.iinc i n, 3)) (hx : L[i]? = some (some (.int x))) (hv : Int32.ofInt n = v) (hn : i < nL) (hc : zc1 L i = true) (hl : L.set i (some (.int (x + v))) = L') (kk : zW l E ad own cc nL rk d Qf (pc + 3) L' st c) : zW l E ad own cc nL rk d Qf pc L st c := by
  intro p e R s m args below meth c0 H locs cells slots Q A ls h1 hX hP hS hL hR
  subst hl
  subst hv
  obtain ⟨j, hj⟩ := List.getElem?_of_mem (zlv_in (i := 0) hx)
  rw [Nat.zero_add] at hj
  exact lv_iinc h1.1 h1.2.1 hd hL hj rfl hn rfl (fun ls' hL' => kk p e R s m args below meth c0 H locs cells slots Q A ls' h1 hX hP hS (zlv_set hc hL') hR)
theorem z_if_eq {x : Int32} {off : Int} (tgt : Nat) (hd : decode cc pc = .ok (.ifCond .eq off, 3)) (ht : (pc : Int) + off = (tgt : Int)) (kt : x = 0 → zW l E ad own cc nL rk d Qf tgt L st c) (kf : ¬ x = 0 → zW l E ad own cc nL rk d Qf (pc + 3) L st c) : zW l E ad own cc nL rk d Qf pc L (.int x :: st) c := by
  intro p e R s m args below meth c0 H locs cells slots Q A ls h1 hX hP hS hL hR
  exact lv_if_eq h1.1 h1.2.1 hd ht (fun z => kt z p e R s m args below meth c0 H locs cells slots Q A ls h1 hX hP hS hL hR) (fun z => kf z p e R s m args below meth c0 H locs cells slots Q A ls h1 hX hP hS hL hR)
theorem z_if_ne {x : Int32} {off : Int} (tgt : Nat) (hd : decode cc pc = .ok (.ifCond .ne off, 3)) (ht : (pc : Int) + off = (tgt : Int)) (kt : ¬ x = 0 → zW l E ad own cc nL rk d Qf tgt L st c) (kf : x = 0 → zW l E ad own cc nL rk d Qf (pc + 3) L st c) : zW l E ad own cc nL rk d Qf pc L (.int x :: st) c := by
  intro p e R s m args below meth c0 H locs cells slots Q A ls h1 hX hP hS hL hR
  exact lv_if_ne h1.1 h1.2.1 hd ht (fun z => kt z p e R s m args below meth c0 H locs cells slots Q A ls h1 hX hP hS hL hR) (fun z => kf z p e R s m args below meth c0 H locs cells slots Q A ls h1 hX hP hS hL hR)
theorem z_if_lt {x : Int32} {off : Int} (tgt : Nat) (hd : decode cc pc = .ok (.ifCond .lt off, 3)) (ht : (pc : Int) + off = (tgt : Int)) (kt : x < 0 → zW l E ad own cc nL rk d Qf tgt L st c) (kf : ¬ x < 0 → zW l E ad own cc nL rk d Qf (pc + 3) L st c) : zW l E ad own cc nL rk d Qf pc L (.int x :: st) c := by
  intro p e R s m args below meth c0 H locs cells slots Q A ls h1 hX hP hS hL hR
  exact lv_if_lt h1.1 h1.2.1 hd ht (fun z => kt z p e R s m args below meth c0 H locs cells slots Q A ls h1 hX hP hS hL hR) (fun z => kf z p e R s m args below meth c0 H locs cells slots Q A ls h1 hX hP hS hL hR)
theorem z_if_ge {x : Int32} {off : Int} (tgt : Nat) (hd : decode cc pc = .ok (.ifCond .ge off, 3)) (ht : (pc : Int) + off = (tgt : Int)) (kt : 0 ≤ x → zW l E ad own cc nL rk d Qf tgt L st c) (kf : ¬ 0 ≤ x → zW l E ad own cc nL rk d Qf (pc + 3) L st c) : zW l E ad own cc nL rk d Qf pc L (.int x :: st) c := by
  intro p e R s m args below meth c0 H locs cells slots Q A ls h1 hX hP hS hL hR
  exact lv_if_ge h1.1 h1.2.1 hd ht (fun z => kt z p e R s m args below meth c0 H locs cells slots Q A ls h1 hX hP hS hL hR) (fun z => kf z p e R s m args below meth c0 H locs cells slots Q A ls h1 hX hP hS hL hR)
theorem z_if_gt {x : Int32} {off : Int} (tgt : Nat) (hd : decode cc pc = .ok (.ifCond .gt off, 3)) (ht : (pc : Int) + off = (tgt : Int)) (kt : 0 < x → zW l E ad own cc nL rk d Qf tgt L st c) (kf : ¬ 0 < x → zW l E ad own cc nL rk d Qf (pc + 3) L st c) : zW l E ad own cc nL rk d Qf pc L (.int x :: st) c := by
  intro p e R s m args below meth c0 H locs cells slots Q A ls h1 hX hP hS hL hR
  exact lv_if_gt h1.1 h1.2.1 hd ht (fun z => kt z p e R s m args below meth c0 H locs cells slots Q A ls h1 hX hP hS hL hR) (fun z => kf z p e R s m args below meth c0 H locs cells slots Q A ls h1 hX hP hS hL hR)
theorem z_if_le {x : Int32} {off : Int} (tgt : Nat) (hd : decode cc pc = .ok (.ifCond .le off, 3)) (ht : (pc : Int) + off = (tgt : Int)) (kt : x ≤ 0 → zW l E ad own cc nL rk d Qf tgt L st c) (kf : ¬ x ≤ 0 → zW l E ad own cc nL rk d Qf (pc + 3) L st c) : zW l E ad own cc nL rk d Qf pc L (.int x :: st) c := by
  intro p e R s m args below meth c0 H locs cells slots Q A ls h1 hX hP hS hL hR
  exact lv_if_le h1.1 h1.2.1 hd ht (fun z => kt z p e R s m args below meth c0 H locs cells slots Q A ls h1 hX hP hS hL hR) (fun z => kf z p e R s m args below meth c0 H locs cells slots Q A ls h1 hX hP hS hL hR)
theorem z_icmp_eq {x y : Int32} {off : Int} (tgt : Nat) (hd : decode cc pc = .ok (.if_icmp .eq off, 3)) (ht : (pc : Int) + off = (tgt : Int)) (kt : x = y → zW l E ad own cc nL rk d Qf tgt L st c) (kf : ¬ x = y → zW l E ad own cc nL rk d Qf (pc + 3) L st c) : zW l E ad own cc nL rk d Qf pc L (.int y :: .int x :: st) c := by
  intro p e R s m args below meth c0 H locs cells slots Q A ls h1 hX hP hS hL hR
  exact lv_icmp_eq h1.1 h1.2.1 hd ht (fun z => kt z p e R s m args below meth c0 H locs cells slots Q A ls h1 hX hP hS hL hR) (fun z => kf z p e R s m args below meth c0 H locs cells slots Q A ls h1 hX hP hS hL hR)
theorem z_icmp_ne {x y : Int32} {off : Int} (tgt : Nat) (hd : decode cc pc = .ok (.if_icmp .ne off, 3)) (ht : (pc : Int) + off = (tgt : Int)) (kt : ¬ x = y → zW l E ad own cc nL rk d Qf tgt L st c) (kf : x = y → zW l E ad own cc nL rk d Qf (pc + 3) L st c) : zW l E ad own cc nL rk d Qf pc L (.int y :: .int x :: st) c := by
  intro p e R s m args below meth c0 H locs cells slots Q A ls h1 hX hP hS hL hR
  exact lv_icmp_ne h1.1 h1.2.1 hd ht (fun z => kt z p e R s m args below meth c0 H locs cells slots Q A ls h1 hX hP hS hL hR) (fun z => kf z p e R s m args below meth c0 H locs cells slots Q A ls h1 hX hP hS hL hR)
theorem z_icmp_lt {x y : Int32} {off : Int} (tgt : Nat) (hd : decode cc pc = .ok (.if_icmp .lt off, 3)) (ht : (pc : Int) + off = (tgt : Int)) (kt : x < y → zW l E ad own cc nL rk d Qf tgt L st c) (kf : ¬ x < y → zW l E ad own cc nL rk d Qf (pc + 3) L st c) : zW l E ad own cc nL rk d Qf pc L (.int y :: .int x :: st) c := by
  intro p e R s m args below meth c0 H locs cells slots Q A ls h1 hX hP hS hL hR
  exact lv_icmp_lt h1.1 h1.2.1 hd ht (fun z => kt z p e R s m args below meth c0 H locs cells slots Q A ls h1 hX hP hS hL hR) (fun z => kf z p e R s m args below meth c0 H locs cells slots Q A ls h1 hX hP hS hL hR)
theorem z_icmp_ge {x y : Int32} {off : Int} (tgt : Nat) (hd : decode cc pc = .ok (.if_icmp .ge off, 3)) (ht : (pc : Int) + off = (tgt : Int)) (kt : y ≤ x → zW l E ad own cc nL rk d Qf tgt L st c) (kf : ¬ y ≤ x → zW l E ad own cc nL rk d Qf (pc + 3) L st c) : zW l E ad own cc nL rk d Qf pc L (.int y :: .int x :: st) c := by
  intro p e R s m args below meth c0 H locs cells slots Q A ls h1 hX hP hS hL hR
  exact lv_icmp_ge h1.1 h1.2.1 hd ht (fun z => kt z p e R s m args below meth c0 H locs cells slots Q A ls h1 hX hP hS hL hR) (fun z => kf z p e R s m args below meth c0 H locs cells slots Q A ls h1 hX hP hS hL hR)
theorem z_icmp_gt {x y : Int32} {off : Int} (tgt : Nat) (hd : decode cc pc = .ok (.if_icmp .gt off, 3)) (ht : (pc : Int) + off = (tgt : Int)) (kt : y < x → zW l E ad own cc nL rk d Qf tgt L st c) (kf : ¬ y < x → zW l E ad own cc nL rk d Qf (pc + 3) L st c) : zW l E ad own cc nL rk d Qf pc L (.int y :: .int x :: st) c := by
  intro p e R s m args below meth c0 H locs cells slots Q A ls h1 hX hP hS hL hR
  exact lv_icmp_gt h1.1 h1.2.1 hd ht (fun z => kt z p e R s m args below meth c0 H locs cells slots Q A ls h1 hX hP hS hL hR) (fun z => kf z p e R s m args below meth c0 H locs cells slots Q A ls h1 hX hP hS hL hR)
theorem z_icmp_le {x y : Int32} {off : Int} (tgt : Nat) (hd : decode cc pc = .ok (.if_icmp .le off, 3)) (ht : (pc : Int) + off = (tgt : Int)) (kt : x ≤ y → zW l E ad own cc nL rk d Qf tgt L st c) (kf : ¬ x ≤ y → zW l E ad own cc nL rk d Qf (pc + 3) L st c) : zW l E ad own cc nL rk d Qf pc L (.int y :: .int x :: st) c := by
  intro p e R s m args below meth c0 H locs cells slots Q A ls h1 hX hP hS hL hR
  exact lv_icmp_le h1.1 h1.2.1 hd ht (fun z => kt z p e R s m args below meth c0 H locs cells slots Q A ls h1 hX hP hS hL hR) (fun z => kf z p e R s m args below meth c0 H locs cells slots Q A ls h1 hX hP hS hL hR)
theorem z_goto {off : Int} (tgt : Nat) (hd : decode cc pc = .ok (.goto off, 3)) (ht : (pc : Int) + off = (tgt : Int)) (k : zW l E ad own cc nL rk d Qf tgt L st c) : zW l E ad own cc nL rk d Qf pc L st c := by
  intro p e R s m args below meth c0 H locs cells slots Q A ls h1 hX hP hS hL hR
  exact lv_goto h1.1 h1.2.1 hd ht (k p e R s m args below meth c0 H locs cells slots Q A ls h1 hX hP hS hL hR)
theorem z_table {dflt lo hi : Int} {offs : Array Int} {len : Nat} {x v : Int32} {off : Int} (tgt : Nat) (hd : decode cc pc = .ok (.tableswitch dflt lo hi offs, len)) (hx : x = v) (h2 : ¬ v.toInt < lo) (h3 : ¬ hi < v.toInt) (ho : offs[(v.toInt - lo).toNat]? = some off) (ht : (pc : Int) + off = (tgt : Int)) (k : zW l E ad own cc nL rk d Qf tgt L st c) : zW l E ad own cc nL rk d Qf pc L (.int x :: st) c := by
  intro p e R s m args below meth c0 H locs cells slots Q A ls h1 hX hP hS hL hR
  subst hx
  exact lv_tableIn h1.1 h1.2.1 hd h2 h3 ho ht (k p e R s m args below meth c0 H locs cells slots Q A ls h1 hX hP hS hL hR)
theorem z_tableD {dflt lo hi : Int} {offs : Array Int} {len : Nat} {x : Int32} (tgt : Nat) (hd : decode cc pc = .ok (.tableswitch dflt lo hi offs, len)) (hx : x.toInt < lo ∨ hi < x.toInt) (ht : (pc : Int) + dflt = (tgt : Int)) (k : zW l E ad own cc nL rk d Qf tgt L st c) : zW l E ad own cc nL rk d Qf pc L (.int x :: st) c := by
  intro p e R s m args below meth c0 H locs cells slots Q A ls h1 hX hP hS hL hR
  exact lv_tableOut h1.1 h1.2.1 hd hx ht (k p e R s m args below meth c0 H locs cells slots Q A ls h1 hX hP hS hL hR)
theorem z_lookup {dflt : Int} {ps : Array (Int × Int)} {len : Nat} {x : Int32} {off : Int} (tgt : Nat) (hd : decode cc pc = .ok (.lookupswitch dflt ps, len)) (hp : (ps.toList.zip (ps.toList.drop 1)).all (fun (a, next) => a.1 < next.1) = true) (ho : Op.lookupswitch.offset ps.toList dflt x.toInt = off) (ht : (pc : Int) + off = (tgt : Int)) (k : zW l E ad own cc nL rk d Qf tgt L st c) : zW l E ad own cc nL rk d Qf pc L (.int x :: st) c := by
  intro p e R s m args below meth c0 H locs cells slots Q A ls h1 hX hP hS hL hR
  exact lv_lookup h1.1 h1.2.1 hd hp ho ht (k p e R s m args below meth c0 H locs cells slots Q A ls h1 hX hP hS hL hR)
theorem z_ldc {i : Nat} {v : Int32} (hd : decode cc pc = .ok (.ldc i, 2)) (hw : Cond.constant own i v ∈ tblG) (k : zW l E ad own cc nL rk d Qf (pc + 2) L (.int v :: st) c) : zW l E ad own cc nL rk d Qf pc L st c := by
  intro p e R s m args below meth c0 H locs cells slots Q A ls h1 hX hP hS hL hR
  exact lv_ldc h1.1 h1.2.1 h1.2.2.2.1 (h1.2.2.2.2.1 _ hw) hd (k p e R s m args below meth c0 H locs cells slots Q A ls h1 hX hP hS hL hR)
theorem z_ldc_w {i : Nat} {v : Int32} (hd : decode cc pc = .ok (.ldc_w i, 3)) (hw : Cond.constant own i v ∈ tblG) (k : zW l E ad own cc nL rk d Qf (pc + 3) L (.int v :: st) c) : zW l E ad own cc nL rk d Qf pc L st c := by
  intro p e R s m args below meth c0 H locs cells slots Q A ls h1 hX hP hS hL hR
  exact lv_ldcw h1.1 h1.2.1 h1.2.2.2.1 (h1.2.2.2.2.1 _ hw) hd (k p e R s m args below meth c0 H locs cells slots Q A ls h1 hX hP hS hL hR)
theorem z_ldc2_w {i : Nat} {v : Int64} (hd : decode cc pc = .ok (.ldc2_w i, 3)) (hw : Cond.constantLong own i v ∈ tblG) (k : zW l E ad own cc nL rk d Qf (pc + 3) L (.long v :: st) c) : zW l E ad own cc nL rk d Qf pc L st c := by
  intro p e R s m args below meth c0 H locs cells slots Q A ls h1 hX hP hS hL hR
  exact lv_ldc2 h1.1 h1.2.1 h1.2.2.2.1 (h1.2.2.2.2.1 _ hw) hd (k p e R s m args below meth c0 H locs cells slots Q A ls h1 hX hP hS hL hR)
/-- a getfield, a putfield of a class of ours: the words of it -/
def zF (own : String) (i ci j : Nat) : Prop := ∃ (C ref : String) (T : u_T) (N : Nat), vwCl[ci]? = some (C, T, N) ∧ j < N ∧ (∀ w ∈ u_ws C T N, w ∈ tblG) ∧ Cond.fieldLink own i ref (T j).2.1 (T j).2.2.1 ∈ tblG ∧ (T j).1 = ref
def zFp (ci j : Nat) (ty : FieldType) : Prop := ∃ (C : String) (T : u_T) (N : Nat) (ty0 : Nat → FieldType), vwCl[ci]? = some (C, T, N) ∧ j < N ∧ (∀ k, k < N → parseFieldDescriptor (T k).2.2.1 = some (ty0 k)) ∧ (∀ a, a < N → ∀ b, b < N → a ≠ b → (T a).2.1 ≠ (T b).2.1) ∧ (T j).2.2.2 = false ∧ parseFieldDescriptor (T j).2.2.1 = some ty
theorem z_getf {i ci j k : Nat} {fs : List Value} {v : Value} (hd : decode cc pc = .ok (.getfield i, 3)) (hf : zF own i ci j) (hk : k < 64) (he : zen E ad k (c k) = .inr (ci, fs)) (hv : fs[j]? = some v) (kk : zW l E ad own cc nL rk d Qf (pc + 3) L (v :: st) c) : zW l E ad own cc nL rk d Qf pc L (.ref (ad k) :: st) c := by
  intro p e R s m args below meth c0 H locs cells slots Q A ls h1 hX hP hS hL hR
  obtain ⟨C, ref, T, N, hc, hj, hin, hw, hr⟩ := hf
  subst hr
  exact va_get (index := i) h1.1 h1.2.1 h1.2.2.2.2.1 hin h1.2.2.2.1 hX.1 hP k (by rw [zwd_at hk, he]) hc j hj (h1.2.2.2.2.1 _ hw) (fun _ z => z) hv hd (kk p e R s m args below meth c0 H locs cells slots Q A ls h1 hX hP hS hL hR)
theorem z_putf {i ci j k : Nat} {fs : List Value} {v : Value} {ty : FieldType} (f' : Nat → Int32) (hd : decode cc pc = .ok (.putfield i, 3)) (hf : zF own i ci j) (hfp : zFp ci j ty) (hk : k < 64) (he : zen E ad k (c k) = .inr (ci, fs)) (hl : j < fs.length) (hn : narrow ty v = v) (hfit : fits ty v = true) (he2 : zen E ad k f' = .inr (ci, fs.set j v)) (kk : zW l E ad own cc nL rk d Qf (pc + 3) L st (zup c k f')) : zW l E ad own cc nL rk d Qf pc L (v :: .ref (ad k) :: st) c := by
  intro p e R s m args below meth c0 H locs cells slots Q A ls h1 hX hP hS hL hR
  obtain ⟨C, ref, T, N, hc, hj, hin, hw, hr⟩ := hf
  obtain ⟨C', T', N', ty0, hc', hj', hty, hnm, hfin, hd0⟩ := hfp
  cases hc.symm.trans hc'
  subst hr
  have hD := zwd_D (E := E) (c := c) hX.2.1 hX.2.2.1
  refine va_put (index := i) h1.1 h1.2.1 h1.2.2.2.2.1 hin ty0 hty hnm h1.2.2.2.1 hX.1 hP hD hS k (by rw [zwd_at hk, he]) hc j hj (h1.2.2.2.2.1 _ hw) (fun _ z => z) hfin hd0 hn hfit hl hd (fun H1 locs1 hP1 hD1 hS1 => ?_)
  rw [← he2, zwd_set f' hk] at hP1
  exact kk p e R s m args below meth c0 H1 locs1 cells slots Q A ls h1 hX hP1 hS1 hL hR
theorem z_iald {k n : Nat} {i : Int32} {j : Nat} (hd : decode cc pc = .ok (.iaload, 1)) (hk : k < 64) (he : zen E ad k (c k) = .inl (E.2.1.1, n, .inl (c k))) (hi : i = nI j) (hj : j < n) (hN : n < 2147483648) (kk : zW l E ad own cc nL rk d Qf (pc + 1) L (.int (c k j) :: st) c) : zW l E ad own cc nL rk d Qf pc L (.int i :: .ref (ad k) :: st) c := by
  have hin : vp_in i (n) := by rw [hi]; exact vp_in_nI hj (by omega)
  have ei : i.toNatClampNeg = j := by rw [hi]; exact nI_clamp (by omega)
  intro p e R s m args below meth c0 H locs cells slots Q A ls h1 hX hP hS hL hR
  exact va_iald h1.1 h1.2.1 hX.1 hP k 0 (by rw [zwd_at hk, he]) rfl hin hd (by rw [ei]; exact kk p e R s m args below meth c0 H locs cells slots Q A ls h1 hX hP hS hL hR)
theorem z_zald {k n : Nat} {i : Int32} {j : Nat} (hd : decode cc pc = .ok (.baload, 1)) (hk : k < 64) (he : zen E ad k (c k) = .inl (E.2.1.2.1, n, .inl (c k))) (hi : i = nI j) (hj : j < n) (hN : n < 2147483648) (kk : zW l E ad own cc nL rk d Qf (pc + 1) L (.int (c k j) :: st) c) : zW l E ad own cc nL rk d Qf pc L (.int i :: .ref (ad k) :: st) c := by
  have hin : vp_in i (n) := by rw [hi]; exact vp_in_nI hj (by omega)
  have ei : i.toNatClampNeg = j := by rw [hi]; exact nI_clamp (by omega)
  intro p e R s m args below meth c0 H locs cells slots Q A ls h1 hX hP hS hL hR
  exact va_zald h1.1 h1.2.1 hX.1 hP k 1 (by rw [zwd_at hk, he]) rfl hin hd (by rw [ei]; exact kk p e R s m args below meth c0 H locs cells slots Q A ls h1 hX hP hS hL hR)
theorem z_iast {k n : Nat} {i x : Int32} {j : Nat} (hd : decode cc pc = .ok (.iastore, 1)) (hk : k < 64) (he : ∀ f, zen E ad k f = .inl (E.2.1.1, n, .inl f)) (hi : i = nI j) (hj : j < n) (hN : n < 2147483648) (kk : zW l E ad own cc nL rk d Qf (pc + 1) L st (zup c k (upd (c k) j x))) : zW l E ad own cc nL rk d Qf pc L (.int x :: .int i :: .ref (ad k) :: st) c := by
  have hin : vp_in i (n) := by rw [hi]; exact vp_in_nI hj (by omega)
  have ei : i.toNatClampNeg = j := by rw [hi]; exact nI_clamp (by omega)
  intro p e R s m args below meth c0 H locs cells slots Q A ls h1 hX hP hS hL hR
  have hD := zwd_D (E := E) (c := c) hX.2.1 hX.2.2.1
  refine va_iast h1.1 h1.2.1 hX.1 hP hD hS k 0 (by rw [zwd_at hk, he]) rfl hin hd (fun H1 locs1 hP1 hD1 hS1 => ?_)
  rw [← he, zwd_set _ hk, ei] at hP1
  exact kk p e R s m args below meth c0 H1 locs1 cells slots Q A ls h1 hX hP1 hS1 hL hR
theorem z_zast {k n : Nat} {i x x' : Int32} {j : Nat} (hd : decode cc pc = .ok (.bastore, 1)) (hk : k < 64) (he : ∀ f, zen E ad k f = .inl (E.2.1.2.1, n, .inl f)) (hi : i = nI j) (hj : j < n) (hN : n < 2147483648) (hx : vp_nar .boolean x = x') (kk : zW l E ad own cc nL rk d Qf (pc + 1) L st (zup c k (upd (c k) j x'))) : zW l E ad own cc nL rk d Qf pc L (.int x :: .int i :: .ref (ad k) :: st) c := by
  have hin : vp_in i (n) := by rw [hi]; exact vp_in_nI hj (by omega)
  have ei : i.toNatClampNeg = j := by rw [hi]; exact nI_clamp (by omega)
  intro p e R s m args below meth c0 H locs cells slots Q A ls h1 hX hP hS hL hR
  subst hx
  have hD := zwd_D (E := E) (c := c) hX.2.1 hX.2.2.1
  refine va_zast h1.1 h1.2.1 hX.1 hP hD hS k 1 (by rw [zwd_at hk, he]) rfl hin hd (fun H1 locs1 hP1 hD1 hS1 => ?_)
  rw [← he, zwd_set _ hk, ei] at hP1
  exact kk p e R s m args below meth c0 H1 locs1 cells slots Q A ls h1 hX hP1 hS1 hL hR
/-- one of the rows of SHEETS -/
theorem z_aald {i : Int32} {j : Nat} (hd : decode cc pc = .ok (.aaload, 1)) (hi : i = nI j) (hj : j < 4) (hN : 4 < 2147483648) (kk : zW l E ad own cc nL rk d Qf (pc + 1) L (.ref (ad (46 + j)) :: st) c) : zW l E ad own cc nL rk d Qf pc L (.int i :: .ref (ad 45) :: st) c := by
  have hin : vp_in i (4) := by rw [hi]; exact vp_in_nI hj (by omega)
  have ei : i.toNatClampNeg = j := by rw [hi]; exact nI_clamp (by omega)
  intro p e R s m args below meth c0 H locs cells slots Q A ls h1 hX hP hS hL hR
  have hlt : i.toNatClampNeg < 4 := Nat.not_le.mp fun q => hin (Or.inr q)
  have ha : va_at E.1 vwCl (ad 45, .inl (E.2.1.2.2, 4, .inr (.inr (.inr (.inr (fun i => if i < 4 then some (ad (46 + i)) else none)))))) H := hP 45 _ (zwd_at (by decide))
  exact W.aald (v := .ref (ad (46 + i.toNatClampNeg))) (ty := .array .int) h1.1 h1.2.1 ha ((hX.1.2 2 _ rfl).1 4 (fun j => va_rf (if j < 4 then some (ad (46 + j)) else none))) rfl (fun q => by cases q) (by show ¬ (i < 0 ∨ (arrV _ _ _).slots.size ≤ _); rw [arrV_size]; exact hin) (by show (arrV _ _ _).slots[_]? = _; rw [arrV_read _ _ hlt]; simp only [if_pos hlt]; rfl) rfl rfl hd (by rw [ei]; exact kk p e R s m args below meth c0 H locs cells slots Q A ls h1 hX hP hS hL hR)
theorem z_sald {i : Int32} {j : Nat} (hd : decode cc pc = .ok (.iaload, 1)) (hi : i = nI j) (hj : j < E.2.2.1) (hN : E.2.2.1 < 2147483648) (kk : zW l E ad own cc nL rk d Qf (pc + 1) L (.int (E.2.2.2 j) :: st) c) : zW l E ad own cc nL rk d Qf pc L (.int i :: .ref (ad 72) :: st) c := by
  have hin : vp_in i (E.2.2.1) := by rw [hi]; exact vp_in_nI hj (by omega)
  have ei : i.toNatClampNeg = j := by rw [hi]; exact nI_clamp (by omega)
  intro p e R s m args below meth c0 H locs cells slots Q A ls h1 hX hP hS hL hR
  obtain ⟨-, -, -, -, -, -, -, -, -, -, -, hX1, hX2, hX3⟩ := id hX
  exact va_sld h1.1 h1.2.1 hX1 hX2 hX3 hS hin hd (by rw [ei]; exact kk p e R s m args below meth c0 H locs cells slots Q A ls h1 hX hP hS hL hR)
theorem z_slen (hd : decode cc pc = .ok (.arraylength, 1)) (kk : zW l E ad own cc nL rk d Qf (pc + 1) L (.int (Int32.ofNat E.2.2.1) :: st) c) : zW l E ad own cc nL rk d Qf pc L (.ref (ad 72) :: st) c := by
  intro p e R s m args below meth c0 H locs cells slots Q A ls h1 hX hP hS hL hR
  obtain ⟨-, -, -, -, -, -, -, -, -, -, -, hX1, hX2, hX3⟩ := id hX
  exact va_slen h1.1 h1.2.1 hX1 hX2 hX3 hS hd (kk p e R s m args below meth c0 H locs cells slots Q A ls h1 hX hP hS hL hR)
theorem z_above {i : Int32} {j : Nat} {v : Int32} (hd : decode cc pc = .ok (.iaload, 1)) (hi : i = nI j) (hj : j < 7) (hN : 7 < 2147483648) (hv : zAbove.getD j 0 = v) (kk : zW l E ad own cc nL rk d Qf (pc + 1) L (.int v :: st) c) : zW l E ad own cc nL rk d Qf pc L (.int i :: .ref (ad 70) :: st) c := by
  have hin : vp_in i (7) := by rw [hi]; exact vp_in_nI hj (by omega)
  have ei : i.toNatClampNeg = j := by rw [hi]; exact nI_clamp (by omega)
  intro p e R s m args below meth c0 H locs cells slots Q A ls h1 hX hP hS hL hR
  exact va_ti h1.1 h1.2.1 hX.2.2.2.2.1 hS hin (by rw [ei, ← hv]) hd (kk p e R s m args below meth c0 H locs cells slots Q A ls h1 hX hP hS hL hR)
theorem z_bodies {i : Int32} {j : Nat} {v : Int32} (hd : decode cc pc = .ok (.iaload, 1)) (hi : i = nI j) (hj : j < 28) (hN : 28 < 2147483648) (hv : zBodies.getD j 0 = v) (kk : zW l E ad own cc nL rk d Qf (pc + 1) L (.int v :: st) c) : zW l E ad own cc nL rk d Qf pc L (.int i :: .ref (ad 71) :: st) c := by
  have hin : vp_in i (28) := by rw [hi]; exact vp_in_nI hj (by omega)
  have ei : i.toNatClampNeg = j := by rw [hi]; exact nI_clamp (by omega)
  intro p e R s m args below meth c0 H locs cells slots Q A ls h1 hX hP hS hL hR
  exact va_ti h1.1 h1.2.1 hX.2.2.2.2.2.2.1 hS hin (by rw [ei, ← hv]) hd (kk p e R s m args below meth c0 H locs cells slots Q A ls h1 hX hP hS hL hR)
theorem z_gsAbove {i : Nat} (hd : decode cc pc = .ok (.getstatic i, 3)) (hw : Cond.fieldLink own i "AnswerPass" "ABOVE" "[I" ∈ tblG) (kk : zW l E ad own cc nL rk d Qf (pc + 3) L (.ref (ad 70) :: st) c) : zW l E ad own cc nL rk d Qf pc L st c := by
  intro p e R s m args below meth c0 H locs cells slots Q A ls h1 hX hP hS hL hR
  exact va_gets (index := i) h1.1 h1.2.1 hX.2.2.2.1 hS h1.2.2.2.1 (h1.2.2.2.2.1 _ hw) (fun _ z => z) hd (kk p e R s m args below meth c0 H locs cells slots Q A ls h1 hX hP hS hL hR)
theorem z_gsAboveN (hd : decode cc pc = .ok (.getstatic 40, 3)) (ho : own = RX6) (kk : zW l E ad own cc nL rk d Qf (pc + 3) L (.ref (ad 70) :: st) c) : zW l E ad own cc nL rk d Qf pc L st c := by
  intro p e R s m args below meth c0 H locs cells slots Q A ls h1 hX hP hS hL hR
  subst ho
  exact va_getsN h1.1 h1.2.1 hX.2.2.2.1 hS h1.2.2.2.1 (va_tabs rfl rfl hX.2.2.2.2.2.2.2.2.2.2.1) (fun _ z => z) hd (kk p e R s m args below meth c0 H locs cells slots Q A ls h1 hX hP hS hL hR)
theorem z_gsBodies {i : Nat} (hd : decode cc pc = .ok (.getstatic i, 3)) (hw : Cond.fieldLink own i "AnswerPass$Voices" "BODIES" "[I" ∈ tblG) (kk : zW l E ad own cc nL rk d Qf (pc + 3) L (.ref (ad 71) :: st) c) : zW l E ad own cc nL rk d Qf pc L st c := by
  intro p e R s m args below meth c0 H locs cells slots Q A ls h1 hX hP hS hL hR
  exact va_gets (index := i) h1.1 h1.2.1 hX.2.2.2.2.2.1 hS h1.2.2.2.1 (h1.2.2.2.2.1 _ hw) (fun _ z => z) hd (kk p e R s m args below meth c0 H locs cells slots Q A ls h1 hX hP hS hL hR)
theorem z_gsCompact {i : Nat} (hd : decode cc pc = .ok (.getstatic i, 3)) (hw : Cond.fieldLink own i "java/lang/String" "COMPACT_STRINGS" "Z" ∈ tblG) (kk : zW l E ad own cc nL rk d Qf (pc + 3) L (.int 1 :: st) c) : zW l E ad own cc nL rk d Qf pc L st c := by
  intro p e R s m args below meth c0 H locs cells slots Q A ls h1 hX hP hS hL hR
  exact va_gets (index := i) h1.1 h1.2.1 hX.2.2.2.2.2.2.2.1 hS h1.2.2.2.1 (h1.2.2.2.2.1 _ hw) (fun _ z => z) hd (kk p e R s m args below meth c0 H locs cells slots Q A ls h1 hX hP hS hL hR)
theorem z_min {i : Nat} {x y : Int32} (hd : decode cc pc = .ok (.invokestatic i, 3)) (hdp : 1 ≤ d) (hst : (st.map fun v => v.category).sum ≤ 8) (hw : Cond.methodLink own i Lib.Math.min.name ∈ tblG) (hw2 : Cond.static Lib.Math.min.name ∈ tblG) (hw3 : Cond.initialized "java/lang/Math" ∈ tblG) (hw4 : Cond.code Lib.Math.min.name Lib.Math.min.code 2 (some .int) ∈ tblG) (kk : zW l E ad own cc nL rk d Qf (pc + 3) L (.int (if y < x then y else x) :: st) c) : zW l E ad own cc nL rk d Qf pc L (.int y :: .int x :: st) c := by
  intro p e R s m args below meth c0 H locs cells slots Q A ls h1 hX hP hS hL hR
  exact va_mmin (index := i) h1.1 h1.2.1 (h1.2.2.1.trans hL.1.symm) h1.2.2.2.1 (h1.2.2.2.2.1 _ hw) (h1.2.2.2.2.1 _ hw2) (h1.2.2.2.2.1 _ hw3) (h1.2.2.2.2.1 _ hw4) (by have := h1.2.2.2.2.2.1; omega) (by have := h1.2.2.2.2.2.2.1; omega) h1.2.2.2.2.2.2.2.1 h1.2.2.2.2.2.2.2.2 hd (kk p e R s m args below meth c0 H locs cells slots Q A ls h1 hX hP hS hL hR)
theorem z_max {i : Nat} {x y : Int32} (hd : decode cc pc = .ok (.invokestatic i, 3)) (hdp : 1 ≤ d) (hst : (st.map fun v => v.category).sum ≤ 8) (hw : Cond.methodLink own i Lib.Math.max.name ∈ tblG) (hw2 : Cond.static Lib.Math.max.name ∈ tblG) (hw3 : Cond.initialized "java/lang/Math" ∈ tblG) (hw4 : Cond.code Lib.Math.max.name Lib.Math.max.code 2 (some .int) ∈ tblG) (kk : zW l E ad own cc nL rk d Qf (pc + 3) L (.int (if x < y then y else x) :: st) c) : zW l E ad own cc nL rk d Qf pc L (.int y :: .int x :: st) c := by
  intro p e R s m args below meth c0 H locs cells slots Q A ls h1 hX hP hS hL hR
  exact va_mmax (index := i) h1.1 h1.2.1 (h1.2.2.1.trans hL.1.symm) h1.2.2.2.1 (h1.2.2.2.2.1 _ hw) (h1.2.2.2.2.1 _ hw2) (h1.2.2.2.2.1 _ hw3) (h1.2.2.2.2.1 _ hw4) (by have := h1.2.2.2.2.2.1; omega) (by have := h1.2.2.2.2.2.2.1; omega) h1.2.2.2.2.2.2.2.1 h1.2.2.2.2.2.2.2.2 hd (kk p e R s m args below meth c0 H locs cells slots Q A ls h1 hX hP hS hL hR)
theorem z_copy {i k0 k1 n0 n1 : Nat} {sp dp n : Int32} (hd : decode cc pc = .ok (.invokestatic i, 3)) (hdp : 2 ≤ d) (hst : (st.map fun v => v.category).sum ≤ 8) (hw : Cond.methodLink own i arraycopyName ∈ tblG) (hw2 : Cond.native arraycopyName ∈ tblG) (hw3 : Cond.static arraycopyName ∈ tblG) (hw4 : Cond.initialized "java/lang/System" ∈ tblG) (hk0 : k0 < 64) (hk1 : k1 < 64) (he0 : zen E ad k0 (c k0) = .inl (E.2.1.1, n0, .inl (c k0))) (he1 : ∀ f, zen E ad k1 f = .inl (E.2.1.1, n1, .inl f)) (g1 : ¬ sp < 0) (g2 : ¬ dp < 0) (g3 : ¬ n < 0) (g4 : sp.toNatClampNeg + n.toNatClampNeg ≤ n0) (g5 : dp.toNatClampNeg + n.toNatClampNeg ≤ n1) (kk : zW l E ad own cc nL rk d Qf (pc + 3) L st (zup c k1 (va_cpy (c k0) (c k1) sp.toNatClampNeg dp.toNatClampNeg n.toNatClampNeg))) : zW l E ad own cc nL rk d Qf pc L (.int n :: .int dp :: .ref (ad k1) :: .int sp :: .ref (ad k0) :: st) c := by
  intro p e R s m args below meth c0 H locs cells slots Q A ls h1 hX hP hS hL hR
  have hD := zwd_D (E := E) (c := c) hX.2.1 hX.2.2.1
  refine va_copyi (index := i) h1.1 h1.2.1 (h1.2.2.1.trans hL.1.symm) h1.2.2.2.1 (h1.2.2.2.2.1 _ hw) (h1.2.2.2.2.1 _ hw2) (h1.2.2.2.2.1 _ hw3) (h1.2.2.2.2.1 _ hw4) hX.1 hP hD hS k0 k1 0 0 (by rw [zwd_at hk0, he0]) (by rw [zwd_at hk1, he1]) rfl rfl rfl g1 g2 g3 g4 g5 (fun _ _ => rfl) (by have := h1.2.2.2.2.2.1; omega) (by have h9 := h1.2.2.2.2.2.2.1; have h8 : nativeFrameWords "java/lang/System" "arraycopy" 5 ≤ 50 := (by decide +kernel); omega) hd (fun H1 locs1 hP1 hD1 hS1 => ?_)
  rw [← he1, zwd_set _ hk1] at hP1
  exact kk p e R s m args below meth c0 H1 locs1 cells slots Q A ls h1 hX hP1 hS1 hL hR
/-- String constants -/
theorem z_str {i k : Nat} (hd : decode cc pc = .ok (.ldc i, 2)) (ho : own = RX2) (hi : i = 25 ∧ k = 64 ∨ i = 34 ∧ k = 65 ∨ i = 36 ∧ k = 66) (kk : zW l E ad own cc nL rk d Qf (pc + 2) L (.ref (ad k) :: st) c) : zW l E ad own cc nL rk d Qf pc L st c := by
  intro p e R s m args below meth c0 H locs cells slots Q A ls h1 hX hP hS hL hR
  subst ho
  obtain ⟨q1, q2, q3⟩ := hX.2.2.2.2.2.2.2.2.1
  have := kk p e R s m args below meth c0 H locs cells slots Q A ls h1 hX hP hS hL hR
  rcases hi with ⟨rfl, rfl⟩ | ⟨rfl, rfl⟩ | ⟨rfl, rfl⟩
  · exact va_ldcS h1.1 h1.2.1 h1.2.2.2.1 q1 hd this
  · exact va_ldcS h1.1 h1.2.1 h1.2.2.2.1 q2 hd this
  · exact va_ldcS h1.1 h1.2.1 h1.2.2.2.1 q3 hd this
theorem z_scoder {i k : Nat} (hd : decode cc pc = .ok (.getfield i, 3)) (hk : k < 3) (hw : Cond.fieldLink own i "java/lang/String" "coder" "B" ∈ tblG) (kk : zW l E ad own cc nL rk d Qf (pc + 3) L (.int 0 :: st) c) : zW l E ad own cc nL rk d Qf pc L (.ref (ad (64 + k)) :: st) c := by
  intro p e R s m args below meth c0 H locs cells slots Q A ls h1 hX hP hS hL hR
  exact vk_getf (index := i) h1.1 h1.2.1 (hX.2.2.2.2.2.2.2.2.2.1.1 k hk).2.1 hS h1.2.2.2.1 (h1.2.2.2.2.1 _ hw) (fun _ z => z) hd (kk p e R s m args below meth c0 H locs cells slots Q A ls h1 hX hP hS hL hR)
theorem z_svalue {i k : Nat} (hd : decode cc pc = .ok (.getfield i, 3)) (hk : k < 3) (hw : Cond.fieldLink own i "java/lang/String" "value" "[B" ∈ tblG) (kk : zW l E ad own cc nL rk d Qf (pc + 3) L (.ref (ad (67 + k)) :: st) c) : zW l E ad own cc nL rk d Qf pc L (.ref (ad (64 + k)) :: st) c := by
  intro p e R s m args below meth c0 H locs cells slots Q A ls h1 hX hP hS hL hR
  exact vk_getf (index := i) h1.1 h1.2.1 (hX.2.2.2.2.2.2.2.2.2.1.1 k hk).2.2.1 hS h1.2.2.2.1 (h1.2.2.2.2.1 _ hw) (fun _ z => z) hd (kk p e R s m args below meth c0 H locs cells slots Q A ls h1 hX hP hS hL hR)
theorem z_sbyte {k n : Nat} {i v : Int32} {j : Nat} (hd : decode cc pc = .ok (.baload, 1)) (hk : k < 3) (hn : ([0, 3, 3] : List Nat).getD k 0 = n) (hi : i = nI j) (hj : j < n) (hN : n < 2147483648) (hv : (([[], [99, 115, 104], [99, 109, 107]] : List (List Int32)).getD k []).getD j 0 = v) (kk : zW l E ad own cc nL rk d Qf (pc + 1) L (.int v :: st) c) : zW l E ad own cc nL rk d Qf pc L (.int i :: .ref (ad (67 + k)) :: st) c := by
  subst hn
  have hin : vp_in i (([0, 3, 3] : List Nat).getD k 0) := by rw [hi]; exact vp_in_nI hj (by omega)
  have ei : i.toNatClampNeg = j := by rw [hi]; exact nI_clamp (by omega)
  intro p e R s m args below meth c0 H locs cells slots Q A ls h1 hX hP hS hL hR
  exact va_tb h1.1 h1.2.1 (hX.2.2.2.2.2.2.2.2.2.1.1 k hk).2.2.2 hS hin (by rw [ei, ← hv]) hd (kk p e R s m args below meth c0 H locs cells slots Q A ls h1 hX hP hS hL hR)
theorem z_sblen {k : Nat} {v : Int32} (hd : decode cc pc = .ok (.arraylength, 1)) (hk : k < 3) (hv : Int32.ofNat (([0, 3, 3] : List Nat).getD k 0) = v) (kk : zW l E ad own cc nL rk d Qf (pc + 1) L (.int v :: st) c) : zW l E ad own cc nL rk d Qf pc L (.ref (ad (67 + k)) :: st) c := by
  intro p e R s m args below meth c0 H locs cells slots Q A ls h1 hX hP hS hL hR
  exact va_tlen h1.1 h1.2.1 (hX.2.2.2.2.2.2.2.2.2.1.1 k hk).2.2.2 hS hv hd (kk p e R s m args below meth c0 H locs cells slots Q A ls h1 hX hP hS hL hR)
/-- ends -/
theorem z_ret {r : Int32} (hd : decode cc pc = .ok (zri rk, 1)) (h : Qf r c) (hok : zok rk r) (hs : zrs ad rk r = st) : zW l E ad own cc nL rk d Qf pc L st c := by
  intro p e R s m args below meth c0 H locs cells slots Q A ls h1 hX hP hS hL hR
  subst hs
  exact hR H locs ls pc r c h hok hP hS hd
/-- weaker wish -/
theorem zW_mono {Q2 : Int32 → zS → Prop} (hq : ∀ r c, Q2 r c → Qf r c) (h : zW l E ad own cc nL rk d Q2 pc L st c) : zW l E ad own cc nL rk d Qf pc L st c := by
  intro p e R s m args below meth c0 H locs cells slots Q A ls h1 hX hP hS hL hR
  exact h p e R s m args below meth c0 H locs cells slots Q A ls h1 hX hP hS hL (fun H locs ls pc r c z => hR H locs ls pc r c (hq r c z))
theorem z_putfi {i ci j k : Nat} {fs : List Value} {x : Int32} (hd : decode cc pc = .ok (.putfield i, 3)) (hf : zF own i ci j) (hfp : zFp ci j .int) (hk : k < 64) (he : zen E ad k (c k) = .inr (ci, fs)) (hl : j < fs.length) (he2 : zen E ad k (upd (c k) j x) = .inr (ci, fs.set j (.int x))) (kk : zW l E ad own cc nL rk d Qf (pc + 3) L st (zup c k (upd (c k) j x))) : zW l E ad own cc nL rk d Qf pc L (.int x :: .ref (ad k) :: st) c := z_putf _ hd hf hfp hk he hl rfl rfl he2 kk
theorem z_putfz {i ci j k : Nat} {fs : List Value} {x : Int32} (hd : decode cc pc = .ok (.putfield i, 3)) (hf : zF own i ci j) (hfp : zFp ci j .boolean) (hk : k < 64) (he : zen E ad k (c k) = .inr (ci, fs)) (hl : j < fs.length) (hx : narrow .boolean (.int x) = .int x) (hx2 : fits .boolean (.int x) = true) (he2 : zen E ad k (upd (c k) j x) = .inr (ci, fs.set j (.int x))) (kk : zW l E ad own cc nL rk d Qf (pc + 3) L st (zup c k (upd (c k) j x))) : zW l E ad own cc nL rk d Qf pc L (.int x :: .ref (ad k) :: st) c := z_putf _ hd hf hfp hk he hl hx hx2 he2 kk
theorem z_putfn {i k : Nat} {x : Int32} (hd : decode cc pc = .ok (.putfield i, 3)) (hf : zF own i 2 5) (hfp : zFp 2 5 (.object "java/lang/String")) (hx : k = 64 + x.toNatClampNeg) (kk : zW l E ad own cc nL rk d Qf (pc + 3) L st (zup c 31 (upd (c 31) 5 x))) : zW l E ad own cc nL rk d Qf pc L (.ref (ad k) :: .ref (ad 31) :: st) c := by
  subst hx
  exact z_putf (upd (c 31) 5 x) hd hf hfp (by decide) rfl (by show 5 < 6; decide) rfl rfl rfl kk
end ZROWS

/-! calls -/
def zVok (y : MethodName) (cc : ByteArray) (nL : Nat) (ret : Option FieldType) (n : Nat) : Prop := Cond.code y cc nL ret ∈ tblG ∧ Cond.instanceMethod y ∈ tblG ∧ Cond.selects y.cls y y ∈ tblG ∧ Cond.initialized y.cls ∈ tblG ∧ y.cls ≠ "java/lang/invoke/MethodHandle" ∧ y.cls ≠ "java/lang/invoke/VarHandle" ∧ (parseMethodDescriptor y.desc).map (fun d => d.parameters.length) = some n
def zSok (y : MethodName) (cc : ByteArray) (nL : Nat) (ret : Option FieldType) (n : Nat) : Prop := Cond.code y cc nL ret ∈ tblG ∧ Cond.static y ∈ tblG ∧ Cond.initialized y.cls ∈ tblG ∧ y.cls ≠ "java/lang/invoke/MethodHandle" ∧ y.cls ≠ "java/lang/invoke/VarHandle" ∧ (parseMethodDescriptor y.desc).map (fun d => d.parameters.length) = some n
theorem zPre_blind {E : zE} {ad : Nat → Nat} {av : List Value} {c : zS} : FrameBlind (va_Pc av (zPre E ad c)) := fun _ _ _ _ h => ⟨h.1, zX_same rfl h.2.1, h.2.2⟩
theorem zPre_of {E : zE} {ad : Nat → Nat} {c : zS} {A : Nat → Prop} {s U : State} {H : Heap} {locs : List Loc} (hX : zX E ad A s s.heap) (hP : va_P E.1 vwCl (zwd E ad c) H) (hS : va_S A s.heap H locs) (hU : U.heap = H) (hW : s.WarmedH U.vm) : zPre E ad c U := by
  have hBA : ∀ q, zA ad q → A q := fun q h => by
    obtain ⟨k, hk, e⟩ := h
    rw [e]
    exact hX.2.2.1 k hk
  exact ⟨by rw [hU]; exact zX_to hW hBA (fun k hk => ⟨k, hk, rfl⟩) hS.1 hS.2.1 hX, by rw [hU]; exact hP⟩
theorem z_back {l : Launch} {E : zE} {ad : Nat → Nat} {own : String} {cc : ByteArray} {nL rk d : Nat} {Qf : Int32 → zS → Prop} {pc : Nat} {L : List (Option Value)} {S st : List Value} {rk' : Nat} {p : Program} {e : Env} {R : Room} {s : State} {m : MethodId} {args a : Array Value} {below : List Frame} {meth : Method} {c0 : Code} {H : Heap} {locs : List Loc} {cells slots : Nat} {Q : State → Prop} {A : Nat → Prop} {ls : Array Slot}
    (h1 : zC own cc nL d p R s m args c0 cells slots) (hX : zX E ad A s s.heap) (hS : va_S A s.heap H locs) (hL : lv_has ls nL (zlv 0 L)) (hR : zR l E ad cc rk Qf p e R s m args below meth c0 cells slots Q A)
    (run : va_Run p l e R s m args below meth c0 H locs cells slots 0 0 (F0 m pc ls S) st (zQ E ad rk' (fun r c' => zW l E ad own cc nL rk d Qf (pc + 3) L (zrs ad rk' r ++ st) c') a) (zA ad)) : W p l e R s m args below meth c0 H locs cells slots Q (F0 m pc ls S) := by
  have hBA : ∀ q, zA ad q → A q := fun q h => by
    obtain ⟨k, hk, e⟩ := h
    rw [e]
    exact hX.2.2.1 k hk
  match rk', run with
  | 0, run => exact va_callv (a := a) run hS (fun q _ h => hBA q h) hBA (fun u t H1 locs1 ht hvm hw hB hz hk hS1 => hw p e R s m args below meth c0 H1 locs1 cells slots Q A ls h1 hX (by rw [← ht]; exact hB) hS1 hL hR)
  | 1, run => exact va_calli (a := a) run hS (fun q _ h => hBA q h) hBA (fun r u t H1 locs1 ht hvm hw hB hz hk hS1 => hw p e R s m args below meth c0 H1 locs1 cells slots Q A ls h1 hX (by rw [← ht]; exact hB) hS1 hL hR)
  | 2, run =>
    refine va_callr (a := a) run hS (fun q _ h => hBA q h) hBA (fun u ra t H1 locs1 ht hvm hw hB hz hk hS1 => ?_)
    obtain ⟨e1, hB⟩ := hB
    subst e1
    exact hw p e R s m args below meth c0 H1 locs1 cells slots Q A ls h1 hX (by rw [← ht]; exact hB) hS1 hL hR
  | n + 3, run => exact va_calli (a := a) run hS (fun q _ h => hBA q h) hBA (fun r u t H1 locs1 ht hvm hw hB hz hk hS1 => hw p e R s m args below meth c0 H1 locs1 cells slots Q A ls h1 hX (by rw [← ht]; exact hB) hS1 hL hR)
section ZCALLS
variable {l : Launch} {E : zE} {ad : Nat → Nat} {own : String} {cc : ByteArray} {nL rk d : Nat} {Qf : Int32 → zS → Prop} {pc : Nat} {L : List (Option Value)} {S st : List Value} {c : zS}
variable {y' : MethodName} {cc' : ByteArray} {nL' n i : Nat} {ret' : Option FieldType} {As : List Value}
theorem z_call {rk' b : Nat} (hd : decode cc pc = .ok (.invokevirtual i, 3)) (hSt : S = As.reverse ++ .ref b :: st) (hM : zVok y' cc' nL' ret' n) (hl : Cond.methodLink own i y' ∈ tblG) (hrec : ∀ (s : State) (H : Heap) (locs : List Loc) (A : Nat → Prop), zX E ad A s s.heap → va_P E.1 vwCl (zwd E ad c) H → va_S A s.heap H locs → ∃ cell : Cell, H[b]? = some cell ∧ cell.vm.isStatics = false ∧ s.vm.findClass y'.cls = some cell.cls) (hn : As.length = n) (hdp : 1 ≤ d) (hnL : nL' ≤ 21) (hst : (st.map fun v => v.category).sum ≤ 8) (hc : zCl l E ad (y', cc', nL', ret', rk') (d - 1) (.ref b :: As) c (fun r c' => zW l E ad own cc nL rk d Qf (pc + 3) L (zrs ad rk' r ++ st) c')) : zW l E ad own cc nL rk d Qf pc L S c := by
  intro p e R s m args below meth c0 H locs cells slots Q A ls h1 hX hP hS hL hR
  obtain ⟨hx, hb, hml, hown, hts, hf, hlo, hce, hsl⟩ := id h1
  obtain ⟨w1, w2, w3, w4, w5, w6, w7⟩ := hM
  refine z_back h1 hX hS hL hR (va_runV (As := As) (rest := st) ⟨hx, hb, hml, hown, hts⟩ hc (cwV n hts (gW_good (fun w hw => ?_)) rfl rfl rfl ⟨rfl, w5, w6, w7⟩ ⟨?_, ?_⟩) ⟨zPre_blind, hrec s H locs A hX hP hS, fun U hU hW => ⟨rfl, zPre_of hX hP hS hU hW⟩⟩ rfl hn hL.1 hSt (lv_room hst) hd ⟨hce, hsl⟩)
  · simp only [wsV, List.cons_append, List.nil_append, List.mem_cons] at hw
    rcases hw with rfl | rfl | rfl | rfl | rfl | hw
    · exact hl
    · exact w2
    · exact w3
    · exact w4
    · exact w1
    · exact hw
  · show d - 1 + 1 ≤ R.frames
    omega
  · show 8 + (nL' + 11) + 40 * (d - 1) ≤ R.locals
    omega
theorem z_callS {rk' : Nat} (hd : decode cc pc = .ok (.invokestatic i, 3)) (hSt : S = As.reverse ++ st) (hM : zSok y' cc' nL' ret' n) (hl : Cond.methodLink own i y' ∈ tblG) (hn : As.length = n) (hdp : 1 ≤ d) (hnL : nL' ≤ 21) (hst : (st.map fun v => v.category).sum ≤ 8) (hc : zCl l E ad (y', cc', nL', ret', rk') (d - 1) As c (fun r c' => zW l E ad own cc nL rk d Qf (pc + 3) L (zrs ad rk' r ++ st) c')) : zW l E ad own cc nL rk d Qf pc L S c := by
  intro p e R s m args below meth c0 H locs cells slots Q A ls h1 hX hP hS hL hR
  obtain ⟨hx, hb, hml, hown, hts, hf, hlo, hce, hsl⟩ := id h1
  obtain ⟨w1, w2, w4, w5, w6, w7⟩ := hM
  refine z_back h1 hX hS hL hR (va_runS (As := As) (rest := st) ⟨hx, hb, hml, hown, hts⟩ hc (va_cwS n hts (gW_good (fun w hw => ?_)) rfl rfl rfl ⟨w5, w6, w7⟩ ⟨?_, ?_⟩) ⟨zPre_blind, fun U hU hW => ⟨rfl, zPre_of hX hP hS hU hW⟩⟩ rfl hn hL.1 hSt (lv_room hst) hd ⟨hce, hsl⟩)
  · simp only [va_wsS, List.cons_append, List.nil_append, List.mem_cons] at hw
    rcases hw with rfl | rfl | rfl | rfl | hw
    · exact hl
    · exact w2
    · exact w4
    · exact w1
    · exact hw
  · show d - 1 + 1 ≤ R.frames
    omega
  · show 8 + (nL' + 11) + 40 * (d - 1) ≤ R.locals
    omega
theorem z_rec {k ci : Nat} {fs : List Value} {C : String} (hk : k < 64) (he : zen E ad k (c k) = .inr (ci, fs)) (hq : (vwCl[ci]?).map (fun q => q.1) = some C) (s : State) (H : Heap) (locs : List Loc) (A : Nat → Prop) (hX : zX E ad A s s.heap) (hP : va_P E.1 vwCl (zwd E ad c) H) (_ : va_S A s.heap H locs) : ∃ cell : Cell, H[ad k]? = some cell ∧ cell.vm.isStatics = false ∧ s.vm.findClass C = some cell.cls := by
  cases h : vwCl[ci]? with
  | none => rw [h] at hq; cases hq
  | some q =>
    rw [h] at hq
    cases hq
    exact va_recv hX.1 hP h (by rw [zwd_at hk, he])
theorem z_recS {k : Nat} (hk : k < 3) (s : State) (H : Heap) (locs : List Loc) (A : Nat → Prop) (hX : zX E ad A s s.heap) (_ : va_P E.1 vwCl (zwd E ad c) H) (hS : va_S A s.heap H locs) : ∃ cell : Cell, H[ad (64 + k)]? = some cell ∧ cell.vm.isStatics = false ∧ s.vm.findClass "java/lang/String" = some cell.cls := vk_recv (i := k) hX.2.2.2.2.2.2.2.2.2.1 hk hS
theorem z_Vv {k ci : Nat} {fs : List Value} (hd : decode cc pc = .ok (.invokevirtual i, 3)) (hSt : S = As.reverse ++ .ref (ad k) :: st) (hM : zVok y' cc' nL' ret' n) (hl : Cond.methodLink own i y' ∈ tblG) (hk : k < 64) (he : zen E ad k (c k) = .inr (ci, fs)) (hq : (vwCl[ci]?).map (fun q => q.1) = some y'.cls) (hn : As.length = n) (hdp : 1 ≤ d) (hnL : nL' ≤ 21) (hst : (st.map fun v => v.category).sum ≤ 8) (hc : zCl l E ad (y', cc', nL', ret', 0) (d - 1) (.ref (ad k) :: As) c (fun _ c' => zW l E ad own cc nL rk d Qf (pc + 3) L st c')) : zW l E ad own cc nL rk d Qf pc L S c := z_call (rk' := 0) hd hSt hM hl (z_rec hk he hq) hn hdp hnL hst hc
theorem z_Sv (hd : decode cc pc = .ok (.invokestatic i, 3)) (hSt : S = As.reverse ++ st) (hM : zSok y' cc' nL' ret' n) (hl : Cond.methodLink own i y' ∈ tblG) (hn : As.length = n) (hdp : 1 ≤ d) (hnL : nL' ≤ 21) (hst : (st.map fun v => v.category).sum ≤ 8) (hc : zCl l E ad (y', cc', nL', ret', 0) (d - 1) As c (fun _ c' => zW l E ad own cc nL rk d Qf (pc + 3) L st c')) : zW l E ad own cc nL rk d Qf pc L S c := z_callS (rk' := 0) hd hSt hM hl hn hdp hnL hst hc
theorem z_Vi {k ci : Nat} {fs : List Value} (hd : decode cc pc = .ok (.invokevirtual i, 3)) (hSt : S = As.reverse ++ .ref (ad k) :: st) (hM : zVok y' cc' nL' ret' n) (hl : Cond.methodLink own i y' ∈ tblG) (hk : k < 64) (he : zen E ad k (c k) = .inr (ci, fs)) (hq : (vwCl[ci]?).map (fun q => q.1) = some y'.cls) (hn : As.length = n) (hdp : 1 ≤ d) (hnL : nL' ≤ 21) (hst : (st.map fun v => v.category).sum ≤ 8) (hc : zCl l E ad (y', cc', nL', ret', 1) (d - 1) (.ref (ad k) :: As) c (fun r c' => zW l E ad own cc nL rk d Qf (pc + 3) L (.int r :: st) c')) : zW l E ad own cc nL rk d Qf pc L S c := z_call (rk' := 1) hd hSt hM hl (z_rec hk he hq) hn hdp hnL hst hc
theorem z_Si (hd : decode cc pc = .ok (.invokestatic i, 3)) (hSt : S = As.reverse ++ st) (hM : zSok y' cc' nL' ret' n) (hl : Cond.methodLink own i y' ∈ tblG) (hn : As.length = n) (hdp : 1 ≤ d) (hnL : nL' ≤ 21) (hst : (st.map fun v => v.category).sum ≤ 8) (hc : zCl l E ad (y', cc', nL', ret', 1) (d - 1) As c (fun r c' => zW l E ad own cc nL rk d Qf (pc + 3) L (.int r :: st) c')) : zW l E ad own cc nL rk d Qf pc L S c := z_callS (rk' := 1) hd hSt hM hl hn hdp hnL hst hc
theorem z_Vr {k ci : Nat} {fs : List Value} (hd : decode cc pc = .ok (.invokevirtual i, 3)) (hSt : S = As.reverse ++ .ref (ad k) :: st) (hM : zVok y' cc' nL' ret' n) (hl : Cond.methodLink own i y' ∈ tblG) (hk : k < 64) (he : zen E ad k (c k) = .inr (ci, fs)) (hq : (vwCl[ci]?).map (fun q => q.1) = some y'.cls) (hn : As.length = n) (hdp : 1 ≤ d) (hnL : nL' ≤ 21) (hst : (st.map fun v => v.category).sum ≤ 8) (hc : zCl l E ad (y', cc', nL', ret', 2) (d - 1) (.ref (ad k) :: As) c (fun r c' => zW l E ad own cc nL rk d Qf (pc + 3) L (.ref (ad r.toNatClampNeg) :: st) c')) : zW l E ad own cc nL rk d Qf pc L S c := z_call (rk' := 2) hd hSt hM hl (z_rec hk he hq) hn hdp hnL hst hc
theorem z_Sr (hd : decode cc pc = .ok (.invokestatic i, 3)) (hSt : S = As.reverse ++ st) (hM : zSok y' cc' nL' ret' n) (hl : Cond.methodLink own i y' ∈ tblG) (hn : As.length = n) (hdp : 1 ≤ d) (hnL : nL' ≤ 21) (hst : (st.map fun v => v.category).sum ≤ 8) (hc : zCl l E ad (y', cc', nL', ret', 2) (d - 1) As c (fun r c' => zW l E ad own cc nL rk d Qf (pc + 3) L (.ref (ad r.toNatClampNeg) :: st) c')) : zW l E ad own cc nL rk d Qf pc L S c := z_callS (rk' := 2) hd hSt hM hl hn hdp hnL hst hc
theorem z_Vb {k ci : Nat} {fs : List Value} (hd : decode cc pc = .ok (.invokevirtual i, 3)) (hSt : S = As.reverse ++ .ref (ad k) :: st) (hM : zVok y' cc' nL' ret' n) (hl : Cond.methodLink own i y' ∈ tblG) (hk : k < 64) (he : zen E ad k (c k) = .inr (ci, fs)) (hq : (vwCl[ci]?).map (fun q => q.1) = some y'.cls) (hn : As.length = n) (hdp : 1 ≤ d) (hnL : nL' ≤ 21) (hst : (st.map fun v => v.category).sum ≤ 8) (hc : zCl l E ad (y', cc', nL', ret', 3) (d - 1) (.ref (ad k) :: As) c (fun r c' => zW l E ad own cc nL rk d Qf (pc + 3) L (.int r :: st) c')) : zW l E ad own cc nL rk d Qf pc L S c := z_call (rk' := 3) hd hSt hM hl (z_rec hk he hq) hn hdp hnL hst hc
theorem z_Sb (hd : decode cc pc = .ok (.invokestatic i, 3)) (hSt : S = As.reverse ++ st) (hM : zSok y' cc' nL' ret' n) (hl : Cond.methodLink own i y' ∈ tblG) (hn : As.length = n) (hdp : 1 ≤ d) (hnL : nL' ≤ 21) (hst : (st.map fun v => v.category).sum ≤ 8) (hc : zCl l E ad (y', cc', nL', ret', 3) (d - 1) As c (fun r c' => zW l E ad own cc nL rk d Qf (pc + 3) L (.int r :: st) c')) : zW l E ad own cc nL rk d Qf pc L S c := z_callS (rk' := 3) hd hSt hM hl hn hdp hnL hst hc
theorem z_Vy {k ci : Nat} {fs : List Value} (hd : decode cc pc = .ok (.invokevirtual i, 3)) (hSt : S = As.reverse ++ .ref (ad k) :: st) (hM : zVok y' cc' nL' ret' n) (hl : Cond.methodLink own i y' ∈ tblG) (hk : k < 64) (he : zen E ad k (c k) = .inr (ci, fs)) (hq : (vwCl[ci]?).map (fun q => q.1) = some y'.cls) (hn : As.length = n) (hdp : 1 ≤ d) (hnL : nL' ≤ 21) (hst : (st.map fun v => v.category).sum ≤ 8) (hc : zCl l E ad (y', cc', nL', ret', 4) (d - 1) (.ref (ad k) :: As) c (fun r c' => zW l E ad own cc nL rk d Qf (pc + 3) L (.int r :: st) c')) : zW l E ad own cc nL rk d Qf pc L S c := z_call (rk' := 4) hd hSt hM hl (z_rec hk he hq) hn hdp hnL hst hc
theorem z_Sy (hd : decode cc pc = .ok (.invokestatic i, 3)) (hSt : S = As.reverse ++ st) (hM : zSok y' cc' nL' ret' n) (hl : Cond.methodLink own i y' ∈ tblG) (hn : As.length = n) (hdp : 1 ≤ d) (hnL : nL' ≤ 21) (hst : (st.map fun v => v.category).sum ≤ 8) (hc : zCl l E ad (y', cc', nL', ret', 4) (d - 1) As c (fun r c' => zW l E ad own cc nL rk d Qf (pc + 3) L (.int r :: st) c')) : zW l E ad own cc nL rk d Qf pc L S c := z_callS (rk' := 4) hd hSt hM hl hn hdp hnL hst hc
theorem zCl_mono {M : zM} {av : List Value} {Q1 Q2 : Int32 → zS → Prop} (h : zCl l E ad M d av c Q1) (e : Q1 = Q2) : zCl l E ad M d av c Q2 := e ▸ h
end ZCALLS
end
section
theorem in_X0 : ∀ w ∈ u_ws RX0 TX0 4, w ∈ tblG := by
  intro w hw
  obtain ⟨k, hk, rfl⟩ := List.mem_map.mp hw
  have hk := List.mem_range.mp hk
  match k, hk with
  | 0, _ => exact gW_of 105 (by decide +kernel) (by decide +kernel)
  | 1, _ => exact gW_of 107 (by decide +kernel) (by decide +kernel)
  | 2, _ => exact gW_of 109 (by decide +kernel) (by decide +kernel)
  | 3, _ => exact gW_of 111 (by decide +kernel) (by decide +kernel)
  | n + 4, h => exact absurd h (by omega)
theorem fp_X0_3 : zFp 0 3 .int := ⟨RX0, TX0, 4, tyX0, rfl, by decide, tyX0_ok, nmX0, rfl, by decide +kernel⟩
theorem in_X1 : ∀ w ∈ u_ws RX1 TX1 10, w ∈ tblG := by
  intro w hw
  obtain ⟨k, hk, rfl⟩ := List.mem_map.mp hw
  have hk := List.mem_range.mp hk
  match k, hk with
  | 0, _ => exact gW_of 148 (by decide +kernel) (by decide +kernel)
  | 1, _ => exact gW_of 150 (by decide +kernel) (by decide +kernel)
  | 2, _ => exact gW_of 152 (by decide +kernel) (by decide +kernel)
  | 3, _ => exact gW_of 154 (by decide +kernel) (by decide +kernel)
  | 4, _ => exact gW_of 156 (by decide +kernel) (by decide +kernel)
  | 5, _ => exact gW_of 158 (by decide +kernel) (by decide +kernel)
  | 6, _ => exact gW_of 160 (by decide +kernel) (by decide +kernel)
  | 7, _ => exact gW_of 162 (by decide +kernel) (by decide +kernel)
  | 8, _ => exact gW_of 164 (by decide +kernel) (by decide +kernel)
  | 9, _ => exact gW_of 166 (by decide +kernel) (by decide +kernel)
  | n + 10, h => exact absurd h (by omega)
theorem fp_X1_7 : zFp 1 7 .int := ⟨RX1, TX1, 10, tyX1, rfl, by decide, tyX1_ok, nmX1, rfl, by decide +kernel⟩
theorem fp_X1_8 : zFp 1 8 .int := ⟨RX1, TX1, 10, tyX1, rfl, by decide, tyX1_ok, nmX1, rfl, by decide +kernel⟩
theorem fp_X1_9 : zFp 1 9 .int := ⟨RX1, TX1, 10, tyX1, rfl, by decide, tyX1_ok, nmX1, rfl, by decide +kernel⟩
theorem in_X2 : ∀ w ∈ u_ws RX2 TX2 6, w ∈ tblG := by
  intro w hw
  obtain ⟨k, hk, rfl⟩ := List.mem_map.mp hw
  have hk := List.mem_range.mp hk
  match k, hk with
  | 0, _ => exact gW_of 216 (by decide +kernel) (by decide +kernel)
  | 1, _ => exact gW_of 218 (by decide +kernel) (by decide +kernel)
  | 2, _ => exact gW_of 220 (by decide +kernel) (by decide +kernel)
  | 3, _ => exact gW_of 222 (by decide +kernel) (by decide +kernel)
  | 4, _ => exact gW_of 224 (by decide +kernel) (by decide +kernel)
  | 5, _ => exact gW_of 226 (by decide +kernel) (by decide +kernel)
  | n + 6, h => exact absurd h (by omega)
theorem fp_X2_2 : zFp 2 2 .int := ⟨RX2, TX2, 6, tyX2, rfl, by decide, tyX2_ok, nmX2, rfl, by decide +kernel⟩
theorem fp_X2_3 : zFp 2 3 .int := ⟨RX2, TX2, 6, tyX2, rfl, by decide, tyX2_ok, nmX2, rfl, by decide +kernel⟩
theorem fp_X2_4 : zFp 2 4 .int := ⟨RX2, TX2, 6, tyX2, rfl, by decide, tyX2_ok, nmX2, rfl, by decide +kernel⟩
theorem fp_X2_5 : zFp 2 5 (.object "java/lang/String") := ⟨RX2, TX2, 6, tyX2, rfl, by decide, tyX2_ok, nmX2, rfl, by decide +kernel⟩
theorem in_X3 : ∀ w ∈ u_ws RX3 TX3 3, w ∈ tblG := by
  intro w hw
  obtain ⟨k, hk, rfl⟩ := List.mem_map.mp hw
  have hk := List.mem_range.mp hk
  match k, hk with
  | 0, _ => exact gW_of 288 (by decide +kernel) (by decide +kernel)
  | 1, _ => exact gW_of 290 (by decide +kernel) (by decide +kernel)
  | 2, _ => exact gW_of 292 (by decide +kernel) (by decide +kernel)
  | n + 3, h => exact absurd h (by omega)
theorem in_X4 : ∀ w ∈ u_ws RX4 TX4 8, w ∈ tblG := by
  intro w hw
  obtain ⟨k, hk, rfl⟩ := List.mem_map.mp hw
  have hk := List.mem_range.mp hk
  match k, hk with
  | 0, _ => exact gW_of 184 (by decide +kernel) (by decide +kernel)
  | 1, _ => exact gW_of 186 (by decide +kernel) (by decide +kernel)
  | 2, _ => exact gW_of 188 (by decide +kernel) (by decide +kernel)
  | 3, _ => exact gW_of 190 (by decide +kernel) (by decide +kernel)
  | 4, _ => exact gW_of 192 (by decide +kernel) (by decide +kernel)
  | 5, _ => exact gW_of 194 (by decide +kernel) (by decide +kernel)
  | 6, _ => exact gW_of 196 (by decide +kernel) (by decide +kernel)
  | 7, _ => exact gW_of 198 (by decide +kernel) (by decide +kernel)
  | n + 8, h => exact absurd h (by omega)
theorem fp_X4_4 : zFp 4 4 .int := ⟨RX4, TX4, 8, tyX4, rfl, by decide, tyX4_ok, nmX4, rfl, by decide +kernel⟩
theorem fp_X4_6 : zFp 4 6 .int := ⟨RX4, TX4, 8, tyX4, rfl, by decide, tyX4_ok, nmX4, rfl, by decide +kernel⟩
theorem fp_X4_7 : zFp 4 7 .int := ⟨RX4, TX4, 8, tyX4, rfl, by decide, tyX4_ok, nmX4, rfl, by decide +kernel⟩
theorem in_X5 : ∀ w ∈ u_ws RX5 TX5 2, w ∈ tblG := by
  intro w hw
  obtain ⟨k, hk, rfl⟩ := List.mem_map.mp hw
  have hk := List.mem_range.mp hk
  match k, hk with
  | 0, _ => exact gW_of 241 (by decide +kernel) (by decide +kernel)
  | 1, _ => exact gW_of 243 (by decide +kernel) (by decide +kernel)
  | n + 2, h => exact absurd h (by omega)
theorem in_X6 : ∀ w ∈ u_ws RX6 TX6 6, w ∈ tblG := by
  intro w hw
  obtain ⟨k, hk, rfl⟩ := List.mem_map.mp hw
  have hk := List.mem_range.mp hk
  match k, hk with
  | 0, _ => exact gW_of 261 (by decide +kernel) (by decide +kernel)
  | 1, _ => exact gW_of 263 (by decide +kernel) (by decide +kernel)
  | 2, _ => exact gW_of 265 (by decide +kernel) (by decide +kernel)
  | 3, _ => exact gW_of 267 (by decide +kernel) (by decide +kernel)
  | 4, _ => exact gW_of 269 (by decide +kernel) (by decide +kernel)
  | 5, _ => exact gW_of 271 (by decide +kernel) (by decide +kernel)
  | n + 6, h => exact absurd h (by omega)
theorem fp_X6_1 : zFp 6 1 .int := ⟨RX6, TX6, 6, tyX6, rfl, by decide, tyX6_ok, nmX6, rfl, by decide +kernel⟩
theorem fp_X6_2 : zFp 6 2 .boolean := ⟨RX6, TX6, 6, tyX6, rfl, by decide, tyX6_ok, nmX6, rfl, by decide +kernel⟩
theorem fp_X6_3 : zFp 6 3 .int := ⟨RX6, TX6, 6, tyX6, rfl, by decide, tyX6_ok, nmX6, rfl, by decide +kernel⟩
theorem fp_X6_4 : zFp 6 4 .int := ⟨RX6, TX6, 6, tyX6, rfl, by decide, tyX6_ok, nmX6, rfl, by decide +kernel⟩
theorem fp_X6_5 : zFp 6 5 .int := ⟨RX6, TX6, 6, tyX6, rfl, by decide, tyX6_ok, nmX6, rfl, by decide +kernel⟩
theorem in_X7 : ∀ w ∈ u_ws RX7 TX7 8, w ∈ tblG := by
  intro w hw
  obtain ⟨k, hk, rfl⟩ := List.mem_map.mp hw
  have hk := List.mem_range.mp hk
  match k, hk with
  | 0, _ => exact gW_of 303 (by decide +kernel) (by decide +kernel)
  | 1, _ => exact gW_of 305 (by decide +kernel) (by decide +kernel)
  | 2, _ => exact gW_of 307 (by decide +kernel) (by decide +kernel)
  | 3, _ => exact gW_of 309 (by decide +kernel) (by decide +kernel)
  | 4, _ => exact gW_of 311 (by decide +kernel) (by decide +kernel)
  | 5, _ => exact gW_of 313 (by decide +kernel) (by decide +kernel)
  | 6, _ => exact gW_of 315 (by decide +kernel) (by decide +kernel)
  | 7, _ => exact gW_of 317 (by decide +kernel) (by decide +kernel)
  | n + 8, h => exact absurd h (by omega)
theorem fp_X7_7 : zFp 7 7 .int := ⟨RX7, TX7, 8, tyX7, rfl, by decide, tyX7_ok, nmX7, rfl, by decide +kernel⟩
theorem in_X8 : ∀ w ∈ u_ws RX8 TX8 20, w ∈ tblG := by
  intro w hw
  obtain ⟨k, hk, rfl⟩ := List.mem_map.mp hw
  have hk := List.mem_range.mp hk
  match k, hk with
  | 0, _ => exact gW_of 853 (by decide +kernel) (by decide +kernel)
  | 1, _ => exact gW_of 855 (by decide +kernel) (by decide +kernel)
  | 2, _ => exact gW_of 857 (by decide +kernel) (by decide +kernel)
  | 3, _ => exact gW_of 859 (by decide +kernel) (by decide +kernel)
  | 4, _ => exact gW_of 861 (by decide +kernel) (by decide +kernel)
  | 5, _ => exact gW_of 863 (by decide +kernel) (by decide +kernel)
  | 6, _ => exact gW_of 865 (by decide +kernel) (by decide +kernel)
  | 7, _ => exact gW_of 867 (by decide +kernel) (by decide +kernel)
  | 8, _ => exact gW_of 869 (by decide +kernel) (by decide +kernel)
  | 9, _ => exact gW_of 871 (by decide +kernel) (by decide +kernel)
  | 10, _ => exact gW_of 873 (by decide +kernel) (by decide +kernel)
  | 11, _ => exact gW_of 875 (by decide +kernel) (by decide +kernel)
  | 12, _ => exact gW_of 877 (by decide +kernel) (by decide +kernel)
  | 13, _ => exact gW_of 879 (by decide +kernel) (by decide +kernel)
  | 14, _ => exact gW_of 881 (by decide +kernel) (by decide +kernel)
  | 15, _ => exact gW_of 883 (by decide +kernel) (by decide +kernel)
  | 16, _ => exact gW_of 885 (by decide +kernel) (by decide +kernel)
  | 17, _ => exact gW_of 887 (by decide +kernel) (by decide +kernel)
  | 18, _ => exact gW_of 889 (by decide +kernel) (by decide +kernel)
  | 19, _ => exact gW_of 891 (by decide +kernel) (by decide +kernel)
  | n + 20, h => exact absurd h (by omega)
theorem fp_X8_3 : zFp 8 3 .int := ⟨RX8, TX8, 20, tyX8, rfl, by decide, tyX8_ok, nmX8, rfl, by decide +kernel⟩
theorem fp_X8_5 : zFp 8 5 .int := ⟨RX8, TX8, 20, tyX8, rfl, by decide, tyX8_ok, nmX8, rfl, by decide +kernel⟩
theorem fp_X8_6 : zFp 8 6 .int := ⟨RX8, TX8, 20, tyX8, rfl, by decide, tyX8_ok, nmX8, rfl, by decide +kernel⟩
theorem fp_X8_7 : zFp 8 7 .int := ⟨RX8, TX8, 20, tyX8, rfl, by decide, tyX8_ok, nmX8, rfl, by decide +kernel⟩
theorem fp_X8_8 : zFp 8 8 .int := ⟨RX8, TX8, 20, tyX8, rfl, by decide, tyX8_ok, nmX8, rfl, by decide +kernel⟩
theorem fp_X8_12 : zFp 8 12 .int := ⟨RX8, TX8, 20, tyX8, rfl, by decide, tyX8_ok, nmX8, rfl, by decide +kernel⟩
theorem fp_X8_14 : zFp 8 14 .int := ⟨RX8, TX8, 20, tyX8, rfl, by decide, tyX8_ok, nmX8, rfl, by decide +kernel⟩
theorem fp_X8_15 : zFp 8 15 .boolean := ⟨RX8, TX8, 20, tyX8, rfl, by decide, tyX8_ok, nmX8, rfl, by decide +kernel⟩
theorem f_X7_10 : zF RX7 10 7 0 := ⟨RX7, "AnswerPass", TX7, 8, rfl, by decide, in_X7, gW_of 295 (by decide +kernel) (by decide +kernel), rfl⟩
theorem f_X7_16 : zF RX7 16 7 1 := ⟨RX7, "AnswerPass", TX7, 8, rfl, by decide, in_X7, gW_of 296 (by decide +kernel) (by decide +kernel), rfl⟩
theorem f_X7_21 : zF RX7 21 4 3 := ⟨RX4, "AnswerPass$State", TX4, 8, rfl, by decide, in_X4, gW_of 174 (by decide +kernel) (by decide +kernel), rfl⟩
theorem f_X7_28 : zF RX7 28 7 2 := ⟨RX7, "AnswerPass", TX7, 8, rfl, by decide, in_X7, gW_of 297 (by decide +kernel) (by decide +kernel), rfl⟩
theorem f_X7_34 : zF RX7 34 4 2 := ⟨RX4, "AnswerPass$State", TX4, 8, rfl, by decide, in_X4, gW_of 173 (by decide +kernel) (by decide +kernel), rfl⟩
theorem f_X7_41 : zF RX7 41 7 3 := ⟨RX7, "AnswerPass", TX7, 8, rfl, by decide, in_X7, gW_of 298 (by decide +kernel) (by decide +kernel), rfl⟩
theorem f_X7_48 : zF RX7 48 7 4 := ⟨RX7, "AnswerPass", TX7, 8, rfl, by decide, in_X7, gW_of 299 (by decide +kernel) (by decide +kernel), rfl⟩
theorem f_X7_55 : zF RX7 55 7 5 := ⟨RX7, "AnswerPass", TX7, 8, rfl, by decide, in_X7, gW_of 300 (by decide +kernel) (by decide +kernel), rfl⟩
theorem f_X7_59 : zF RX7 59 7 6 := ⟨RX7, "AnswerPass", TX7, 8, rfl, by decide, in_X7, gW_of 301 (by decide +kernel) (by decide +kernel), rfl⟩
theorem f_X7_62 : zF RX7 62 7 7 := ⟨RX7, "AnswerPass", TX7, 8, rfl, by decide, in_X7, gW_of 302 (by decide +kernel) (by decide +kernel), rfl⟩
abbrev mX7_isKindAndNumber : zM := (yX7_isKindAndNumber, cX7_isKindAndNumber, 1, (some .boolean), 3)
theorem v_X7_isKindAndNumber : zSok yX7_isKindAndNumber cX7_isKindAndNumber 1 (some .boolean) 1 := ⟨gW_of 326 (by decide +kernel) (by decide +kernel), gW_of 325 (by decide +kernel) (by decide +kernel), gW_of 63 (by decide +kernel) (by decide +kernel), by decide +kernel, by decide +kernel, by decide +kernel⟩
theorem l_X7_66 : Cond.methodLink RX7 66 yX7_isKindAndNumber ∈ tblG := gW_of 324 (by decide +kernel) (by decide +kernel)
abbrev mX7_isSure : zM := (yX7_isSure, cX7_isSure, 1, (some .boolean), 3)
theorem v_X7_isSure : zSok yX7_isSure cX7_isSure 1 (some .boolean) 1 := ⟨gW_of 332 (by decide +kernel) (by decide +kernel), gW_of 331 (by decide +kernel) (by decide +kernel), gW_of 63 (by decide +kernel) (by decide +kernel), by decide +kernel, by decide +kernel, by decide +kernel⟩
theorem l_X7_70 : Cond.methodLink RX7 70 yX7_isSure ∈ tblG := gW_of 330 (by decide +kernel) (by decide +kernel)
abbrev mX7_refuse : zM := (yX7_refuse, cX7_refuse, 2, (some .int), 1)
theorem v_X7_refuse : zVok yX7_refuse cX7_refuse 2 (some .int) 1 := ⟨gW_of 336 (by decide +kernel) (by decide +kernel), gW_of 335 (by decide +kernel) (by decide +kernel), gW_of 0 (by decide +kernel) (by decide +kernel), gW_of 63 (by decide +kernel) (by decide +kernel), by decide +kernel, by decide +kernel, by decide +kernel⟩
theorem l_X7_73 : Cond.methodLink RX7 73 yX7_refuse ∈ tblG := gW_of 333 (by decide +kernel) (by decide +kernel)
theorem f_X7_77 : zF RX7 77 1 7 := ⟨RX1, "AnswerPass$Pass", TX1, 10, rfl, by decide, in_X1, gW_of 140 (by decide +kernel) (by decide +kernel), rfl⟩
abbrev mX1_takesIn : zM := (yX1_takesIn, cX1_takesIn, 5, (some .int), 1)
theorem v_X1_takesIn : zVok yX1_takesIn cX1_takesIn 5 (some .int) 3 := ⟨gW_of 341 (by decide +kernel) (by decide +kernel), gW_of 339 (by decide +kernel) (by decide +kernel), gW_of 340 (by decide +kernel) (by decide +kernel), gW_of 66 (by decide +kernel) (by decide +kernel), by decide +kernel, by decide +kernel, by decide +kernel⟩
theorem l_X7_82 : Cond.methodLink RX7 82 yX1_takesIn ∈ tblG := gW_of 338 (by decide +kernel) (by decide +kernel)
abbrev mX7_isPerson : zM := (yX7_isPerson, cX7_isPerson, 2, (some .boolean), 3)
theorem v_X7_isPerson : zVok yX7_isPerson cX7_isPerson 2 (some .boolean) 1 := ⟨gW_of 353 (by decide +kernel) (by decide +kernel), gW_of 352 (by decide +kernel) (by decide +kernel), gW_of 1 (by decide +kernel) (by decide +kernel), gW_of 63 (by decide +kernel) (by decide +kernel), by decide +kernel, by decide +kernel, by decide +kernel⟩
theorem l_X7_86 : Cond.methodLink RX7 86 yX7_isPerson ∈ tblG := gW_of 350 (by decide +kernel) (by decide +kernel)
theorem f_X7_89 : zF RX7 89 1 2 := ⟨RX1, "AnswerPass$Pass", TX1, 10, rfl, by decide, in_X1, gW_of 126 (by decide +kernel) (by decide +kernel), rfl⟩
theorem f_X7_92 : zF RX7 92 1 3 := ⟨RX1, "AnswerPass$Pass", TX1, 10, rfl, by decide, in_X1, gW_of 128 (by decide +kernel) (by decide +kernel), rfl⟩
theorem f_X7_95 : zF RX7 95 1 4 := ⟨RX1, "AnswerPass$Pass", TX1, 10, rfl, by decide, in_X1, gW_of 130 (by decide +kernel) (by decide +kernel), rfl⟩
theorem f_X7_98 : zF RX7 98 1 5 := ⟨RX1, "AnswerPass$Pass", TX1, 10, rfl, by decide, in_X1, gW_of 134 (by decide +kernel) (by decide +kernel), rfl⟩
theorem f_X7_101 : zF RX7 101 1 6 := ⟨RX1, "AnswerPass$Pass", TX1, 10, rfl, by decide, in_X1, gW_of 137 (by decide +kernel) (by decide +kernel), rfl⟩
abbrev mX1_clearFor : zM := (yX1_clearFor, cX1_clearFor, 2, (some .int), 1)
theorem v_X1_clearFor : zVok yX1_clearFor cX1_clearFor 2 (some .int) 1 := ⟨gW_of 357 (by decide +kernel) (by decide +kernel), gW_of 355 (by decide +kernel) (by decide +kernel), gW_of 356 (by decide +kernel) (by decide +kernel), gW_of 66 (by decide +kernel) (by decide +kernel), by decide +kernel, by decide +kernel, by decide +kernel⟩
theorem l_X7_105 : Cond.methodLink RX7 105 yX1_clearFor ∈ tblG := gW_of 354 (by decide +kernel) (by decide +kernel)
abbrev mX1_paceOf : zM := (yX1_paceOf, cX1_paceOf, 3, (some .int), 1)
theorem v_X1_paceOf : zVok yX1_paceOf cX1_paceOf 3 (some .int) 2 := ⟨gW_of 380 (by decide +kernel) (by decide +kernel), gW_of 378 (by decide +kernel) (by decide +kernel), gW_of 379 (by decide +kernel) (by decide +kernel), gW_of 66 (by decide +kernel) (by decide +kernel), by decide +kernel, by decide +kernel, by decide +kernel⟩
theorem l_X7_108 : Cond.methodLink RX7 108 yX1_paceOf ∈ tblG := gW_of 377 (by decide +kernel) (by decide +kernel)
abbrev mX1_falls : zM := (yX1_falls, cX1_falls, 3, (some .boolean), 3)
theorem v_X1_falls : zVok yX1_falls cX1_falls 3 (some .boolean) 1 := ⟨gW_of 384 (by decide +kernel) (by decide +kernel), gW_of 382 (by decide +kernel) (by decide +kernel), gW_of 383 (by decide +kernel) (by decide +kernel), gW_of 66 (by decide +kernel) (by decide +kernel), by decide +kernel, by decide +kernel, by decide +kernel⟩
theorem l_X7_112 : Cond.methodLink RX7 112 yX1_falls ∈ tblG := gW_of 381 (by decide +kernel) (by decide +kernel)
abbrev mX7_isWithin : zM := (yX7_isWithin, cX7_isWithin, 3, (some .boolean), 3)
theorem v_X7_isWithin : zSok yX7_isWithin cX7_isWithin 3 (some .boolean) 3 := ⟨gW_of 329 (by decide +kernel) (by decide +kernel), gW_of 328 (by decide +kernel) (by decide +kernel), gW_of 63 (by decide +kernel) (by decide +kernel), by decide +kernel, by decide +kernel, by decide +kernel⟩
theorem l_X7_115 : Cond.methodLink RX7 115 yX7_isWithin ∈ tblG := gW_of 327 (by decide +kernel) (by decide +kernel)
abbrev mX7_isKindOrUnder : zM := (yX7_isKindOrUnder, cX7_isKindOrUnder, 4, (some .boolean), 3)
theorem v_X7_isKindOrUnder : zSok yX7_isKindOrUnder cX7_isKindOrUnder 4 (some .boolean) 2 := ⟨gW_of 395 (by decide +kernel) (by decide +kernel), gW_of 394 (by decide +kernel) (by decide +kernel), gW_of 63 (by decide +kernel) (by decide +kernel), by decide +kernel, by decide +kernel, by decide +kernel⟩
theorem l_X7_119 : Cond.methodLink RX7 119 yX7_isKindOrUnder ∈ tblG := gW_of 393 (by decide +kernel) (by decide +kernel)
abbrev mX7_isCell : zM := (yX7_isCell, cX7_isCell, 1, (some .boolean), 3)
theorem v_X7_isCell : zSok yX7_isCell cX7_isCell 1 (some .boolean) 1 := ⟨gW_of 408 (by decide +kernel) (by decide +kernel), gW_of 407 (by decide +kernel) (by decide +kernel), gW_of 63 (by decide +kernel) (by decide +kernel), by decide +kernel, by decide +kernel, by decide +kernel⟩
theorem l_X7_123 : Cond.methodLink RX7 123 yX7_isCell ∈ tblG := gW_of 406 (by decide +kernel) (by decide +kernel)
abbrev mX1_stands : zM := (yX1_stands, cX1_stands, 3, none, 0)
theorem v_X1_stands : zVok yX1_stands cX1_stands 3 none 2 := ⟨gW_of 345 (by decide +kernel) (by decide +kernel), gW_of 343 (by decide +kernel) (by decide +kernel), gW_of 344 (by decide +kernel) (by decide +kernel), gW_of 66 (by decide +kernel) (by decide +kernel), by decide +kernel, by decide +kernel, by decide +kernel⟩
theorem l_X7_126 : Cond.methodLink RX7 126 yX1_stands ∈ tblG := gW_of 409 (by decide +kernel) (by decide +kernel)
theorem f_X7_130 : zF RX7 130 1 8 := ⟨RX1, "AnswerPass$Pass", TX1, 10, rfl, by decide, in_X1, gW_of 145 (by decide +kernel) (by decide +kernel), rfl⟩
theorem f_X7_133 : zF RX7 133 4 4 := ⟨RX4, "AnswerPass$State", TX4, 8, rfl, by decide, in_X4, gW_of 177 (by decide +kernel) (by decide +kernel), rfl⟩
abbrev mX4_takesBytes : zM := (yX4_takesBytes, cX4_takesBytes, 5, none, 0)
theorem v_X4_takesBytes : zVok yX4_takesBytes cX4_takesBytes 5 none 2 := ⟨gW_of 421 (by decide +kernel) (by decide +kernel), gW_of 419 (by decide +kernel) (by decide +kernel), gW_of 420 (by decide +kernel) (by decide +kernel), gW_of 64 (by decide +kernel) (by decide +kernel), by decide +kernel, by decide +kernel, by decide +kernel⟩
theorem l_X7_136 : Cond.methodLink RX7 136 yX4_takesBytes ∈ tblG := gW_of 418 (by decide +kernel) (by decide +kernel)
abbrev mX7_isUse : zM := (yX7_isUse, cX7_isUse, 1, (some .boolean), 3)
theorem v_X7_isUse : zSok yX7_isUse cX7_isUse 1 (some .boolean) 1 := ⟨gW_of 428 (by decide +kernel) (by decide +kernel), gW_of 427 (by decide +kernel) (by decide +kernel), gW_of 63 (by decide +kernel) (by decide +kernel), by decide +kernel, by decide +kernel, by decide +kernel⟩
theorem l_X7_140 : Cond.methodLink RX7 140 yX7_isUse ∈ tblG := gW_of 426 (by decide +kernel) (by decide +kernel)
abbrev mX2_faultOf : zM := (yX2_faultOf, cX2_faultOf, 3, (some .int), 1)
theorem v_X2_faultOf : zVok yX2_faultOf cX2_faultOf 3 (some .int) 2 := ⟨gW_of 432 (by decide +kernel) (by decide +kernel), gW_of 430 (by decide +kernel) (by decide +kernel), gW_of 431 (by decide +kernel) (by decide +kernel), gW_of 67 (by decide +kernel) (by decide +kernel), by decide +kernel, by decide +kernel, by decide +kernel⟩
theorem l_X7_143 : Cond.methodLink RX7 143 yX2_faultOf ∈ tblG := gW_of 429 (by decide +kernel) (by decide +kernel)
abbrev mX4_lawOf : zM := (yX4_lawOf, cX4_lawOf, 2, (some (.object "AnswerPass$Law")), 2)
theorem v_X4_lawOf : zVok yX4_lawOf cX4_lawOf 2 (some (.object "AnswerPass$Law")) 1 := ⟨gW_of 558 (by decide +kernel) (by decide +kernel), gW_of 556 (by decide +kernel) (by decide +kernel), gW_of 557 (by decide +kernel) (by decide +kernel), gW_of 64 (by decide +kernel) (by decide +kernel), by decide +kernel, by decide +kernel, by decide +kernel⟩
theorem l_X7_146 : Cond.methodLink RX7 146 yX4_lawOf ∈ tblG := gW_of 555 (by decide +kernel) (by decide +kernel)
theorem f_X7_150 : zF RX7 150 2 1 := ⟨RX2, "AnswerPass$Reader", TX2, 6, rfl, by decide, in_X2, gW_of 210 (by decide +kernel) (by decide +kernel), rfl⟩
theorem f_X7_153 : zF RX7 153 2 2 := ⟨RX2, "AnswerPass$Reader", TX2, 6, rfl, by decide, in_X2, gW_of 212 (by decide +kernel) (by decide +kernel), rfl⟩
abbrev mX0_becomes : zM := (yX0_becomes, cX0_becomes, 3, none, 0)
theorem v_X0_becomes : zVok yX0_becomes cX0_becomes 3 none 2 := ⟨gW_of 562 (by decide +kernel) (by decide +kernel), gW_of 560 (by decide +kernel) (by decide +kernel), gW_of 561 (by decide +kernel) (by decide +kernel), gW_of 65 (by decide +kernel) (by decide +kernel), by decide +kernel, by decide +kernel, by decide +kernel⟩
theorem l_X7_156 : Cond.methodLink RX7 156 yX0_becomes ∈ tblG := gW_of 559 (by decide +kernel) (by decide +kernel)
theorem f_X7_162 : zF RX7 162 0 3 := ⟨RX0, "AnswerPass$Law", TX0, 4, rfl, by decide, in_X0, gW_of 104 (by decide +kernel) (by decide +kernel), rfl⟩
abbrev mX0_gives : zM := (yX0_gives, cX0_gives, 7, (some .int), 1)
theorem v_X0_gives : zVok yX0_gives cX0_gives 7 (some .int) 3 := ⟨gW_of 369 (by decide +kernel) (by decide +kernel), gW_of 367 (by decide +kernel) (by decide +kernel), gW_of 368 (by decide +kernel) (by decide +kernel), gW_of 65 (by decide +kernel) (by decide +kernel), by decide +kernel, by decide +kernel, by decide +kernel⟩
theorem l_X7_165 : Cond.methodLink RX7 165 yX0_gives ∈ tblG := gW_of 574 (by decide +kernel) (by decide +kernel)
theorem f_X7_168 : zF RX7 168 1 9 := ⟨RX1, "AnswerPass$Pass", TX1, 10, rfl, by decide, in_X1, gW_of 147 (by decide +kernel) (by decide +kernel), rfl⟩
abbrev mX1_anHourGoes : zM := (yX1_anHourGoes, cX1_anHourGoes, 5, none, 0)
theorem v_X1_anHourGoes : zVok yX1_anHourGoes cX1_anHourGoes 5 none 1 := ⟨gW_of 582 (by decide +kernel) (by decide +kernel), gW_of 580 (by decide +kernel) (by decide +kernel), gW_of 581 (by decide +kernel) (by decide +kernel), gW_of 66 (by decide +kernel) (by decide +kernel), by decide +kernel, by decide +kernel, by decide +kernel⟩
theorem l_X7_171 : Cond.methodLink RX7 171 yX1_anHourGoes ∈ tblG := gW_of 579 (by decide +kernel) (by decide +kernel)
abbrev mX1_through : zM := (yX1_through, cX1_through, 3, (some .int), 1)
theorem v_X1_through : zVok yX1_through cX1_through 3 (some .int) 0 := ⟨gW_of 594 (by decide +kernel) (by decide +kernel), gW_of 592 (by decide +kernel) (by decide +kernel), gW_of 593 (by decide +kernel) (by decide +kernel), gW_of 66 (by decide +kernel) (by decide +kernel), by decide +kernel, by decide +kernel, by decide +kernel⟩
theorem l_X7_175 : Cond.methodLink RX7 175 yX1_through ∈ tblG := gW_of 591 (by decide +kernel) (by decide +kernel)
abbrev mX4_drawsAnHour : zM := (yX4_drawsAnHour, cX4_drawsAnHour, 3, none, 0)
theorem v_X4_drawsAnHour : zVok yX4_drawsAnHour cX4_drawsAnHour 3 none 0 := ⟨gW_of 602 (by decide +kernel) (by decide +kernel), gW_of 600 (by decide +kernel) (by decide +kernel), gW_of 601 (by decide +kernel) (by decide +kernel), gW_of 64 (by decide +kernel) (by decide +kernel), by decide +kernel, by decide +kernel, by decide +kernel⟩
theorem l_X7_179 : Cond.methodLink RX7 179 yX4_drawsAnHour ∈ tblG := gW_of 599 (by decide +kernel) (by decide +kernel)
theorem f_X7_182 : zF RX7 182 4 7 := ⟨RX4, "AnswerPass$State", TX4, 8, rfl, by decide, in_X4, gW_of 183 (by decide +kernel) (by decide +kernel), rfl⟩
abbrev mX5_starts : zM := (yX5_starts, cX5_starts, 1, none, 0)
theorem v_X5_starts : zVok yX5_starts cX5_starts 1 none 0 := ⟨gW_of 626 (by decide +kernel) (by decide +kernel), gW_of 624 (by decide +kernel) (by decide +kernel), gW_of 625 (by decide +kernel) (by decide +kernel), gW_of 68 (by decide +kernel) (by decide +kernel), by decide +kernel, by decide +kernel, by decide +kernel⟩
theorem l_X7_185 : Cond.methodLink RX7 185 yX5_starts ∈ tblG := gW_of 623 (by decide +kernel) (by decide +kernel)
abbrev mX5_goesOn : zM := (yX5_goesOn, cX5_goesOn, 4, none, 0)
theorem v_X5_goesOn : zVok yX5_goesOn cX5_goesOn 4 none 2 := ⟨gW_of 634 (by decide +kernel) (by decide +kernel), gW_of 632 (by decide +kernel) (by decide +kernel), gW_of 633 (by decide +kernel) (by decide +kernel), gW_of 68 (by decide +kernel) (by decide +kernel), by decide +kernel, by decide +kernel, by decide +kernel⟩
theorem l_X7_188 : Cond.methodLink RX7 188 yX5_goesOn ∈ tblG := gW_of 631 (by decide +kernel) (by decide +kernel)
theorem f_X7_191 : zF RX7 191 5 1 := ⟨RX5, "AnswerPass$Thought", TX5, 2, rfl, by decide, in_X5, gW_of 240 (by decide +kernel) (by decide +kernel), rfl⟩
abbrev mX5_hoursTo : zM := (yX5_hoursTo, cX5_hoursTo, 5, (some .int), 1)
theorem v_X5_hoursTo : zVok yX5_hoursTo cX5_hoursTo 5 (some .int) 3 := ⟨gW_of 643 (by decide +kernel) (by decide +kernel), gW_of 641 (by decide +kernel) (by decide +kernel), gW_of 642 (by decide +kernel) (by decide +kernel), gW_of 68 (by decide +kernel) (by decide +kernel), by decide +kernel, by decide +kernel, by decide +kernel⟩
theorem l_X7_192 : Cond.methodLink RX7 192 yX5_hoursTo ∈ tblG := gW_of 640 (by decide +kernel) (by decide +kernel)
abbrev mX7_isNear : zM := (yX7_isNear, cX7_isNear, 1, (some .boolean), 3)
theorem v_X7_isNear : zSok yX7_isNear cX7_isNear 1 (some .boolean) 1 := ⟨gW_of 650 (by decide +kernel) (by decide +kernel), gW_of 649 (by decide +kernel) (by decide +kernel), gW_of 63 (by decide +kernel) (by decide +kernel), by decide +kernel, by decide +kernel, by decide +kernel⟩
theorem l_X7_195 : Cond.methodLink RX7 195 yX7_isNear ∈ tblG := gW_of 648 (by decide +kernel) (by decide +kernel)
abbrev mX5_comesWith : zM := (yX5_comesWith, cX5_comesWith, 5, (some .boolean), 3)
theorem v_X5_comesWith : zVok yX5_comesWith cX5_comesWith 5 (some .boolean) 4 := ⟨gW_of 654 (by decide +kernel) (by decide +kernel), gW_of 652 (by decide +kernel) (by decide +kernel), gW_of 653 (by decide +kernel) (by decide +kernel), gW_of 68 (by decide +kernel) (by decide +kernel), by decide +kernel, by decide +kernel, by decide +kernel⟩
theorem l_X7_198 : Cond.methodLink RX7 198 yX5_comesWith ∈ tblG := gW_of 651 (by decide +kernel) (by decide +kernel)
abbrev mX5_leastFilled : zM := (yX5_leastFilled, cX5_leastFilled, 7, (some .int), 1)
theorem v_X5_leastFilled : zVok yX5_leastFilled cX5_leastFilled 7 (some .int) 3 := ⟨gW_of 664 (by decide +kernel) (by decide +kernel), gW_of 662 (by decide +kernel) (by decide +kernel), gW_of 663 (by decide +kernel) (by decide +kernel), gW_of 68 (by decide +kernel) (by decide +kernel), by decide +kernel, by decide +kernel, by decide +kernel⟩
theorem l_X7_202 : Cond.methodLink RX7 202 yX5_leastFilled ∈ tblG := gW_of 661 (by decide +kernel) (by decide +kernel)
abbrev mJ6_bitCount_0f7a4 : zM := (yJ6_bitCount_0f7a4, cJ6_bitCount_0f7a4, 1, (some .int), 1)
theorem v_J6_bitCount_0f7a4 : zSok yJ6_bitCount_0f7a4 cJ6_bitCount_0f7a4 1 (some .int) 1 := ⟨gW_of 675 (by decide +kernel) (by decide +kernel), gW_of 674 (by decide +kernel) (by decide +kernel), gW_of 79 (by decide +kernel) (by decide +kernel), by decide +kernel, by decide +kernel, by decide +kernel⟩
theorem l_X7_205 : Cond.methodLink RX7 205 yJ6_bitCount_0f7a4 ∈ tblG := gW_of 673 (by decide +kernel) (by decide +kernel)
abbrev mX5_howFarWith : zM := (yX5_howFarWith, cX5_howFarWith, 4, (some .int), 1)
theorem v_X5_howFarWith : zVok yX5_howFarWith cX5_howFarWith 4 (some .int) 3 := ⟨gW_of 686 (by decide +kernel) (by decide +kernel), gW_of 684 (by decide +kernel) (by decide +kernel), gW_of 685 (by decide +kernel) (by decide +kernel), gW_of 68 (by decide +kernel) (by decide +kernel), by decide +kernel, by decide +kernel, by decide +kernel⟩
theorem l_X7_210 : Cond.methodLink RX7 210 yX5_howFarWith ∈ tblG := gW_of 683 (by decide +kernel) (by decide +kernel)
abbrev mX7_commonDivisor : zM := (yX7_commonDivisor, cX7_commonDivisor, 6, (some .int), 1)
theorem v_X7_commonDivisor : zSok yX7_commonDivisor cX7_commonDivisor 6 (some .int) 2 := ⟨gW_of 695 (by decide +kernel) (by decide +kernel), gW_of 694 (by decide +kernel) (by decide +kernel), gW_of 63 (by decide +kernel) (by decide +kernel), by decide +kernel, by decide +kernel, by decide +kernel⟩
theorem l_X7_213 : Cond.methodLink RX7 213 yX7_commonDivisor ∈ tblG := gW_of 693 (by decide +kernel) (by decide +kernel)
abbrev mX7_isSheet : zM := (yX7_isSheet, cX7_isSheet, 1, (some .boolean), 3)
theorem v_X7_isSheet : zSok yX7_isSheet cX7_isSheet 1 (some .boolean) 1 := ⟨gW_of 702 (by decide +kernel) (by decide +kernel), gW_of 701 (by decide +kernel) (by decide +kernel), gW_of 63 (by decide +kernel) (by decide +kernel), by decide +kernel, by decide +kernel, by decide +kernel⟩
theorem l_X7_216 : Cond.methodLink RX7 216 yX7_isSheet ∈ tblG := gW_of 700 (by decide +kernel) (by decide +kernel)
abbrev mX3_isMissing : zM := (yX3_isMissing, cX3_isMissing, 2, (some .boolean), 3)
theorem v_X3_isMissing : zVok yX3_isMissing cX3_isMissing 2 (some .boolean) 1 := ⟨gW_of 706 (by decide +kernel) (by decide +kernel), gW_of 704 (by decide +kernel) (by decide +kernel), gW_of 705 (by decide +kernel) (by decide +kernel), gW_of 70 (by decide +kernel) (by decide +kernel), by decide +kernel, by decide +kernel, by decide +kernel⟩
theorem l_X7_219 : Cond.methodLink RX7 219 yX3_isMissing ∈ tblG := gW_of 703 (by decide +kernel) (by decide +kernel)
theorem f_X7_222 : zF RX7 222 3 2 := ⟨RX3, "AnswerPass$Sheets", TX3, 3, rfl, by decide, in_X3, gW_of 287 (by decide +kernel) (by decide +kernel), rfl⟩
theorem f_X7_226 : zF RX7 226 3 1 := ⟨RX3, "AnswerPass$Sheets", TX3, 3, rfl, by decide, in_X3, gW_of 285 (by decide +kernel) (by decide +kernel), rfl⟩
abbrev mX5_clearsAs : zM := (yX5_clearsAs, cX5_clearsAs, 6, (some .boolean), 3)
theorem v_X5_clearsAs : zVok yX5_clearsAs cX5_clearsAs 6 (some .boolean) 4 := ⟨gW_of 710 (by decide +kernel) (by decide +kernel), gW_of 708 (by decide +kernel) (by decide +kernel), gW_of 709 (by decide +kernel) (by decide +kernel), gW_of 68 (by decide +kernel) (by decide +kernel), by decide +kernel, by decide +kernel, by decide +kernel⟩
theorem l_X7_229 : Cond.methodLink RX7 229 yX5_clearsAs ∈ tblG := gW_of 707 (by decide +kernel) (by decide +kernel)
abbrev mX6_speaks : zM := (yX6_speaks, cX6_speaks, 6, (some .int), 1)
theorem v_X6_speaks : zVok yX6_speaks cX6_speaks 6 (some .int) 5 := ⟨gW_of 719 (by decide +kernel) (by decide +kernel), gW_of 717 (by decide +kernel) (by decide +kernel), gW_of 718 (by decide +kernel) (by decide +kernel), gW_of 69 (by decide +kernel) (by decide +kernel), by decide +kernel, by decide +kernel, by decide +kernel⟩
theorem l_X7_233 : Cond.methodLink RX7 233 yX6_speaks ∈ tblG := gW_of 716 (by decide +kernel) (by decide +kernel)
theorem f_X7_237 : zF RX7 237 6 2 := ⟨RX6, "AnswerPass$Voices", TX6, 6, rfl, by decide, in_X6, gW_of 257 (by decide +kernel) (by decide +kernel), rfl⟩
theorem f_X7_241 : zF RX7 241 6 1 := ⟨RX6, "AnswerPass$Voices", TX6, 6, rfl, by decide, in_X6, gW_of 255 (by decide +kernel) (by decide +kernel), rfl⟩
theorem f_X7_244 : zF RX7 244 6 0 := ⟨RX6, "AnswerPass$Voices", TX6, 6, rfl, by decide, in_X6, gW_of 253 (by decide +kernel) (by decide +kernel), rfl⟩
abbrev mX3_lays : zM := (yX3_lays, cX3_lays, 5, none, 0)
theorem v_X3_lays : zVok yX3_lays cX3_lays 5 none 3 := ⟨gW_of 761 (by decide +kernel) (by decide +kernel), gW_of 759 (by decide +kernel) (by decide +kernel), gW_of 760 (by decide +kernel) (by decide +kernel), gW_of 70 (by decide +kernel) (by decide +kernel), by decide +kernel, by decide +kernel, by decide +kernel⟩
theorem l_X7_247 : Cond.methodLink RX7 247 yX3_lays ∈ tblG := gW_of 758 (by decide +kernel) (by decide +kernel)
abbrev mX3_lowest : zM := (yX3_lowest, cX3_lowest, 3, (some .int), 1)
theorem v_X3_lowest : zVok yX3_lowest cX3_lowest 3 (some .int) 2 := ⟨gW_of 769 (by decide +kernel) (by decide +kernel), gW_of 767 (by decide +kernel) (by decide +kernel), gW_of 768 (by decide +kernel) (by decide +kernel), gW_of 70 (by decide +kernel) (by decide +kernel), by decide +kernel, by decide +kernel, by decide +kernel⟩
theorem l_X7_251 : Cond.methodLink RX7 251 yX3_lowest ∈ tblG := gW_of 766 (by decide +kernel) (by decide +kernel)
theorem f_X7_254 : zF RX7 254 3 0 := ⟨RX3, "AnswerPass$Sheets", TX3, 3, rfl, by decide, in_X3, gW_of 283 (by decide +kernel) (by decide +kernel), rfl⟩
abbrev mX3_holds : zM := (yX3_holds, cX3_holds, 4, (some .boolean), 3)
theorem v_X3_holds : zVok yX3_holds cX3_holds 4 (some .boolean) 3 := ⟨gW_of 777 (by decide +kernel) (by decide +kernel), gW_of 775 (by decide +kernel) (by decide +kernel), gW_of 776 (by decide +kernel) (by decide +kernel), gW_of 70 (by decide +kernel) (by decide +kernel), by decide +kernel, by decide +kernel, by decide +kernel⟩
theorem l_X7_257 : Cond.methodLink RX7 257 yX3_holds ∈ tblG := gW_of 774 (by decide +kernel) (by decide +kernel)
theorem l_X7_260 : Cond.methodLink RX7 260 arraycopyName ∈ tblG := gW_of 778 (by decide +kernel) (by decide +kernel)
theorem l_X7_266 : Cond.methodLink RX7 266 Lib.Math.min.name ∈ tblG := gW_of 783 (by decide +kernel) (by decide +kernel)
abbrev mX1_howManyAre : zM := (yX1_howManyAre, cX1_howManyAre, 5, (some .int), 1)
theorem v_X1_howManyAre : zVok yX1_howManyAre cX1_howManyAre 5 (some .int) 3 := ⟨gW_of 791 (by decide +kernel) (by decide +kernel), gW_of 789 (by decide +kernel) (by decide +kernel), gW_of 790 (by decide +kernel) (by decide +kernel), gW_of 66 (by decide +kernel) (by decide +kernel), by decide +kernel, by decide +kernel, by decide +kernel⟩
theorem l_X7_271 : Cond.methodLink RX7 271 yX1_howManyAre ∈ tblG := gW_of 788 (by decide +kernel) (by decide +kernel)
abbrev mX4_copies : zM := (yX4_copies, cX4_copies, 2, none, 0)
theorem v_X4_copies : zVok yX4_copies cX4_copies 2 none 1 := ⟨gW_of 799 (by decide +kernel) (by decide +kernel), gW_of 797 (by decide +kernel) (by decide +kernel), gW_of 798 (by decide +kernel) (by decide +kernel), gW_of 64 (by decide +kernel) (by decide +kernel), by decide +kernel, by decide +kernel, by decide +kernel⟩
theorem l_X7_275 : Cond.methodLink RX7 275 yX4_copies ∈ tblG := gW_of 796 (by decide +kernel) (by decide +kernel)
theorem f_X7_279 : zF RX7 279 4 6 := ⟨RX4, "AnswerPass$State", TX4, 8, rfl, by decide, in_X4, gW_of 181 (by decide +kernel) (by decide +kernel), rfl⟩
theorem f_X7_282 : zF RX7 282 4 5 := ⟨RX4, "AnswerPass$State", TX4, 8, rfl, by decide, in_X4, gW_of 179 (by decide +kernel) (by decide +kernel), rfl⟩
theorem k_X7_285 : Cond.constant RX7 285 (-1000000000) ∈ tblG := gW_of 337 (by decide +kernel) (by decide +kernel)
theorem f_X7_286 : Cond.fieldLink RX7 286 "AnswerPass" "ABOVE" "[I" ∈ tblG := gW_of 396 (by decide +kernel) (by decide +kernel)
theorem f_X8_7 : zF RX8 7 8 0 := ⟨RX8, "AnswerPassModel", TX8, 20, rfl, by decide, in_X8, gW_of 833 (by decide +kernel) (by decide +kernel), rfl⟩
theorem f_X8_13 : zF RX8 13 8 1 := ⟨RX8, "AnswerPassModel", TX8, 20, rfl, by decide, in_X8, gW_of 834 (by decide +kernel) (by decide +kernel), rfl⟩
theorem f_X8_16 : zF RX8 16 8 2 := ⟨RX8, "AnswerPassModel", TX8, 20, rfl, by decide, in_X8, gW_of 835 (by decide +kernel) (by decide +kernel), rfl⟩
theorem f_X8_19 : zF RX8 19 8 4 := ⟨RX8, "AnswerPassModel", TX8, 20, rfl, by decide, in_X8, gW_of 837 (by decide +kernel) (by decide +kernel), rfl⟩
theorem f_X8_22 : zF RX8 22 8 9 := ⟨RX8, "AnswerPassModel", TX8, 20, rfl, by decide, in_X8, gW_of 842 (by decide +kernel) (by decide +kernel), rfl⟩
theorem f_X8_25 : zF RX8 25 8 10 := ⟨RX8, "AnswerPassModel", TX8, 20, rfl, by decide, in_X8, gW_of 843 (by decide +kernel) (by decide +kernel), rfl⟩
theorem f_X8_28 : zF RX8 28 8 11 := ⟨RX8, "AnswerPassModel", TX8, 20, rfl, by decide, in_X8, gW_of 844 (by decide +kernel) (by decide +kernel), rfl⟩
theorem f_X8_31 : zF RX8 31 8 13 := ⟨RX8, "AnswerPassModel", TX8, 20, rfl, by decide, in_X8, gW_of 846 (by decide +kernel) (by decide +kernel), rfl⟩
theorem f_X8_34 : zF RX8 34 8 16 := ⟨RX8, "AnswerPassModel", TX8, 20, rfl, by decide, in_X8, gW_of 849 (by decide +kernel) (by decide +kernel), rfl⟩
theorem f_X8_37 : zF RX8 37 8 17 := ⟨RX8, "AnswerPassModel", TX8, 20, rfl, by decide, in_X8, gW_of 850 (by decide +kernel) (by decide +kernel), rfl⟩
theorem f_X8_40 : zF RX8 40 8 18 := ⟨RX8, "AnswerPassModel", TX8, 20, rfl, by decide, in_X8, gW_of 851 (by decide +kernel) (by decide +kernel), rfl⟩
theorem f_X8_43 : zF RX8 43 8 19 := ⟨RX8, "AnswerPassModel", TX8, 20, rfl, by decide, in_X8, gW_of 852 (by decide +kernel) (by decide +kernel), rfl⟩
theorem k_X8_46 : Cond.constant RX8 46 (-1000000000) ∈ tblG := gW_of 905 (by decide +kernel) (by decide +kernel)
abbrev mX8_in : zM := (yX8_in, cX8_in, 3, (some .boolean), 3)
theorem v_X8_in : zSok yX8_in cX8_in 3 (some .boolean) 3 := ⟨gW_of 900 (by decide +kernel) (by decide +kernel), gW_of 899 (by decide +kernel) (by decide +kernel), gW_of 71 (by decide +kernel) (by decide +kernel), by decide +kernel, by decide +kernel, by decide +kernel⟩
theorem l_X8_47 : Cond.methodLink RX8 47 yX8_in ∈ tblG := gW_of 898 (by decide +kernel) (by decide +kernel)
abbrev mX8_error : zM := (yX8_error, cX8_error, 2, (some .int), 1)
theorem v_X8_error : zVok yX8_error cX8_error 2 (some .int) 1 := ⟨gW_of 904 (by decide +kernel) (by decide +kernel), gW_of 903 (by decide +kernel) (by decide +kernel), gW_of 15 (by decide +kernel) (by decide +kernel), gW_of 71 (by decide +kernel) (by decide +kernel), by decide +kernel, by decide +kernel, by decide +kernel⟩
theorem l_X8_51 : Cond.methodLink RX8 51 yX8_error ∈ tblG := gW_of 901 (by decide +kernel) (by decide +kernel)
theorem k_X8_55 : Cond.constantLong RX8 55 255 ∈ tblG := gW_of 906 (by decide +kernel) (by decide +kernel)
theorem f_X8_57 : zF RX8 57 8 5 := ⟨RX8, "AnswerPassModel", TX8, 20, rfl, by decide, in_X8, gW_of 838 (by decide +kernel) (by decide +kernel), rfl⟩
theorem f_X8_61 : zF RX8 61 8 8 := ⟨RX8, "AnswerPassModel", TX8, 20, rfl, by decide, in_X8, gW_of 841 (by decide +kernel) (by decide +kernel), rfl⟩
theorem f_X8_64 : zF RX8 64 8 7 := ⟨RX8, "AnswerPassModel", TX8, 20, rfl, by decide, in_X8, gW_of 840 (by decide +kernel) (by decide +kernel), rfl⟩
abbrev mX8_both : zM := (yX8_both, cX8_both, 1, (some .boolean), 3)
theorem v_X8_both : zVok yX8_both cX8_both 1 (some .boolean) 0 := ⟨gW_of 918 (by decide +kernel) (by decide +kernel), gW_of 917 (by decide +kernel) (by decide +kernel), gW_of 17 (by decide +kernel) (by decide +kernel), gW_of 71 (by decide +kernel) (by decide +kernel), by decide +kernel, by decide +kernel, by decide +kernel⟩
theorem l_X8_67 : Cond.methodLink RX8 67 yX8_both ∈ tblG := gW_of 915 (by decide +kernel) (by decide +kernel)
abbrev mX8_look : zM := (yX8_look, cX8_look, 1, (some .int), 1)
theorem v_X8_look : zVok yX8_look cX8_look 1 (some .int) 0 := ⟨gW_of 938 (by decide +kernel) (by decide +kernel), gW_of 937 (by decide +kernel) (by decide +kernel), gW_of 22 (by decide +kernel) (by decide +kernel), gW_of 71 (by decide +kernel) (by decide +kernel), by decide +kernel, by decide +kernel, by decide +kernel⟩
theorem l_X8_71 : Cond.methodLink RX8 71 yX8_look ∈ tblG := gW_of 935 (by decide +kernel) (by decide +kernel)
abbrev mX8_step1 : zM := (yX8_step1, cX8_step1, 3, none, 0)
theorem v_X8_step1 : zVok yX8_step1 cX8_step1 3 none 2 := ⟨gW_of 946 (by decide +kernel) (by decide +kernel), gW_of 945 (by decide +kernel) (by decide +kernel), gW_of 24 (by decide +kernel) (by decide +kernel), gW_of 71 (by decide +kernel) (by decide +kernel), by decide +kernel, by decide +kernel, by decide +kernel⟩
theorem l_X8_75 : Cond.methodLink RX8 75 yX8_step1 ∈ tblG := gW_of 943 (by decide +kernel) (by decide +kernel)
abbrev mX8_compared : zM := (yX8_compared, cX8_compared, 2, (some .boolean), 3)
theorem v_X8_compared : zVok yX8_compared cX8_compared 2 (some .boolean) 0 := ⟨gW_of 922 (by decide +kernel) (by decide +kernel), gW_of 921 (by decide +kernel) (by decide +kernel), gW_of 18 (by decide +kernel) (by decide +kernel), gW_of 71 (by decide +kernel) (by decide +kernel), by decide +kernel, by decide +kernel, by decide +kernel⟩
theorem l_X8_79 : Cond.methodLink RX8 79 yX8_compared ∈ tblG := gW_of 919 (by decide +kernel) (by decide +kernel)
abbrev mX8_sum : zM := (yX8_sum, cX8_sum, 2, (some .boolean), 3)
theorem v_X8_sum : zVok yX8_sum cX8_sum 2 (some .boolean) 0 := ⟨gW_of 926 (by decide +kernel) (by decide +kernel), gW_of 925 (by decide +kernel) (by decide +kernel), gW_of 19 (by decide +kernel) (by decide +kernel), gW_of 71 (by decide +kernel) (by decide +kernel), by decide +kernel, by decide +kernel, by decide +kernel⟩
theorem l_X8_82 : Cond.methodLink RX8 82 yX8_sum ∈ tblG := gW_of 923 (by decide +kernel) (by decide +kernel)
abbrev mX8_product : zM := (yX8_product, cX8_product, 2, (some .boolean), 3)
theorem v_X8_product : zVok yX8_product cX8_product 2 (some .boolean) 0 := ⟨gW_of 930 (by decide +kernel) (by decide +kernel), gW_of 929 (by decide +kernel) (by decide +kernel), gW_of 20 (by decide +kernel) (by decide +kernel), gW_of 71 (by decide +kernel) (by decide +kernel), by decide +kernel, by decide +kernel, by decide +kernel⟩
theorem l_X8_85 : Cond.methodLink RX8 85 yX8_product ∈ tblG := gW_of 927 (by decide +kernel) (by decide +kernel)
abbrev mX8_one : zM := (yX8_one, cX8_one, 4, (some .boolean), 3)
theorem v_X8_one : zVok yX8_one cX8_one 4 (some .boolean) 0 := ⟨gW_of 934 (by decide +kernel) (by decide +kernel), gW_of 933 (by decide +kernel) (by decide +kernel), gW_of 21 (by decide +kernel) (by decide +kernel), gW_of 71 (by decide +kernel) (by decide +kernel), by decide +kernel, by decide +kernel, by decide +kernel⟩
theorem l_X8_88 : Cond.methodLink RX8 88 yX8_one ∈ tblG := gW_of 931 (by decide +kernel) (by decide +kernel)
theorem f_X8_91 : zF RX8 91 8 6 := ⟨RX8, "AnswerPassModel", TX8, 20, rfl, by decide, in_X8, gW_of 839 (by decide +kernel) (by decide +kernel), rfl⟩
abbrev mX8_isName : zM := (yX8_isName, cX8_isName, 2, (some .boolean), 3)
theorem v_X8_isName : zVok yX8_isName cX8_isName 2 (some .boolean) 1 := ⟨gW_of 942 (by decide +kernel) (by decide +kernel), gW_of 941 (by decide +kernel) (by decide +kernel), gW_of 23 (by decide +kernel) (by decide +kernel), gW_of 71 (by decide +kernel) (by decide +kernel), by decide +kernel, by decide +kernel, by decide +kernel⟩
theorem l_X8_94 : Cond.methodLink RX8 94 yX8_isName ∈ tblG := gW_of 939 (by decide +kernel) (by decide +kernel)
abbrev mX8_opens : zM := (yX8_opens, cX8_opens, 1, (some .boolean), 3)
theorem v_X8_opens : zVok yX8_opens cX8_opens 1 (some .boolean) 0 := ⟨gW_of 950 (by decide +kernel) (by decide +kernel), gW_of 949 (by decide +kernel) (by decide +kernel), gW_of 25 (by decide +kernel) (by decide +kernel), gW_of 71 (by decide +kernel) (by decide +kernel), by decide +kernel, by decide +kernel, by decide +kernel⟩
theorem l_X8_98 : Cond.methodLink RX8 98 yX8_opens ∈ tblG := gW_of 947 (by decide +kernel) (by decide +kernel)
abbrev mX8_whole : zM := (yX8_whole, cX8_whole, 1, (some .boolean), 3)
theorem v_X8_whole : zVok yX8_whole cX8_whole 1 (some .boolean) 0 := ⟨gW_of 914 (by decide +kernel) (by decide +kernel), gW_of 913 (by decide +kernel) (by decide +kernel), gW_of 16 (by decide +kernel) (by decide +kernel), gW_of 71 (by decide +kernel) (by decide +kernel), by decide +kernel, by decide +kernel, by decide +kernel⟩
theorem l_X8_101 : Cond.methodLink RX8 101 yX8_whole ∈ tblG := gW_of 911 (by decide +kernel) (by decide +kernel)
abbrev mX8_hasText : zM := (yX8_hasText, cX8_hasText, 2, (some .boolean), 3)
theorem v_X8_hasText : zVok yX8_hasText cX8_hasText 2 (some .boolean) 1 := ⟨gW_of 958 (by decide +kernel) (by decide +kernel), gW_of 957 (by decide +kernel) (by decide +kernel), gW_of 26 (by decide +kernel) (by decide +kernel), gW_of 71 (by decide +kernel) (by decide +kernel), by decide +kernel, by decide +kernel, by decide +kernel⟩
theorem l_X8_104 : Cond.methodLink RX8 104 yX8_hasText ∈ tblG := gW_of 955 (by decide +kernel) (by decide +kernel)
abbrev mX8_joined : zM := (yX8_joined, cX8_joined, 3, (some .int), 1)
theorem v_X8_joined : zSok yX8_joined cX8_joined 3 (some .int) 3 := ⟨gW_of 1004 (by decide +kernel) (by decide +kernel), gW_of 1003 (by decide +kernel) (by decide +kernel), gW_of 71 (by decide +kernel) (by decide +kernel), by decide +kernel, by decide +kernel, by decide +kernel⟩
theorem l_X8_107 : Cond.methodLink RX8 107 yX8_joined ∈ tblG := gW_of 1002 (by decide +kernel) (by decide +kernel)
abbrev mX8_its : zM := (yX8_its, cX8_its, 3, (some .int), 1)
theorem v_X8_its : zVok yX8_its cX8_its 3 (some .int) 2 := ⟨gW_of 989 (by decide +kernel) (by decide +kernel), gW_of 988 (by decide +kernel) (by decide +kernel), gW_of 31 (by decide +kernel) (by decide +kernel), gW_of 71 (by decide +kernel) (by decide +kernel), by decide +kernel, by decide +kernel, by decide +kernel⟩
theorem l_X8_111 : Cond.methodLink RX8 111 yX8_its ∈ tblG := gW_of 986 (by decide +kernel) (by decide +kernel)
abbrev mX8_together : zM := (yX8_together, cX8_together, 4, (some .int), 1)
theorem v_X8_together : zVok yX8_together cX8_together 4 (some .int) 1 := ⟨gW_of 993 (by decide +kernel) (by decide +kernel), gW_of 992 (by decide +kernel) (by decide +kernel), gW_of 32 (by decide +kernel) (by decide +kernel), gW_of 71 (by decide +kernel) (by decide +kernel), by decide +kernel, by decide +kernel, by decide +kernel⟩
theorem l_X8_115 : Cond.methodLink RX8 115 yX8_together ∈ tblG := gW_of 990 (by decide +kernel) (by decide +kernel)
abbrev mX8_worked : zM := (yX8_worked, cX8_worked, 7, (some .int), 1)
theorem v_X8_worked : zVok yX8_worked cX8_worked 7 (some .int) 1 := ⟨gW_of 1001 (by decide +kernel) (by decide +kernel), gW_of 1000 (by decide +kernel) (by decide +kernel), gW_of 34 (by decide +kernel) (by decide +kernel), gW_of 71 (by decide +kernel) (by decide +kernel), by decide +kernel, by decide +kernel, by decide +kernel⟩
theorem l_X8_118 : Cond.methodLink RX8 118 yX8_worked ∈ tblG := gW_of 998 (by decide +kernel) (by decide +kernel)
abbrev mX8_held : zM := (yX8_held, cX8_held, 3, (some .int), 1)
theorem v_X8_held : zSok yX8_held cX8_held 3 (some .int) 3 := ⟨gW_of 1007 (by decide +kernel) (by decide +kernel), gW_of 1006 (by decide +kernel) (by decide +kernel), gW_of 71 (by decide +kernel) (by decide +kernel), by decide +kernel, by decide +kernel, by decide +kernel⟩
theorem l_X8_121 : Cond.methodLink RX8 121 yX8_held ∈ tblG := gW_of 1005 (by decide +kernel) (by decide +kernel)
abbrev mX8_seesOf : zM := (yX8_seesOf, cX8_seesOf, 4, (some .int), 1)
theorem v_X8_seesOf : zVok yX8_seesOf cX8_seesOf 4 (some .int) 1 := ⟨gW_of 985 (by decide +kernel) (by decide +kernel), gW_of 984 (by decide +kernel) (by decide +kernel), gW_of 30 (by decide +kernel) (by decide +kernel), gW_of 71 (by decide +kernel) (by decide +kernel), by decide +kernel, by decide +kernel, by decide +kernel⟩
theorem l_X8_124 : Cond.methodLink RX8 124 yX8_seesOf ∈ tblG := gW_of 982 (by decide +kernel) (by decide +kernel)
abbrev mX8_clearTold : zM := (yX8_clearTold, cX8_clearTold, 4, (some .int), 1)
theorem v_X8_clearTold : zVok yX8_clearTold cX8_clearTold 4 (some .int) 3 := ⟨gW_of 997 (by decide +kernel) (by decide +kernel), gW_of 996 (by decide +kernel) (by decide +kernel), gW_of 33 (by decide +kernel) (by decide +kernel), gW_of 71 (by decide +kernel) (by decide +kernel), by decide +kernel, by decide +kernel, by decide +kernel⟩
theorem l_X8_127 : Cond.methodLink RX8 127 yX8_clearTold ∈ tblG := gW_of 994 (by decide +kernel) (by decide +kernel)
abbrev mX8_clearOf : zM := (yX8_clearOf, cX8_clearOf, 2, (some .int), 1)
theorem v_X8_clearOf : zVok yX8_clearOf cX8_clearOf 2 (some .int) 1 := ⟨gW_of 981 (by decide +kernel) (by decide +kernel), gW_of 980 (by decide +kernel) (by decide +kernel), gW_of 29 (by decide +kernel) (by decide +kernel), gW_of 71 (by decide +kernel) (by decide +kernel), by decide +kernel, by decide +kernel, by decide +kernel⟩
theorem l_X8_130 : Cond.methodLink RX8 130 yX8_clearOf ∈ tblG := gW_of 978 (by decide +kernel) (by decide +kernel)
abbrev mX8_paceTold : zM := (yX8_paceTold, cX8_paceTold, 4, (some .int), 1)
theorem v_X8_paceTold : zVok yX8_paceTold cX8_paceTold 4 (some .int) 3 := ⟨gW_of 1015 (by decide +kernel) (by decide +kernel), gW_of 1014 (by decide +kernel) (by decide +kernel), gW_of 36 (by decide +kernel) (by decide +kernel), gW_of 71 (by decide +kernel) (by decide +kernel), by decide +kernel, by decide +kernel, by decide +kernel⟩
theorem l_X8_133 : Cond.methodLink RX8 133 yX8_paceTold ∈ tblG := gW_of 1012 (by decide +kernel) (by decide +kernel)
abbrev mX8_doesFall : zM := (yX8_doesFall, cX8_doesFall, 3, (some .boolean), 3)
theorem v_X8_doesFall : zVok yX8_doesFall cX8_doesFall 3 (some .boolean) 1 := ⟨gW_of 1019 (by decide +kernel) (by decide +kernel), gW_of 1018 (by decide +kernel) (by decide +kernel), gW_of 37 (by decide +kernel) (by decide +kernel), gW_of 71 (by decide +kernel) (by decide +kernel), by decide +kernel, by decide +kernel, by decide +kernel⟩
theorem l_X8_136 : Cond.methodLink RX8 136 yX8_doesFall ∈ tblG := gW_of 1016 (by decide +kernel) (by decide +kernel)
abbrev mX8_isDrop : zM := (yX8_isDrop, cX8_isDrop, 2, (some .boolean), 3)
theorem v_X8_isDrop : zVok yX8_isDrop cX8_isDrop 2 (some .boolean) 1 := ⟨gW_of 1077 (by decide +kernel) (by decide +kernel), gW_of 1076 (by decide +kernel) (by decide +kernel), gW_of 43 (by decide +kernel) (by decide +kernel), gW_of 71 (by decide +kernel) (by decide +kernel), by decide +kernel, by decide +kernel, by decide +kernel⟩
theorem l_X8_139 : Cond.methodLink RX8 139 yX8_isDrop ∈ tblG := gW_of 1074 (by decide +kernel) (by decide +kernel)
abbrev mX8_lays1 : zM := (yX8_lays1, cX8_lays1, 4, none, 0)
theorem v_X8_lays1 : zVok yX8_lays1 cX8_lays1 4 none 3 := ⟨gW_of 969 (by decide +kernel) (by decide +kernel), gW_of 968 (by decide +kernel) (by decide +kernel), gW_of 27 (by decide +kernel) (by decide +kernel), gW_of 71 (by decide +kernel) (by decide +kernel), by decide +kernel, by decide +kernel, by decide +kernel⟩
theorem l_X8_142 : Cond.methodLink RX8 142 yX8_lays1 ∈ tblG := gW_of 966 (by decide +kernel) (by decide +kernel)
abbrev mX8_walks1 : zM := (yX8_walks1, cX8_walks1, 9, none, 0)
theorem v_X8_walks1 : zVok yX8_walks1 cX8_walks1 9 none 1 := ⟨gW_of 1073 (by decide +kernel) (by decide +kernel), gW_of 1072 (by decide +kernel) (by decide +kernel), gW_of 42 (by decide +kernel) (by decide +kernel), gW_of 71 (by decide +kernel) (by decide +kernel), by decide +kernel, by decide +kernel, by decide +kernel⟩
theorem l_X8_146 : Cond.methodLink RX8 146 yX8_walks1 ∈ tblG := gW_of 1070 (by decide +kernel) (by decide +kernel)
abbrev mX8_anHour : zM := (yX8_anHour, cX8_anHour, 2, none, 0)
theorem v_X8_anHour : zVok yX8_anHour cX8_anHour 2 none 0 := ⟨gW_of 1069 (by decide +kernel) (by decide +kernel), gW_of 1068 (by decide +kernel) (by decide +kernel), gW_of 41 (by decide +kernel) (by decide +kernel), gW_of 71 (by decide +kernel) (by decide +kernel), by decide +kernel, by decide +kernel, by decide +kernel⟩
theorem l_X8_150 : Cond.methodLink RX8 150 yX8_anHour ∈ tblG := gW_of 1066 (by decide +kernel) (by decide +kernel)
theorem k_X8_153 : Cond.constant RX8 153 1103515245 ∈ tblG := gW_of 1094 (by decide +kernel) (by decide +kernel)
abbrev mX8_isKind : zM := (yX8_isKind, cX8_isKind, 1, (some .boolean), 3)
theorem v_X8_isKind : zSok yX8_isKind cX8_isKind 1 (some .boolean) 1 := ⟨gW_of 965 (by decide +kernel) (by decide +kernel), gW_of 964 (by decide +kernel) (by decide +kernel), gW_of 71 (by decide +kernel) (by decide +kernel), by decide +kernel, by decide +kernel, by decide +kernel⟩
theorem l_X8_154 : Cond.methodLink RX8 154 yX8_isKind ∈ tblG := gW_of 963 (by decide +kernel) (by decide +kernel)
abbrev mX8_isPerson : zM := (yX8_isPerson, cX8_isPerson, 2, (some .boolean), 3)
theorem v_X8_isPerson : zVok yX8_isPerson cX8_isPerson 2 (some .boolean) 1 := ⟨gW_of 977 (by decide +kernel) (by decide +kernel), gW_of 976 (by decide +kernel) (by decide +kernel), gW_of 28 (by decide +kernel) (by decide +kernel), gW_of 71 (by decide +kernel) (by decide +kernel), by decide +kernel, by decide +kernel, by decide +kernel⟩
theorem l_X8_157 : Cond.methodLink RX8 157 yX8_isPerson ∈ tblG := gW_of 974 (by decide +kernel) (by decide +kernel)
abbrev mX8_paceOf : zM := (yX8_paceOf, cX8_paceOf, 2, (some .int), 1)
theorem v_X8_paceOf : zVok yX8_paceOf cX8_paceOf 2 (some .int) 1 := ⟨gW_of 1011 (by decide +kernel) (by decide +kernel), gW_of 1010 (by decide +kernel) (by decide +kernel), gW_of 35 (by decide +kernel) (by decide +kernel), gW_of 71 (by decide +kernel) (by decide +kernel), by decide +kernel, by decide +kernel, by decide +kernel⟩
theorem l_X8_160 : Cond.methodLink RX8 160 yX8_paceOf ∈ tblG := gW_of 1008 (by decide +kernel) (by decide +kernel)
abbrev mX8_change1 : zM := (yX8_change1, cX8_change1, 4, (some .int), 1)
theorem v_X8_change1 : zVok yX8_change1 cX8_change1 4 (some .int) 2 := ⟨gW_of 1027 (by decide +kernel) (by decide +kernel), gW_of 1026 (by decide +kernel) (by decide +kernel), gW_of 38 (by decide +kernel) (by decide +kernel), gW_of 71 (by decide +kernel) (by decide +kernel), by decide +kernel, by decide +kernel, by decide +kernel⟩
theorem l_X8_163 : Cond.methodLink RX8 163 yX8_change1 ∈ tblG := gW_of 1024 (by decide +kernel) (by decide +kernel)
abbrev mX8_above : zM := (yX8_above, cX8_above, 1, (some .int), 1)
theorem v_X8_above : zSok yX8_above cX8_above 1 (some .int) 1 := ⟨gW_of 1034 (by decide +kernel) (by decide +kernel), gW_of 1033 (by decide +kernel) (by decide +kernel), gW_of 71 (by decide +kernel) (by decide +kernel), by decide +kernel, by decide +kernel, by decide +kernel⟩
theorem l_X8_166 : Cond.methodLink RX8 166 yX8_above ∈ tblG := gW_of 1032 (by decide +kernel) (by decide +kernel)
abbrev mX8_isCell : zM := (yX8_isCell, cX8_isCell, 1, (some .boolean), 3)
theorem v_X8_isCell : zSok yX8_isCell cX8_isCell 1 (some .boolean) 1 := ⟨gW_of 1045 (by decide +kernel) (by decide +kernel), gW_of 1044 (by decide +kernel) (by decide +kernel), gW_of 71 (by decide +kernel) (by decide +kernel), by decide +kernel, by decide +kernel, by decide +kernel⟩
theorem l_X8_169 : Cond.methodLink RX8 169 yX8_isCell ∈ tblG := gW_of 1043 (by decide +kernel) (by decide +kernel)
abbrev mX8_whyNot : zM := (yX8_whyNot, cX8_whyNot, 3, (some .int), 1)
theorem v_X8_whyNot : zVok yX8_whyNot cX8_whyNot 3 (some .int) 2 := ⟨gW_of 1061 (by decide +kernel) (by decide +kernel), gW_of 1060 (by decide +kernel) (by decide +kernel), gW_of 39 (by decide +kernel) (by decide +kernel), gW_of 71 (by decide +kernel) (by decide +kernel), by decide +kernel, by decide +kernel, by decide +kernel⟩
theorem l_X8_172 : Cond.methodLink RX8 172 yX8_whyNot ∈ tblG := gW_of 1058 (by decide +kernel) (by decide +kernel)
abbrev mX8_goes : zM := (yX8_goes, cX8_goes, 3, none, 0)
theorem v_X8_goes : zVok yX8_goes cX8_goes 3 none 1 := ⟨gW_of 1065 (by decide +kernel) (by decide +kernel), gW_of 1064 (by decide +kernel) (by decide +kernel), gW_of 40 (by decide +kernel) (by decide +kernel), gW_of 71 (by decide +kernel) (by decide +kernel), by decide +kernel, by decide +kernel, by decide +kernel⟩
theorem l_X8_175 : Cond.methodLink RX8 175 yX8_goes ∈ tblG := gW_of 1062 (by decide +kernel) (by decide +kernel)
abbrev mX8_through : zM := (yX8_through, cX8_through, 3, (some .int), 1)
theorem v_X8_through : zVok yX8_through cX8_through 3 (some .int) 0 := ⟨gW_of 1081 (by decide +kernel) (by decide +kernel), gW_of 1080 (by decide +kernel) (by decide +kernel), gW_of 44 (by decide +kernel) (by decide +kernel), gW_of 71 (by decide +kernel) (by decide +kernel), by decide +kernel, by decide +kernel, by decide +kernel⟩
theorem l_X8_178 : Cond.methodLink RX8 178 yX8_through ∈ tblG := gW_of 1078 (by decide +kernel) (by decide +kernel)
abbrev mX8_draw : zM := (yX8_draw, cX8_draw, 1, (some .int), 1)
theorem v_X8_draw : zVok yX8_draw cX8_draw 1 (some .int) 0 := ⟨gW_of 1093 (by decide +kernel) (by decide +kernel), gW_of 1092 (by decide +kernel) (by decide +kernel), gW_of 46 (by decide +kernel) (by decide +kernel), gW_of 71 (by decide +kernel) (by decide +kernel), by decide +kernel, by decide +kernel, by decide +kernel⟩
theorem l_X8_181 : Cond.methodLink RX8 181 yX8_draw ∈ tblG := gW_of 1090 (by decide +kernel) (by decide +kernel)
abbrev mX8_chances : zM := (yX8_chances, cX8_chances, 2, none, 0)
theorem v_X8_chances : zVok yX8_chances cX8_chances 2 none 0 := ⟨gW_of 1089 (by decide +kernel) (by decide +kernel), gW_of 1088 (by decide +kernel) (by decide +kernel), gW_of 45 (by decide +kernel) (by decide +kernel), gW_of 71 (by decide +kernel) (by decide +kernel), by decide +kernel, by decide +kernel, by decide +kernel⟩
theorem l_X8_184 : Cond.methodLink RX8 184 yX8_chances ∈ tblG := gW_of 1086 (by decide +kernel) (by decide +kernel)
abbrev mX8_layDown : zM := (yX8_layDown, cX8_layDown, 2, none, 0)
theorem v_X8_layDown : zVok yX8_layDown cX8_layDown 2 none 0 := ⟨gW_of 1110 (by decide +kernel) (by decide +kernel), gW_of 1109 (by decide +kernel) (by decide +kernel), gW_of 47 (by decide +kernel) (by decide +kernel), gW_of 71 (by decide +kernel) (by decide +kernel), by decide +kernel, by decide +kernel, by decide +kernel⟩
theorem l_X8_187 : Cond.methodLink RX8 187 yX8_layDown ∈ tblG := gW_of 1107 (by decide +kernel) (by decide +kernel)
abbrev mX8_layBack : zM := (yX8_layBack, cX8_layBack, 2, none, 0)
theorem v_X8_layBack : zVok yX8_layBack cX8_layBack 2 none 0 := ⟨gW_of 1114 (by decide +kernel) (by decide +kernel), gW_of 1113 (by decide +kernel) (by decide +kernel), gW_of 48 (by decide +kernel) (by decide +kernel), gW_of 71 (by decide +kernel) (by decide +kernel), by decide +kernel, by decide +kernel, by decide +kernel⟩
theorem l_X8_190 : Cond.methodLink RX8 190 yX8_layBack ∈ tblG := gW_of 1111 (by decide +kernel) (by decide +kernel)
abbrev mX8_comesBy : zM := (yX8_comesBy, cX8_comesBy, 6, (some .int), 1)
theorem v_X8_comesBy : zVok yX8_comesBy cX8_comesBy 6 (some .int) 3 := ⟨gW_of 1122 (by decide +kernel) (by decide +kernel), gW_of 1121 (by decide +kernel) (by decide +kernel), gW_of 49 (by decide +kernel) (by decide +kernel), gW_of 71 (by decide +kernel) (by decide +kernel), by decide +kernel, by decide +kernel, by decide +kernel⟩
theorem l_X8_193 : Cond.methodLink RX8 193 yX8_comesBy ∈ tblG := gW_of 1119 (by decide +kernel) (by decide +kernel)
abbrev mX8_isSoon : zM := (yX8_isSoon, cX8_isSoon, 1, (some .boolean), 3)
theorem v_X8_isSoon : zSok yX8_isSoon cX8_isSoon 1 (some .boolean) 1 := ⟨gW_of 1129 (by decide +kernel) (by decide +kernel), gW_of 1128 (by decide +kernel) (by decide +kernel), gW_of 71 (by decide +kernel) (by decide +kernel), by decide +kernel, by decide +kernel, by decide +kernel⟩
theorem l_X8_196 : Cond.methodLink RX8 196 yX8_isSoon ∈ tblG := gW_of 1127 (by decide +kernel) (by decide +kernel)
abbrev mX8_comesWith : zM := (yX8_comesWith, cX8_comesWith, 6, (some .boolean), 3)
theorem v_X8_comesWith : zVok yX8_comesWith cX8_comesWith 6 (some .boolean) 4 := ⟨gW_of 1133 (by decide +kernel) (by decide +kernel), gW_of 1132 (by decide +kernel) (by decide +kernel), gW_of 50 (by decide +kernel) (by decide +kernel), gW_of 71 (by decide +kernel) (by decide +kernel), by decide +kernel, by decide +kernel, by decide +kernel⟩
theorem l_X8_199 : Cond.methodLink RX8 199 yX8_comesWith ∈ tblG := gW_of 1130 (by decide +kernel) (by decide +kernel)
abbrev mX8_manyIn : zM := (yX8_manyIn, cX8_manyIn, 3, (some .int), 1)
theorem v_X8_manyIn : zSok yX8_manyIn cX8_manyIn 3 (some .int) 1 := ⟨gW_of 1140 (by decide +kernel) (by decide +kernel), gW_of 1139 (by decide +kernel) (by decide +kernel), gW_of 71 (by decide +kernel) (by decide +kernel), by decide +kernel, by decide +kernel, by decide +kernel⟩
theorem l_X8_203 : Cond.methodLink RX8 203 yX8_manyIn ∈ tblG := gW_of 1138 (by decide +kernel) (by decide +kernel)
abbrev mX8_comesWithout : zM := (yX8_comesWithout, cX8_comesWithout, 6, (some .boolean), 3)
theorem v_X8_comesWithout : zVok yX8_comesWithout cX8_comesWithout 6 (some .boolean) 4 := ⟨gW_of 1144 (by decide +kernel) (by decide +kernel), gW_of 1143 (by decide +kernel) (by decide +kernel), gW_of 51 (by decide +kernel) (by decide +kernel), gW_of 71 (by decide +kernel) (by decide +kernel), by decide +kernel, by decide +kernel, by decide +kernel⟩
theorem l_X8_206 : Cond.methodLink RX8 206 yX8_comesWithout ∈ tblG := gW_of 1141 (by decide +kernel) (by decide +kernel)
abbrev mX8_farWith : zM := (yX8_farWith, cX8_farWith, 6, (some .int), 1)
theorem v_X8_farWith : zVok yX8_farWith cX8_farWith 6 (some .int) 3 := ⟨gW_of 1152 (by decide +kernel) (by decide +kernel), gW_of 1151 (by decide +kernel) (by decide +kernel), gW_of 52 (by decide +kernel) (by decide +kernel), gW_of 71 (by decide +kernel) (by decide +kernel), by decide +kernel, by decide +kernel, by decide +kernel⟩
theorem l_X8_209 : Cond.methodLink RX8 209 yX8_farWith ∈ tblG := gW_of 1149 (by decide +kernel) (by decide +kernel)
abbrev mX8_divisor : zM := (yX8_divisor, cX8_divisor, 5, (some .int), 1)
theorem v_X8_divisor : zSok yX8_divisor cX8_divisor 5 (some .int) 2 := ⟨gW_of 1159 (by decide +kernel) (by decide +kernel), gW_of 1158 (by decide +kernel) (by decide +kernel), gW_of 71 (by decide +kernel) (by decide +kernel), by decide +kernel, by decide +kernel, by decide +kernel⟩
theorem l_X8_212 : Cond.methodLink RX8 212 yX8_divisor ∈ tblG := gW_of 1157 (by decide +kernel) (by decide +kernel)
abbrev mX8_lacks : zM := (yX8_lacks, cX8_lacks, 2, (some .int), 1)
theorem v_X8_lacks : zVok yX8_lacks cX8_lacks 2 (some .int) 1 := ⟨gW_of 1167 (by decide +kernel) (by decide +kernel), gW_of 1166 (by decide +kernel) (by decide +kernel), gW_of 53 (by decide +kernel) (by decide +kernel), gW_of 71 (by decide +kernel) (by decide +kernel), by decide +kernel, by decide +kernel, by decide +kernel⟩
theorem l_X8_215 : Cond.methodLink RX8 215 yX8_lacks ∈ tblG := gW_of 1164 (by decide +kernel) (by decide +kernel)
abbrev mX8_clearsSo : zM := (yX8_clearsSo, cX8_clearsSo, 6, (some .boolean), 3)
theorem v_X8_clearsSo : zVok yX8_clearsSo cX8_clearsSo 6 (some .boolean) 3 := ⟨gW_of 1174 (by decide +kernel) (by decide +kernel), gW_of 1173 (by decide +kernel) (by decide +kernel), gW_of 54 (by decide +kernel) (by decide +kernel), gW_of 71 (by decide +kernel) (by decide +kernel), by decide +kernel, by decide +kernel, by decide +kernel⟩
theorem l_X8_218 : Cond.methodLink RX8 218 yX8_clearsSo ∈ tblG := gW_of 1171 (by decide +kernel) (by decide +kernel)
theorem f_X8_221 : zF RX8 221 8 12 := ⟨RX8, "AnswerPassModel", TX8, 20, rfl, by decide, in_X8, gW_of 845 (by decide +kernel) (by decide +kernel), rfl⟩
theorem f_X8_224 : zF RX8 224 8 14 := ⟨RX8, "AnswerPassModel", TX8, 20, rfl, by decide, in_X8, gW_of 847 (by decide +kernel) (by decide +kernel), rfl⟩
abbrev mX8_starts : zM := (yX8_starts, cX8_starts, 2, none, 0)
theorem v_X8_starts : zVok yX8_starts cX8_starts 2 none 1 := ⟨gW_of 1190 (by decide +kernel) (by decide +kernel), gW_of 1189 (by decide +kernel) (by decide +kernel), gW_of 57 (by decide +kernel) (by decide +kernel), gW_of 71 (by decide +kernel) (by decide +kernel), by decide +kernel, by decide +kernel, by decide +kernel⟩
theorem l_X8_227 : Cond.methodLink RX8 227 yX8_starts ∈ tblG := gW_of 1187 (by decide +kernel) (by decide +kernel)
abbrev mX8_saysAs : zM := (yX8_saysAs, cX8_saysAs, 3, (some .int), 1)
theorem v_X8_saysAs : zVok yX8_saysAs cX8_saysAs 3 (some .int) 2 := ⟨gW_of 1186 (by decide +kernel) (by decide +kernel), gW_of 1185 (by decide +kernel) (by decide +kernel), gW_of 56 (by decide +kernel) (by decide +kernel), gW_of 71 (by decide +kernel) (by decide +kernel), by decide +kernel, by decide +kernel, by decide +kernel⟩
theorem l_X8_230 : Cond.methodLink RX8 230 yX8_saysAs ∈ tblG := gW_of 1183 (by decide +kernel) (by decide +kernel)
abbrev mX8_kindNow : zM := (yX8_kindNow, cX8_kindNow, 1, (some .int), 1)
theorem v_X8_kindNow : zVok yX8_kindNow cX8_kindNow 1 (some .int) 0 := ⟨gW_of 1182 (by decide +kernel) (by decide +kernel), gW_of 1181 (by decide +kernel) (by decide +kernel), gW_of 55 (by decide +kernel) (by decide +kernel), gW_of 71 (by decide +kernel) (by decide +kernel), by decide +kernel, by decide +kernel, by decide +kernel⟩
theorem l_X8_233 : Cond.methodLink RX8 233 yX8_kindNow ∈ tblG := gW_of 1179 (by decide +kernel) (by decide +kernel)
abbrev mX8_seesAs : zM := (yX8_seesAs, cX8_seesAs, 3, (some .int), 1)
theorem v_X8_seesAs : zVok yX8_seesAs cX8_seesAs 3 (some .int) 2 := ⟨gW_of 1194 (by decide +kernel) (by decide +kernel), gW_of 1193 (by decide +kernel) (by decide +kernel), gW_of 58 (by decide +kernel) (by decide +kernel), gW_of 71 (by decide +kernel) (by decide +kernel), by decide +kernel, by decide +kernel, by decide +kernel⟩
theorem l_X8_236 : Cond.methodLink RX8 236 yX8_seesAs ∈ tblG := gW_of 1191 (by decide +kernel) (by decide +kernel)
abbrev mX8_mNow : zM := (yX8_mNow, cX8_mNow, 1, (some .int), 1)
theorem v_X8_mNow : zVok yX8_mNow cX8_mNow 1 (some .int) 0 := ⟨gW_of 1198 (by decide +kernel) (by decide +kernel), gW_of 1197 (by decide +kernel) (by decide +kernel), gW_of 59 (by decide +kernel) (by decide +kernel), gW_of 71 (by decide +kernel) (by decide +kernel), by decide +kernel, by decide +kernel, by decide +kernel⟩
theorem l_X8_239 : Cond.methodLink RX8 239 yX8_mNow ∈ tblG := gW_of 1195 (by decide +kernel) (by decide +kernel)
abbrev mX8_walksAs : zM := (yX8_walksAs, cX8_walksAs, 3, (some .int), 1)
theorem v_X8_walksAs : zVok yX8_walksAs cX8_walksAs 3 (some .int) 2 := ⟨gW_of 1202 (by decide +kernel) (by decide +kernel), gW_of 1201 (by decide +kernel) (by decide +kernel), gW_of 60 (by decide +kernel) (by decide +kernel), gW_of 71 (by decide +kernel) (by decide +kernel), by decide +kernel, by decide +kernel, by decide +kernel⟩
theorem l_X8_242 : Cond.methodLink RX8 242 yX8_walksAs ∈ tblG := gW_of 1199 (by decide +kernel) (by decide +kernel)
theorem f_X8_245 : zF RX8 245 8 15 := ⟨RX8, "AnswerPassModel", TX8, 20, rfl, by decide, in_X8, gW_of 848 (by decide +kernel) (by decide +kernel), rfl⟩
abbrev mX8_partsAs : zM := (yX8_partsAs, cX8_partsAs, 5, (some .int), 1)
theorem v_X8_partsAs : zVok yX8_partsAs cX8_partsAs 5 (some .int) 2 := ⟨gW_of 1206 (by decide +kernel) (by decide +kernel), gW_of 1205 (by decide +kernel) (by decide +kernel), gW_of 61 (by decide +kernel) (by decide +kernel), gW_of 71 (by decide +kernel) (by decide +kernel), by decide +kernel, by decide +kernel, by decide +kernel⟩
theorem l_X8_249 : Cond.methodLink RX8 249 yX8_partsAs ∈ tblG := gW_of 1203 (by decide +kernel) (by decide +kernel)
abbrev mX8_isSheet : zM := (yX8_isSheet, cX8_isSheet, 1, (some .boolean), 3)
theorem v_X8_isSheet : zSok yX8_isSheet cX8_isSheet 1 (some .boolean) 1 := ⟨gW_of 1170 (by decide +kernel) (by decide +kernel), gW_of 1169 (by decide +kernel) (by decide +kernel), gW_of 71 (by decide +kernel) (by decide +kernel), by decide +kernel, by decide +kernel, by decide +kernel⟩
theorem l_X8_252 : Cond.methodLink RX8 252 yX8_isSheet ∈ tblG := gW_of 1168 (by decide +kernel) (by decide +kernel)
abbrev mX8_copyAll : zM := (yX8_copyAll, cX8_copyAll, 3, none, 0)
theorem v_X8_copyAll : zSok yX8_copyAll cX8_copyAll 3 none 2 := ⟨gW_of 1237 (by decide +kernel) (by decide +kernel), gW_of 1236 (by decide +kernel) (by decide +kernel), gW_of 71 (by decide +kernel) (by decide +kernel), by decide +kernel, by decide +kernel, by decide +kernel⟩
theorem l_X8_255 : Cond.methodLink RX8 255 yX8_copyAll ∈ tblG := gW_of 1235 (by decide +kernel) (by decide +kernel)
theorem f_X8_259 : zF RX8 259 8 3 := ⟨RX8, "AnswerPassModel", TX8, 20, rfl, by decide, in_X8, gW_of 836 (by decide +kernel) (by decide +kernel), rfl⟩
theorem f_X0_9 : zF RX0 9 0 1 := ⟨RX0, "AnswerPass$Law", TX0, 4, rfl, by decide, in_X0, gW_of 101 (by decide +kernel) (by decide +kernel), rfl⟩
theorem f_X0_15 : zF RX0 15 0 2 := ⟨RX0, "AnswerPass$Law", TX0, 4, rfl, by decide, in_X0, gW_of 102 (by decide +kernel) (by decide +kernel), rfl⟩
theorem f_X0_18 : zF RX0 18 0 3 := ⟨RX0, "AnswerPass$Law", TX0, 4, rfl, by decide, in_X0, gW_of 103 (by decide +kernel) (by decide +kernel), rfl⟩
theorem f_X0_22 : zF RX0 22 0 0 := ⟨RX0, "AnswerPass$Law", TX0, 4, rfl, by decide, in_X0, gW_of 100 (by decide +kernel) (by decide +kernel), rfl⟩
theorem l_X0_25 : Cond.methodLink RX0 25 yX0_becomes ∈ tblG := gW_of 804 (by decide +kernel) (by decide +kernel)
theorem l_X0_29 : Cond.methodLink RX0 29 arraycopyName ∈ tblG := gW_of 563 (by decide +kernel) (by decide +kernel)
abbrev mX0_joined : zM := (yX0_joined, cX0_joined, 3, (some .int), 1)
theorem v_X0_joined : zSok yX0_joined cX0_joined 3 (some .int) 3 := ⟨gW_of 372 (by decide +kernel) (by decide +kernel), gW_of 371 (by decide +kernel) (by decide +kernel), gW_of 65 (by decide +kernel) (by decide +kernel), by decide +kernel, by decide +kernel, by decide +kernel⟩
theorem l_X0_35 : Cond.methodLink RX0 35 yX0_joined ∈ tblG := gW_of 370 (by decide +kernel) (by decide +kernel)
abbrev mX0_without : zM := (yX0_without, cX0_without, 2, (some .int), 1)
theorem v_X0_without : zVok yX0_without cX0_without 2 (some .int) 1 := ⟨gW_of 376 (by decide +kernel) (by decide +kernel), gW_of 374 (by decide +kernel) (by decide +kernel), gW_of 375 (by decide +kernel) (by decide +kernel), gW_of 65 (by decide +kernel) (by decide +kernel), by decide +kernel, by decide +kernel, by decide +kernel⟩
theorem l_X0_39 : Cond.methodLink RX0 39 yX0_without ∈ tblG := gW_of 373 (by decide +kernel) (by decide +kernel)
theorem f_X1_9 : zF RX1 9 1 2 := ⟨RX1, "AnswerPass$Pass", TX1, 10, rfl, by decide, in_X1, gW_of 125 (by decide +kernel) (by decide +kernel), rfl⟩
theorem f_X1_15 : zF RX1 15 1 3 := ⟨RX1, "AnswerPass$Pass", TX1, 10, rfl, by decide, in_X1, gW_of 127 (by decide +kernel) (by decide +kernel), rfl⟩
theorem f_X1_18 : zF RX1 18 1 4 := ⟨RX1, "AnswerPass$Pass", TX1, 10, rfl, by decide, in_X1, gW_of 129 (by decide +kernel) (by decide +kernel), rfl⟩
theorem f_X1_21 : zF RX1 21 1 5 := ⟨RX1, "AnswerPass$Pass", TX1, 10, rfl, by decide, in_X1, gW_of 133 (by decide +kernel) (by decide +kernel), rfl⟩
theorem f_X1_24 : zF RX1 24 1 6 := ⟨RX1, "AnswerPass$Pass", TX1, 10, rfl, by decide, in_X1, gW_of 136 (by decide +kernel) (by decide +kernel), rfl⟩
theorem f_X1_28 : zF RX1 28 1 7 := ⟨RX1, "AnswerPass$Pass", TX1, 10, rfl, by decide, in_X1, gW_of 139 (by decide +kernel) (by decide +kernel), rfl⟩
theorem f_X1_32 : zF RX1 32 1 8 := ⟨RX1, "AnswerPass$Pass", TX1, 10, rfl, by decide, in_X1, gW_of 142 (by decide +kernel) (by decide +kernel), rfl⟩
theorem f_X1_35 : zF RX1 35 1 9 := ⟨RX1, "AnswerPass$Pass", TX1, 10, rfl, by decide, in_X1, gW_of 146 (by decide +kernel) (by decide +kernel), rfl⟩
theorem f_X1_38 : zF RX1 38 1 0 := ⟨RX1, "AnswerPass$Pass", TX1, 10, rfl, by decide, in_X1, gW_of 122 (by decide +kernel) (by decide +kernel), rfl⟩
theorem f_X1_42 : zF RX1 42 1 1 := ⟨RX1, "AnswerPass$Pass", TX1, 10, rfl, by decide, in_X1, gW_of 124 (by decide +kernel) (by decide +kernel), rfl⟩
theorem l_X1_45 : Cond.methodLink RX1 45 yX1_stands ∈ tblG := gW_of 342 (by decide +kernel) (by decide +kernel)
abbrev mX1_sees : zM := (yX1_sees, cX1_sees, 4, (some .int), 1)
theorem v_X1_sees : zVok yX1_sees cX1_sees 4 (some .int) 1 := ⟨gW_of 361 (by decide +kernel) (by decide +kernel), gW_of 359 (by decide +kernel) (by decide +kernel), gW_of 360 (by decide +kernel) (by decide +kernel), gW_of 66 (by decide +kernel) (by decide +kernel), by decide +kernel, by decide +kernel, by decide +kernel⟩
theorem l_X1_49 : Cond.methodLink RX1 49 yX1_sees ∈ tblG := gW_of 358 (by decide +kernel) (by decide +kernel)
theorem l_X1_53 : Cond.methodLink RX1 53 yX0_gives ∈ tblG := gW_of 366 (by decide +kernel) (by decide +kernel)
abbrev mX1_together : zM := (yX1_together, cX1_together, 4, (some .int), 1)
theorem v_X1_together : zVok yX1_together cX1_together 4 (some .int) 1 := ⟨gW_of 365 (by decide +kernel) (by decide +kernel), gW_of 363 (by decide +kernel) (by decide +kernel), gW_of 364 (by decide +kernel) (by decide +kernel), gW_of 66 (by decide +kernel) (by decide +kernel), by decide +kernel, by decide +kernel, by decide +kernel⟩
theorem l_X1_59 : Cond.methodLink RX1 59 yX1_together ∈ tblG := gW_of 362 (by decide +kernel) (by decide +kernel)
theorem l_X1_62 : Cond.methodLink RX1 62 yX1_clearFor ∈ tblG := gW_of 583 (by decide +kernel) (by decide +kernel)
theorem l_X1_65 : Cond.methodLink RX1 65 yX1_paceOf ∈ tblG := gW_of 584 (by decide +kernel) (by decide +kernel)
theorem l_X1_69 : Cond.methodLink RX1 69 Lib.Math.min.name ∈ tblG := gW_of 585 (by decide +kernel) (by decide +kernel)
theorem l_X1_74 : Cond.methodLink RX1 74 yX1_falls ∈ tblG := gW_of 586 (by decide +kernel) (by decide +kernel)
abbrev mX1_goes : zM := (yX1_goes, cX1_goes, 6, none, 0)
theorem v_X1_goes : zVok yX1_goes cX1_goes 6 none 3 := ⟨gW_of 590 (by decide +kernel) (by decide +kernel), gW_of 588 (by decide +kernel) (by decide +kernel), gW_of 589 (by decide +kernel) (by decide +kernel), gW_of 66 (by decide +kernel) (by decide +kernel), by decide +kernel, by decide +kernel, by decide +kernel⟩
theorem l_X1_78 : Cond.methodLink RX1 78 yX1_goes ∈ tblG := gW_of 587 (by decide +kernel) (by decide +kernel)
theorem f_X2_9 : zF RX2 9 2 1 := ⟨RX2, "AnswerPass$Reader", TX2, 6, rfl, by decide, in_X2, gW_of 209 (by decide +kernel) (by decide +kernel), rfl⟩
theorem f_X2_15 : zF RX2 15 2 2 := ⟨RX2, "AnswerPass$Reader", TX2, 6, rfl, by decide, in_X2, gW_of 211 (by decide +kernel) (by decide +kernel), rfl⟩
theorem f_X2_19 : zF RX2 19 2 3 := ⟨RX2, "AnswerPass$Reader", TX2, 6, rfl, by decide, in_X2, gW_of 213 (by decide +kernel) (by decide +kernel), rfl⟩
theorem f_X2_22 : zF RX2 22 2 4 := ⟨RX2, "AnswerPass$Reader", TX2, 6, rfl, by decide, in_X2, gW_of 214 (by decide +kernel) (by decide +kernel), rfl⟩
theorem f_X2_27 : zF RX2 27 2 5 := ⟨RX2, "AnswerPass$Reader", TX2, 6, rfl, by decide, in_X2, gW_of 215 (by decide +kernel) (by decide +kernel), rfl⟩
theorem f_X2_31 : zF RX2 31 2 0 := ⟨RX2, "AnswerPass$Reader", TX2, 6, rfl, by decide, in_X2, gW_of 208 (by decide +kernel) (by decide +kernel), rfl⟩
abbrev mX2_reads : zM := (yX2_reads, cX2_reads, 5, (some .boolean), 3)
theorem v_X2_reads : zVok yX2_reads cX2_reads 5 (some .boolean) 2 := ⟨gW_of 438 (by decide +kernel) (by decide +kernel), gW_of 437 (by decide +kernel) (by decide +kernel), gW_of 2 (by decide +kernel) (by decide +kernel), gW_of 67 (by decide +kernel) (by decide +kernel), by decide +kernel, by decide +kernel, by decide +kernel⟩
theorem l_X2_38 : Cond.methodLink RX2 38 yX2_reads ∈ tblG := gW_of 435 (by decide +kernel) (by decide +kernel)
abbrev mX2_readsUnit : zM := (yX2_readsUnit, cX2_readsUnit, 4, (some .boolean), 3)
theorem v_X2_readsUnit : zVok yX2_readsUnit cX2_readsUnit 4 (some .boolean) 1 := ⟨gW_of 442 (by decide +kernel) (by decide +kernel), gW_of 441 (by decide +kernel) (by decide +kernel), gW_of 3 (by decide +kernel) (by decide +kernel), gW_of 67 (by decide +kernel) (by decide +kernel), by decide +kernel, by decide +kernel, by decide +kernel⟩
theorem l_X2_42 : Cond.methodLink RX2 42 yX2_readsUnit ∈ tblG := gW_of 439 (by decide +kernel) (by decide +kernel)
abbrev mX2_next : zM := (yX2_next, cX2_next, 1, (some .int), 1)
theorem v_X2_next : zVok yX2_next cX2_next 1 (some .int) 0 := ⟨gW_of 446 (by decide +kernel) (by decide +kernel), gW_of 445 (by decide +kernel) (by decide +kernel), gW_of 4 (by decide +kernel) (by decide +kernel), gW_of 67 (by decide +kernel) (by decide +kernel), by decide +kernel, by decide +kernel, by decide +kernel⟩
theorem l_X2_46 : Cond.methodLink RX2 46 yX2_next ∈ tblG := gW_of 443 (by decide +kernel) (by decide +kernel)
abbrev mX2_rankOf : zM := (yX2_rankOf, cX2_rankOf, 1, (some .int), 1)
theorem v_X2_rankOf : zSok yX2_rankOf cX2_rankOf 1 (some .int) 1 := ⟨gW_of 554 (by decide +kernel) (by decide +kernel), gW_of 553 (by decide +kernel) (by decide +kernel), gW_of 67 (by decide +kernel) (by decide +kernel), by decide +kernel, by decide +kernel, by decide +kernel⟩
theorem l_X2_50 : Cond.methodLink RX2 50 yX2_rankOf ∈ tblG := gW_of 552 (by decide +kernel) (by decide +kernel)
abbrev mX2_writes : zM := (yX2_writes, cX2_writes, 2, none, 0)
theorem v_X2_writes : zVok yX2_writes cX2_writes 2 none 1 := ⟨gW_of 457 (by decide +kernel) (by decide +kernel), gW_of 456 (by decide +kernel) (by decide +kernel), gW_of 6 (by decide +kernel) (by decide +kernel), gW_of 67 (by decide +kernel) (by decide +kernel), by decide +kernel, by decide +kernel, by decide +kernel⟩
theorem l_X2_54 : Cond.methodLink RX2 54 yX2_writes ∈ tblG := gW_of 454 (by decide +kernel) (by decide +kernel)
abbrev mX2_isDigit : zM := (yX2_isDigit, cX2_isDigit, 1, (some .boolean), 3)
theorem v_X2_isDigit : zSok yX2_isDigit cX2_isDigit 1 (some .boolean) 1 := ⟨gW_of 449 (by decide +kernel) (by decide +kernel), gW_of 448 (by decide +kernel) (by decide +kernel), gW_of 67 (by decide +kernel) (by decide +kernel), by decide +kernel, by decide +kernel, by decide +kernel⟩
theorem l_X2_58 : Cond.methodLink RX2 58 yX2_isDigit ∈ tblG := gW_of 447 (by decide +kernel) (by decide +kernel)
abbrev mX2_readsNumber : zM := (yX2_readsNumber, cX2_readsNumber, 3, (some .boolean), 3)
theorem v_X2_readsNumber : zVok yX2_readsNumber cX2_readsNumber 3 (some .boolean) 0 := ⟨gW_of 453 (by decide +kernel) (by decide +kernel), gW_of 452 (by decide +kernel) (by decide +kernel), gW_of 5 (by decide +kernel) (by decide +kernel), gW_of 67 (by decide +kernel) (by decide +kernel), by decide +kernel, by decide +kernel, by decide +kernel⟩
theorem l_X2_61 : Cond.methodLink RX2 61 yX2_readsNumber ∈ tblG := gW_of 450 (by decide +kernel) (by decide +kernel)
abbrev mJ0_indexOf_0f7a4 : zM := (yJ0_indexOf_0f7a4, cJ0_indexOf_0f7a4, 2, (some .int), 1)
theorem v_J0_indexOf_0f7a4 : zVok yJ0_indexOf_0f7a4 cJ0_indexOf_0f7a4 2 (some .int) 1 := ⟨gW_of 461 (by decide +kernel) (by decide +kernel), gW_of 459 (by decide +kernel) (by decide +kernel), gW_of 460 (by decide +kernel) (by decide +kernel), gW_of 72 (by decide +kernel) (by decide +kernel), by decide +kernel, by decide +kernel, by decide +kernel⟩
theorem l_X2_65 : Cond.methodLink RX2 65 yJ0_indexOf_0f7a4 ∈ tblG := gW_of 458 (by decide +kernel) (by decide +kernel)
abbrev mX2_readsNot : zM := (yX2_readsNot, cX2_readsNot, 2, (some .boolean), 3)
theorem v_X2_readsNot : zVok yX2_readsNot cX2_readsNot 2 (some .boolean) 1 := ⟨gW_of 547 (by decide +kernel) (by decide +kernel), gW_of 546 (by decide +kernel) (by decide +kernel), gW_of 7 (by decide +kernel) (by decide +kernel), gW_of 67 (by decide +kernel) (by decide +kernel), by decide +kernel, by decide +kernel, by decide +kernel⟩
theorem l_X2_72 : Cond.methodLink RX2 72 yX2_readsNot ∈ tblG := gW_of 544 (by decide +kernel) (by decide +kernel)
abbrev mX2_readsInner : zM := (yX2_readsInner, cX2_readsInner, 2, (some .boolean), 3)
theorem v_X2_readsInner : zVok yX2_readsInner cX2_readsInner 2 (some .boolean) 1 := ⟨gW_of 551 (by decide +kernel) (by decide +kernel), gW_of 550 (by decide +kernel) (by decide +kernel), gW_of 8 (by decide +kernel) (by decide +kernel), gW_of 67 (by decide +kernel) (by decide +kernel), by decide +kernel, by decide +kernel, by decide +kernel⟩
theorem l_X2_75 : Cond.methodLink RX2 75 yX2_readsInner ∈ tblG := gW_of 548 (by decide +kernel) (by decide +kernel)
theorem f_X3_9 : zF RX3 9 3 0 := ⟨RX3, "AnswerPass$Sheets", TX3, 3, rfl, by decide, in_X3, gW_of 282 (by decide +kernel) (by decide +kernel), rfl⟩
theorem f_X3_13 : zF RX3 13 3 1 := ⟨RX3, "AnswerPass$Sheets", TX3, 3, rfl, by decide, in_X3, gW_of 284 (by decide +kernel) (by decide +kernel), rfl⟩
theorem f_X3_18 : zF RX3 18 3 2 := ⟨RX3, "AnswerPass$Sheets", TX3, 3, rfl, by decide, in_X3, gW_of 286 (by decide +kernel) (by decide +kernel), rfl⟩
theorem f_X4_14 : zF RX4 14 4 0 := ⟨RX4, "AnswerPass$State", TX4, 8, rfl, by decide, in_X4, gW_of 170 (by decide +kernel) (by decide +kernel), rfl⟩
theorem f_X4_20 : zF RX4 20 4 1 := ⟨RX4, "AnswerPass$State", TX4, 8, rfl, by decide, in_X4, gW_of 171 (by decide +kernel) (by decide +kernel), rfl⟩
theorem f_X4_28 : zF RX4 28 4 2 := ⟨RX4, "AnswerPass$State", TX4, 8, rfl, by decide, in_X4, gW_of 172 (by decide +kernel) (by decide +kernel), rfl⟩
theorem f_X4_32 : zF RX4 32 4 3 := ⟨RX4, "AnswerPass$State", TX4, 8, rfl, by decide, in_X4, gW_of 175 (by decide +kernel) (by decide +kernel), rfl⟩
theorem f_X4_36 : zF RX4 36 4 4 := ⟨RX4, "AnswerPass$State", TX4, 8, rfl, by decide, in_X4, gW_of 176 (by decide +kernel) (by decide +kernel), rfl⟩
theorem f_X4_40 : zF RX4 40 4 5 := ⟨RX4, "AnswerPass$State", TX4, 8, rfl, by decide, in_X4, gW_of 178 (by decide +kernel) (by decide +kernel), rfl⟩
theorem f_X4_43 : zF RX4 43 4 6 := ⟨RX4, "AnswerPass$State", TX4, 8, rfl, by decide, in_X4, gW_of 180 (by decide +kernel) (by decide +kernel), rfl⟩
theorem f_X4_46 : zF RX4 46 4 7 := ⟨RX4, "AnswerPass$State", TX4, 8, rfl, by decide, in_X4, gW_of 182 (by decide +kernel) (by decide +kernel), rfl⟩
abbrev mX0_copies : zM := (yX0_copies, cX0_copies, 2, none, 0)
theorem v_X0_copies : zVok yX0_copies cX0_copies 2 none 1 := ⟨gW_of 803 (by decide +kernel) (by decide +kernel), gW_of 801 (by decide +kernel) (by decide +kernel), gW_of 802 (by decide +kernel) (by decide +kernel), gW_of 65 (by decide +kernel) (by decide +kernel), by decide +kernel, by decide +kernel, by decide +kernel⟩
theorem l_X4_49 : Cond.methodLink RX4 49 yX0_copies ∈ tblG := gW_of 800 (by decide +kernel) (by decide +kernel)
abbrev mX1_copies : zM := (yX1_copies, cX1_copies, 3, none, 0)
theorem v_X1_copies : zVok yX1_copies cX1_copies 3 none 1 := ⟨gW_of 630 (by decide +kernel) (by decide +kernel), gW_of 628 (by decide +kernel) (by decide +kernel), gW_of 629 (by decide +kernel) (by decide +kernel), gW_of 66 (by decide +kernel) (by decide +kernel), by decide +kernel, by decide +kernel, by decide +kernel⟩
theorem l_X4_53 : Cond.methodLink RX4 53 yX1_copies ∈ tblG := gW_of 805 (by decide +kernel) (by decide +kernel)
theorem l_X4_56 : Cond.methodLink RX4 56 arraycopyName ∈ tblG := gW_of 806 (by decide +kernel) (by decide +kernel)
theorem k_X4_62 : Cond.constant RX4 62 1103515245 ∈ tblG := gW_of 607 (by decide +kernel) (by decide +kernel)
theorem f_X4_63 : zF RX4 63 1 7 := ⟨RX1, "AnswerPass$Pass", TX1, 10, rfl, by decide, in_X1, gW_of 141 (by decide +kernel) (by decide +kernel), rfl⟩
abbrev mX4_draws : zM := (yX4_draws, cX4_draws, 1, (some .int), 1)
theorem v_X4_draws : zVok yX4_draws cX4_draws 1 (some .int) 0 := ⟨gW_of 606 (by decide +kernel) (by decide +kernel), gW_of 604 (by decide +kernel) (by decide +kernel), gW_of 605 (by decide +kernel) (by decide +kernel), gW_of 64 (by decide +kernel) (by decide +kernel), by decide +kernel, by decide +kernel, by decide +kernel⟩
theorem l_X4_66 : Cond.methodLink RX4 66 yX4_draws ∈ tblG := gW_of 603 (by decide +kernel) (by decide +kernel)
theorem f_X4_70 : zF RX4 70 1 4 := ⟨RX1, "AnswerPass$Pass", TX1, 10, rfl, by decide, in_X1, gW_of 132 (by decide +kernel) (by decide +kernel), rfl⟩
theorem l_X4_73 : Cond.methodLink RX4 73 Lib.Math.min.name ∈ tblG := gW_of 608 (by decide +kernel) (by decide +kernel)
theorem l_X4_79 : Cond.methodLink RX4 79 Lib.Math.max.name ∈ tblG := gW_of 609 (by decide +kernel) (by decide +kernel)
theorem f_X4_82 : zF RX4 82 1 8 := ⟨RX1, "AnswerPass$Pass", TX1, 10, rfl, by decide, in_X1, gW_of 144 (by decide +kernel) (by decide +kernel), rfl⟩
theorem l_X4_85 : Cond.methodLink RX4 85 yX1_anHourGoes ∈ tblG := gW_of 610 (by decide +kernel) (by decide +kernel)
theorem f_X5_9 : zF RX5 9 5 0 := ⟨RX5, "AnswerPass$Thought", TX5, 2, rfl, by decide, in_X5, gW_of 238 (by decide +kernel) (by decide +kernel), rfl⟩
theorem f_X5_17 : zF RX5 17 1 0 := ⟨RX1, "AnswerPass$Pass", TX1, 10, rfl, by decide, in_X1, gW_of 121 (by decide +kernel) (by decide +kernel), rfl⟩
theorem f_X5_21 : zF RX5 21 1 1 := ⟨RX1, "AnswerPass$Pass", TX1, 10, rfl, by decide, in_X1, gW_of 123 (by decide +kernel) (by decide +kernel), rfl⟩
theorem f_X5_27 : zF RX5 27 5 1 := ⟨RX5, "AnswerPass$Thought", TX5, 2, rfl, by decide, in_X5, gW_of 239 (by decide +kernel) (by decide +kernel), rfl⟩
theorem l_X5_30 : Cond.methodLink RX5 30 yX1_copies ∈ tblG := gW_of 627 (by decide +kernel) (by decide +kernel)
theorem l_X5_34 : Cond.methodLink RX5 34 yX1_anHourGoes ∈ tblG := gW_of 635 (by decide +kernel) (by decide +kernel)
theorem f_X5_38 : zF RX5 38 1 6 := ⟨RX1, "AnswerPass$Pass", TX1, 10, rfl, by decide, in_X1, gW_of 138 (by decide +kernel) (by decide +kernel), rfl⟩
theorem f_X5_42 : zF RX5 42 1 5 := ⟨RX1, "AnswerPass$Pass", TX1, 10, rfl, by decide, in_X1, gW_of 135 (by decide +kernel) (by decide +kernel), rfl⟩
theorem l_X5_46 : Cond.methodLink RX5 46 yX5_starts ∈ tblG := gW_of 655 (by decide +kernel) (by decide +kernel)
theorem f_X5_49 : zF RX5 49 1 4 := ⟨RX1, "AnswerPass$Pass", TX1, 10, rfl, by decide, in_X1, gW_of 131 (by decide +kernel) (by decide +kernel), rfl⟩
theorem l_X5_52 : Cond.methodLink RX5 52 yX5_hoursTo ∈ tblG := gW_of 656 (by decide +kernel) (by decide +kernel)
theorem f_X5_56 : zF RX5 56 1 8 := ⟨RX1, "AnswerPass$Pass", TX1, 10, rfl, by decide, in_X1, gW_of 143 (by decide +kernel) (by decide +kernel), rfl⟩
abbrev mX5_comesWithout : zM := (yX5_comesWithout, cX5_comesWithout, 5, (some .boolean), 3)
theorem v_X5_comesWithout : zVok yX5_comesWithout cX5_comesWithout 5 (some .boolean) 4 := ⟨gW_of 668 (by decide +kernel) (by decide +kernel), gW_of 666 (by decide +kernel) (by decide +kernel), gW_of 667 (by decide +kernel) (by decide +kernel), gW_of 68 (by decide +kernel) (by decide +kernel), by decide +kernel, by decide +kernel, by decide +kernel⟩
theorem l_X5_60 : Cond.methodLink RX5 60 yX5_comesWithout ∈ tblG := gW_of 665 (by decide +kernel) (by decide +kernel)
abbrev mX5_isDrop : zM := (yX5_isDrop, cX5_isDrop, 2, (some .boolean), 3)
theorem v_X5_isDrop : zVok yX5_isDrop cX5_isDrop 2 (some .boolean) 1 := ⟨gW_of 672 (by decide +kernel) (by decide +kernel), gW_of 670 (by decide +kernel) (by decide +kernel), gW_of 671 (by decide +kernel) (by decide +kernel), gW_of 68 (by decide +kernel) (by decide +kernel), by decide +kernel, by decide +kernel, by decide +kernel⟩
theorem l_X5_64 : Cond.methodLink RX5 64 yX5_isDrop ∈ tblG := gW_of 669 (by decide +kernel) (by decide +kernel)
theorem l_X5_68 : Cond.methodLink RX5 68 yX1_stands ∈ tblG := gW_of 687 (by decide +kernel) (by decide +kernel)
theorem l_X5_72 : Cond.methodLink RX5 72 yX5_goesOn ∈ tblG := gW_of 688 (by decide +kernel) (by decide +kernel)
theorem l_X5_75 : Cond.methodLink RX5 75 yX1_clearFor ∈ tblG := gW_of 711 (by decide +kernel) (by decide +kernel)
theorem f_X6_11 : zF RX6 11 6 0 := ⟨RX6, "AnswerPass$Voices", TX6, 6, rfl, by decide, in_X6, gW_of 252 (by decide +kernel) (by decide +kernel), rfl⟩
theorem f_X6_15 : zF RX6 15 6 1 := ⟨RX6, "AnswerPass$Voices", TX6, 6, rfl, by decide, in_X6, gW_of 254 (by decide +kernel) (by decide +kernel), rfl⟩
theorem f_X6_19 : zF RX6 19 6 2 := ⟨RX6, "AnswerPass$Voices", TX6, 6, rfl, by decide, in_X6, gW_of 256 (by decide +kernel) (by decide +kernel), rfl⟩
theorem f_X6_23 : zF RX6 23 6 3 := ⟨RX6, "AnswerPass$Voices", TX6, 6, rfl, by decide, in_X6, gW_of 258 (by decide +kernel) (by decide +kernel), rfl⟩
theorem f_X6_26 : zF RX6 26 6 4 := ⟨RX6, "AnswerPass$Voices", TX6, 6, rfl, by decide, in_X6, gW_of 259 (by decide +kernel) (by decide +kernel), rfl⟩
theorem f_X6_29 : zF RX6 29 6 5 := ⟨RX6, "AnswerPass$Voices", TX6, 6, rfl, by decide, in_X6, gW_of 260 (by decide +kernel) (by decide +kernel), rfl⟩
abbrev mX6_bodyFrom : zM := (yX6_bodyFrom, cX6_bodyFrom, 5, (some .int), 1)
theorem v_X6_bodyFrom : zSok yX6_bodyFrom cX6_bodyFrom 5 (some .int) 2 := ⟨gW_of 722 (by decide +kernel) (by decide +kernel), gW_of 721 (by decide +kernel) (by decide +kernel), gW_of 69 (by decide +kernel) (by decide +kernel), by decide +kernel, by decide +kernel, by decide +kernel⟩
theorem l_X6_32 : Cond.methodLink RX6 32 yX6_bodyFrom ∈ tblG := gW_of 720 (by decide +kernel) (by decide +kernel)
abbrev mX6_worksOut : zM := (yX6_worksOut, cX6_worksOut, 5, (some .int), 1)
theorem v_X6_worksOut : zVok yX6_worksOut cX6_worksOut 5 (some .int) 3 := ⟨gW_of 729 (by decide +kernel) (by decide +kernel), gW_of 728 (by decide +kernel) (by decide +kernel), gW_of 9 (by decide +kernel) (by decide +kernel), gW_of 69 (by decide +kernel) (by decide +kernel), by decide +kernel, by decide +kernel, by decide +kernel⟩
theorem l_X6_36 : Cond.methodLink RX6 36 yX6_worksOut ∈ tblG := gW_of 726 (by decide +kernel) (by decide +kernel)
abbrev mX6_begins : zM := (yX6_begins, cX6_begins, 2, none, 0)
theorem v_X6_begins : zVok yX6_begins cX6_begins 2 none 1 := ⟨gW_of 733 (by decide +kernel) (by decide +kernel), gW_of 732 (by decide +kernel) (by decide +kernel), gW_of 10 (by decide +kernel) (by decide +kernel), gW_of 69 (by decide +kernel) (by decide +kernel), by decide +kernel, by decide +kernel, by decide +kernel⟩
theorem l_X6_43 : Cond.methodLink RX6 43 yX6_begins ∈ tblG := gW_of 730 (by decide +kernel) (by decide +kernel)
abbrev mX6_says : zM := (yX6_says, cX6_says, 3, (some .int), 1)
theorem v_X6_says : zVok yX6_says cX6_says 3 (some .int) 2 := ⟨gW_of 737 (by decide +kernel) (by decide +kernel), gW_of 736 (by decide +kernel) (by decide +kernel), gW_of 11 (by decide +kernel) (by decide +kernel), gW_of 69 (by decide +kernel) (by decide +kernel), by decide +kernel, by decide +kernel, by decide +kernel⟩
theorem l_X6_47 : Cond.methodLink RX6 47 yX6_says ∈ tblG := gW_of 734 (by decide +kernel) (by decide +kernel)
abbrev mX6_sees : zM := (yX6_sees, cX6_sees, 3, (some .int), 1)
theorem v_X6_sees : zVok yX6_sees cX6_sees 3 (some .int) 2 := ⟨gW_of 741 (by decide +kernel) (by decide +kernel), gW_of 740 (by decide +kernel) (by decide +kernel), gW_of 12 (by decide +kernel) (by decide +kernel), gW_of 69 (by decide +kernel) (by decide +kernel), by decide +kernel, by decide +kernel, by decide +kernel⟩
theorem l_X6_50 : Cond.methodLink RX6 50 yX6_sees ∈ tblG := gW_of 738 (by decide +kernel) (by decide +kernel)
abbrev mX6_partsBy : zM := (yX6_partsBy, cX6_partsBy, 3, (some .int), 1)
theorem v_X6_partsBy : zVok yX6_partsBy cX6_partsBy 3 (some .int) 2 := ⟨gW_of 745 (by decide +kernel) (by decide +kernel), gW_of 744 (by decide +kernel) (by decide +kernel), gW_of 13 (by decide +kernel) (by decide +kernel), gW_of 69 (by decide +kernel) (by decide +kernel), by decide +kernel, by decide +kernel, by decide +kernel⟩
theorem l_X6_53 : Cond.methodLink RX6 53 yX6_partsBy ∈ tblG := gW_of 742 (by decide +kernel) (by decide +kernel)
abbrev mX6_above : zM := (yX6_above, cX6_above, 5, (some .int), 1)
theorem v_X6_above : zVok yX6_above cX6_above 5 (some .int) 4 := ⟨gW_of 749 (by decide +kernel) (by decide +kernel), gW_of 748 (by decide +kernel) (by decide +kernel), gW_of 14 (by decide +kernel) (by decide +kernel), gW_of 69 (by decide +kernel) (by decide +kernel), by decide +kernel, by decide +kernel, by decide +kernel⟩
theorem l_X6_56 : Cond.methodLink RX6 56 yX6_above ∈ tblG := gW_of 746 (by decide +kernel) (by decide +kernel)
theorem f_X6_60 : Cond.fieldLink RX6 60 "AnswerPass$Voices" "BODIES" "[I" ∈ tblG := gW_of 723 (by decide +kernel) (by decide +kernel)
abbrev mX7_person : zM := (yX7_person, cX7_person, 4, (some .int), 1)
theorem v_X7_person : zVok yX7_person cX7_person 4 (some .int) 2 := ⟨gW_of 323 (by decide +kernel) (by decide +kernel), gW_of 321 (by decide +kernel) (by decide +kernel), gW_of 322 (by decide +kernel) (by decide +kernel), gW_of 63 (by decide +kernel) (by decide +kernel), by decide +kernel, by decide +kernel, by decide +kernel⟩
theorem l_L_13 : Cond.methodLink RL 13 yX7_person ∈ tblG := gW_of 320 (by decide +kernel) (by decide +kernel)
abbrev mX8_person : zM := (yX8_person, cX8_person, 4, (some .int), 1)
theorem v_X8_person : zVok yX8_person cX8_person 4 (some .int) 2 := ⟨gW_of 962 (by decide +kernel) (by decide +kernel), gW_of 960 (by decide +kernel) (by decide +kernel), gW_of 961 (by decide +kernel) (by decide +kernel), gW_of 71 (by decide +kernel) (by decide +kernel), by decide +kernel, by decide +kernel, by decide +kernel⟩
theorem l_L_17 : Cond.methodLink RL 17 yX8_person ∈ tblG := gW_of 959 (by decide +kernel) (by decide +kernel)
abbrev mX7_personIs : zM := (yX7_personIs, cX7_personIs, 4, (some .int), 1)
theorem v_X7_personIs : zVok yX7_personIs cX7_personIs 4 (some .int) 2 := ⟨gW_of 349 (by decide +kernel) (by decide +kernel), gW_of 347 (by decide +kernel) (by decide +kernel), gW_of 348 (by decide +kernel) (by decide +kernel), gW_of 63 (by decide +kernel) (by decide +kernel), by decide +kernel, by decide +kernel, by decide +kernel⟩
theorem l_L_18 : Cond.methodLink RL 18 yX7_personIs ∈ tblG := gW_of 346 (by decide +kernel) (by decide +kernel)
abbrev mX8_personIs : zM := (yX8_personIs, cX8_personIs, 3, (some .int), 1)
theorem v_X8_personIs : zVok yX8_personIs cX8_personIs 3 (some .int) 2 := ⟨gW_of 973 (by decide +kernel) (by decide +kernel), gW_of 971 (by decide +kernel) (by decide +kernel), gW_of 972 (by decide +kernel) (by decide +kernel), gW_of 71 (by decide +kernel) (by decide +kernel), by decide +kernel, by decide +kernel, by decide +kernel⟩
theorem l_L_21 : Cond.methodLink RL 21 yX8_personIs ∈ tblG := gW_of 970 (by decide +kernel) (by decide +kernel)
abbrev mX7_become : zM := (yX7_become, cX7_become, 5, (some .int), 1)
theorem v_X7_become : zVok yX7_become cX7_become 5 (some .int) 2 := ⟨gW_of 388 (by decide +kernel) (by decide +kernel), gW_of 386 (by decide +kernel) (by decide +kernel), gW_of 387 (by decide +kernel) (by decide +kernel), gW_of 63 (by decide +kernel) (by decide +kernel), by decide +kernel, by decide +kernel, by decide +kernel⟩
theorem l_L_22 : Cond.methodLink RL 22 yX7_become ∈ tblG := gW_of 385 (by decide +kernel) (by decide +kernel)
abbrev mX8_become : zM := (yX8_become, cX8_become, 3, (some .int), 1)
theorem v_X8_become : zVok yX8_become cX8_become 3 (some .int) 2 := ⟨gW_of 1023 (by decide +kernel) (by decide +kernel), gW_of 1021 (by decide +kernel) (by decide +kernel), gW_of 1022 (by decide +kernel) (by decide +kernel), gW_of 71 (by decide +kernel) (by decide +kernel), by decide +kernel, by decide +kernel, by decide +kernel⟩
theorem l_L_25 : Cond.methodLink RL 25 yX8_become ∈ tblG := gW_of 1020 (by decide +kernel) (by decide +kernel)
abbrev mX7_as : zM := (yX7_as, cX7_as, 3, (some .int), 1)
theorem v_X7_as : zVok yX7_as cX7_as 3 (some .int) 2 := ⟨gW_of 392 (by decide +kernel) (by decide +kernel), gW_of 390 (by decide +kernel) (by decide +kernel), gW_of 391 (by decide +kernel) (by decide +kernel), gW_of 63 (by decide +kernel) (by decide +kernel), by decide +kernel, by decide +kernel, by decide +kernel⟩
theorem l_L_26 : Cond.methodLink RL 26 yX7_as ∈ tblG := gW_of 389 (by decide +kernel) (by decide +kernel)
abbrev mX8_as : zM := (yX8_as, cX8_as, 4, (some .int), 1)
theorem v_X8_as : zVok yX8_as cX8_as 4 (some .int) 2 := ⟨gW_of 1031 (by decide +kernel) (by decide +kernel), gW_of 1029 (by decide +kernel) (by decide +kernel), gW_of 1030 (by decide +kernel) (by decide +kernel), gW_of 71 (by decide +kernel) (by decide +kernel), by decide +kernel, by decide +kernel, by decide +kernel⟩
theorem l_L_29 : Cond.methodLink RL 29 yX8_as ∈ tblG := gW_of 1028 (by decide +kernel) (by decide +kernel)
abbrev mX7_answers : zM := (yX7_answers, cX7_answers, 4, (some .int), 1)
theorem v_X7_answers : zVok yX7_answers cX7_answers 4 (some .int) 2 := ⟨gW_of 401 (by decide +kernel) (by decide +kernel), gW_of 399 (by decide +kernel) (by decide +kernel), gW_of 400 (by decide +kernel) (by decide +kernel), gW_of 63 (by decide +kernel) (by decide +kernel), by decide +kernel, by decide +kernel, by decide +kernel⟩
theorem l_L_30 : Cond.methodLink RL 30 yX7_answers ∈ tblG := gW_of 398 (by decide +kernel) (by decide +kernel)
abbrev mX8_answers : zM := (yX8_answers, cX8_answers, 3, (some .int), 1)
theorem v_X8_answers : zVok yX8_answers cX8_answers 3 (some .int) 2 := ⟨gW_of 1038 (by decide +kernel) (by decide +kernel), gW_of 1036 (by decide +kernel) (by decide +kernel), gW_of 1037 (by decide +kernel) (by decide +kernel), gW_of 71 (by decide +kernel) (by decide +kernel), by decide +kernel, by decide +kernel, by decide +kernel⟩
theorem l_L_33 : Cond.methodLink RL 33 yX8_answers ∈ tblG := gW_of 1035 (by decide +kernel) (by decide +kernel)
abbrev mX7_puts : zM := (yX7_puts, cX7_puts, 4, (some .int), 1)
theorem v_X7_puts : zVok yX7_puts cX7_puts 4 (some .int) 2 := ⟨gW_of 405 (by decide +kernel) (by decide +kernel), gW_of 403 (by decide +kernel) (by decide +kernel), gW_of 404 (by decide +kernel) (by decide +kernel), gW_of 63 (by decide +kernel) (by decide +kernel), by decide +kernel, by decide +kernel, by decide +kernel⟩
theorem l_L_34 : Cond.methodLink RL 34 yX7_puts ∈ tblG := gW_of 402 (by decide +kernel) (by decide +kernel)
abbrev mX8_puts : zM := (yX8_puts, cX8_puts, 3, (some .int), 1)
theorem v_X8_puts : zVok yX8_puts cX8_puts 3 (some .int) 2 := ⟨gW_of 1042 (by decide +kernel) (by decide +kernel), gW_of 1040 (by decide +kernel) (by decide +kernel), gW_of 1041 (by decide +kernel) (by decide +kernel), gW_of 71 (by decide +kernel) (by decide +kernel), by decide +kernel, by decide +kernel, by decide +kernel⟩
theorem l_L_37 : Cond.methodLink RL 37 yX8_puts ∈ tblG := gW_of 1039 (by decide +kernel) (by decide +kernel)
abbrev mX7_drop : zM := (yX7_drop, cX7_drop, 5, (some .int), 1)
theorem v_X7_drop : zVok yX7_drop cX7_drop 5 (some .int) 2 := ⟨gW_of 413 (by decide +kernel) (by decide +kernel), gW_of 411 (by decide +kernel) (by decide +kernel), gW_of 412 (by decide +kernel) (by decide +kernel), gW_of 63 (by decide +kernel) (by decide +kernel), by decide +kernel, by decide +kernel, by decide +kernel⟩
theorem l_L_38 : Cond.methodLink RL 38 yX7_drop ∈ tblG := gW_of 410 (by decide +kernel) (by decide +kernel)
abbrev mX8_drop : zM := (yX8_drop, cX8_drop, 4, (some .int), 1)
theorem v_X8_drop : zVok yX8_drop cX8_drop 4 (some .int) 2 := ⟨gW_of 1049 (by decide +kernel) (by decide +kernel), gW_of 1047 (by decide +kernel) (by decide +kernel), gW_of 1048 (by decide +kernel) (by decide +kernel), gW_of 71 (by decide +kernel) (by decide +kernel), by decide +kernel, by decide +kernel, by decide +kernel⟩
theorem l_L_41 : Cond.methodLink RL 41 yX8_drop ∈ tblG := gW_of 1046 (by decide +kernel) (by decide +kernel)
theorem k_L_42 : Cond.constantLong RL 42 4294967295 ∈ tblG := gW_of 1258 (by decide +kernel) (by decide +kernel)
abbrev mX7_feed : zM := (yX7_feed, cX7_feed, 4, (some .int), 1)
theorem v_X7_feed : zVok yX7_feed cX7_feed 4 (some .int) 2 := ⟨gW_of 417 (by decide +kernel) (by decide +kernel), gW_of 415 (by decide +kernel) (by decide +kernel), gW_of 416 (by decide +kernel) (by decide +kernel), gW_of 63 (by decide +kernel) (by decide +kernel), by decide +kernel, by decide +kernel, by decide +kernel⟩
theorem l_L_44 : Cond.methodLink RL 44 yX7_feed ∈ tblG := gW_of 414 (by decide +kernel) (by decide +kernel)
abbrev mX8_feed : zM := (yX8_feed, cX8_feed, 5, (some .int), 1)
theorem v_X8_feed : zVok yX8_feed cX8_feed 5 (some .int) 2 := ⟨gW_of 897 (by decide +kernel) (by decide +kernel), gW_of 895 (by decide +kernel) (by decide +kernel), gW_of 896 (by decide +kernel) (by decide +kernel), gW_of 71 (by decide +kernel) (by decide +kernel), by decide +kernel, by decide +kernel, by decide +kernel⟩
theorem l_L_48 : Cond.methodLink RL 48 yX8_feed ∈ tblG := gW_of 894 (by decide +kernel) (by decide +kernel)
abbrev mX7_text : zM := (yX7_text, cX7_text, 3, (some .int), 1)
theorem v_X7_text : zVok yX7_text cX7_text 3 (some .int) 1 := ⟨gW_of 425 (by decide +kernel) (by decide +kernel), gW_of 423 (by decide +kernel) (by decide +kernel), gW_of 424 (by decide +kernel) (by decide +kernel), gW_of 63 (by decide +kernel) (by decide +kernel), by decide +kernel, by decide +kernel, by decide +kernel⟩
theorem l_L_49 : Cond.methodLink RL 49 yX7_text ∈ tblG := gW_of 422 (by decide +kernel) (by decide +kernel)
abbrev mX8_text : zM := (yX8_text, cX8_text, 5, (some .int), 1)
theorem v_X8_text : zVok yX8_text cX8_text 5 (some .int) 1 := ⟨gW_of 910 (by decide +kernel) (by decide +kernel), gW_of 908 (by decide +kernel) (by decide +kernel), gW_of 909 (by decide +kernel) (by decide +kernel), gW_of 71 (by decide +kernel) (by decide +kernel), by decide +kernel, by decide +kernel, by decide +kernel⟩
theorem l_L_53 : Cond.methodLink RL 53 yX8_text ∈ tblG := gW_of 907 (by decide +kernel) (by decide +kernel)
abbrev mX7_untell : zM := (yX7_untell, cX7_untell, 4, (some .int), 1)
theorem v_X7_untell : zVok yX7_untell cX7_untell 4 (some .int) 1 := ⟨gW_of 569 (by decide +kernel) (by decide +kernel), gW_of 567 (by decide +kernel) (by decide +kernel), gW_of 568 (by decide +kernel) (by decide +kernel), gW_of 63 (by decide +kernel) (by decide +kernel), by decide +kernel, by decide +kernel, by decide +kernel⟩
theorem l_L_54 : Cond.methodLink RL 54 yX7_untell ∈ tblG := gW_of 566 (by decide +kernel) (by decide +kernel)
abbrev mX8_untell : zM := (yX8_untell, cX8_untell, 3, (some .int), 1)
theorem v_X8_untell : zVok yX8_untell cX8_untell 3 (some .int) 1 := ⟨gW_of 954 (by decide +kernel) (by decide +kernel), gW_of 952 (by decide +kernel) (by decide +kernel), gW_of 953 (by decide +kernel) (by decide +kernel), gW_of 71 (by decide +kernel) (by decide +kernel), by decide +kernel, by decide +kernel, by decide +kernel⟩
theorem l_L_57 : Cond.methodLink RL 57 yX8_untell ∈ tblG := gW_of 951 (by decide +kernel) (by decide +kernel)
abbrev mX7_law : zM := (yX7_law, cX7_law, 5, (some .int), 1)
theorem v_X7_law : zVok yX7_law cX7_law 5 (some .int) 4 := ⟨gW_of 573 (by decide +kernel) (by decide +kernel), gW_of 571 (by decide +kernel) (by decide +kernel), gW_of 572 (by decide +kernel) (by decide +kernel), gW_of 63 (by decide +kernel) (by decide +kernel), by decide +kernel, by decide +kernel, by decide +kernel⟩
theorem l_L_58 : Cond.methodLink RL 58 yX7_law ∈ tblG := gW_of 570 (by decide +kernel) (by decide +kernel)
abbrev mX8_law : zM := (yX8_law, cX8_law, 5, (some .int), 1)
theorem v_X8_law : zVok yX8_law cX8_law 5 (some .int) 4 := ⟨gW_of 1053 (by decide +kernel) (by decide +kernel), gW_of 1051 (by decide +kernel) (by decide +kernel), gW_of 1052 (by decide +kernel) (by decide +kernel), gW_of 71 (by decide +kernel) (by decide +kernel), by decide +kernel, by decide +kernel, by decide +kernel⟩
theorem l_L_62 : Cond.methodLink RL 62 yX8_law ∈ tblG := gW_of 1050 (by decide +kernel) (by decide +kernel)
abbrev mX7_hours : zM := (yX7_hours, cX7_hours, 4, (some .int), 1)
theorem v_X7_hours : zVok yX7_hours cX7_hours 4 (some .int) 1 := ⟨gW_of 578 (by decide +kernel) (by decide +kernel), gW_of 576 (by decide +kernel) (by decide +kernel), gW_of 577 (by decide +kernel) (by decide +kernel), gW_of 63 (by decide +kernel) (by decide +kernel), by decide +kernel, by decide +kernel, by decide +kernel⟩
theorem l_L_63 : Cond.methodLink RL 63 yX7_hours ∈ tblG := gW_of 575 (by decide +kernel) (by decide +kernel)
abbrev mX8_hours : zM := (yX8_hours, cX8_hours, 3, (some .int), 1)
theorem v_X8_hours : zVok yX8_hours cX8_hours 3 (some .int) 1 := ⟨gW_of 1057 (by decide +kernel) (by decide +kernel), gW_of 1055 (by decide +kernel) (by decide +kernel), gW_of 1056 (by decide +kernel) (by decide +kernel), gW_of 71 (by decide +kernel) (by decide +kernel), by decide +kernel, by decide +kernel, by decide +kernel⟩
theorem l_L_66 : Cond.methodLink RL 66 yX8_hours ∈ tblG := gW_of 1054 (by decide +kernel) (by decide +kernel)
abbrev mX7_loose : zM := (yX7_loose, cX7_loose, 4, (some .int), 1)
theorem v_X7_loose : zVok yX7_loose cX7_loose 4 (some .int) 1 := ⟨gW_of 598 (by decide +kernel) (by decide +kernel), gW_of 596 (by decide +kernel) (by decide +kernel), gW_of 597 (by decide +kernel) (by decide +kernel), gW_of 63 (by decide +kernel) (by decide +kernel), by decide +kernel, by decide +kernel, by decide +kernel⟩
theorem l_L_67 : Cond.methodLink RL 67 yX7_loose ∈ tblG := gW_of 595 (by decide +kernel) (by decide +kernel)
abbrev mX8_loose : zM := (yX8_loose, cX8_loose, 4, (some .int), 1)
theorem v_X8_loose : zVok yX8_loose cX8_loose 4 (some .int) 1 := ⟨gW_of 1085 (by decide +kernel) (by decide +kernel), gW_of 1083 (by decide +kernel) (by decide +kernel), gW_of 1084 (by decide +kernel) (by decide +kernel), gW_of 71 (by decide +kernel) (by decide +kernel), by decide +kernel, by decide +kernel, by decide +kernel⟩
theorem l_L_70 : Cond.methodLink RL 70 yX8_loose ∈ tblG := gW_of 1082 (by decide +kernel) (by decide +kernel)
abbrev mX7_hour : zM := (yX7_hour, cX7_hour, 3, (some .int), 1)
theorem v_X7_hour : zVok yX7_hour cX7_hour 3 (some .int) 1 := ⟨gW_of 614 (by decide +kernel) (by decide +kernel), gW_of 612 (by decide +kernel) (by decide +kernel), gW_of 613 (by decide +kernel) (by decide +kernel), gW_of 63 (by decide +kernel) (by decide +kernel), by decide +kernel, by decide +kernel, by decide +kernel⟩
theorem l_L_71 : Cond.methodLink RL 71 yX7_hour ∈ tblG := gW_of 611 (by decide +kernel) (by decide +kernel)
abbrev mX8_hour : zM := (yX8_hour, cX8_hour, 2, (some .int), 1)
theorem v_X8_hour : zVok yX8_hour cX8_hour 2 (some .int) 1 := ⟨gW_of 1098 (by decide +kernel) (by decide +kernel), gW_of 1096 (by decide +kernel) (by decide +kernel), gW_of 1097 (by decide +kernel) (by decide +kernel), gW_of 71 (by decide +kernel) (by decide +kernel), by decide +kernel, by decide +kernel, by decide +kernel⟩
theorem l_L_74 : Cond.methodLink RL 74 yX8_hour ∈ tblG := gW_of 1095 (by decide +kernel) (by decide +kernel)
abbrev mX7_seed : zM := (yX7_seed, cX7_seed, 3, (some .int), 1)
theorem v_X7_seed : zVok yX7_seed cX7_seed 3 (some .int) 1 := ⟨gW_of 618 (by decide +kernel) (by decide +kernel), gW_of 616 (by decide +kernel) (by decide +kernel), gW_of 617 (by decide +kernel) (by decide +kernel), gW_of 63 (by decide +kernel) (by decide +kernel), by decide +kernel, by decide +kernel, by decide +kernel⟩
theorem l_L_75 : Cond.methodLink RL 75 yX7_seed ∈ tblG := gW_of 615 (by decide +kernel) (by decide +kernel)
abbrev mX8_seed : zM := (yX8_seed, cX8_seed, 2, (some .int), 1)
theorem v_X8_seed : zVok yX8_seed cX8_seed 2 (some .int) 1 := ⟨gW_of 1102 (by decide +kernel) (by decide +kernel), gW_of 1100 (by decide +kernel) (by decide +kernel), gW_of 1101 (by decide +kernel) (by decide +kernel), gW_of 71 (by decide +kernel) (by decide +kernel), by decide +kernel, by decide +kernel, by decide +kernel⟩
theorem l_L_78 : Cond.methodLink RL 78 yX8_seed ∈ tblG := gW_of 1099 (by decide +kernel) (by decide +kernel)
abbrev mX7_then : zM := (yX7_then, cX7_then, 5, (some .int), 1)
theorem v_X7_then : zVok yX7_then cX7_then 5 (some .int) 3 := ⟨gW_of 622 (by decide +kernel) (by decide +kernel), gW_of 620 (by decide +kernel) (by decide +kernel), gW_of 621 (by decide +kernel) (by decide +kernel), gW_of 63 (by decide +kernel) (by decide +kernel), by decide +kernel, by decide +kernel, by decide +kernel⟩
theorem l_L_79 : Cond.methodLink RL 79 yX7_then ∈ tblG := gW_of 619 (by decide +kernel) (by decide +kernel)
abbrev mX8_then : zM := (yX8_then, cX8_then, 5, (some .int), 1)
theorem v_X8_then : zVok yX8_then cX8_then 5 (some .int) 3 := ⟨gW_of 1106 (by decide +kernel) (by decide +kernel), gW_of 1104 (by decide +kernel) (by decide +kernel), gW_of 1105 (by decide +kernel) (by decide +kernel), gW_of 71 (by decide +kernel) (by decide +kernel), by decide +kernel, by decide +kernel, by decide +kernel⟩
theorem l_L_83 : Cond.methodLink RL 83 yX8_then ∈ tblG := gW_of 1103 (by decide +kernel) (by decide +kernel)
abbrev mX7_soonest : zM := (yX7_soonest, cX7_soonest, 4, (some .int), 1)
theorem v_X7_soonest : zVok yX7_soonest cX7_soonest 4 (some .int) 2 := ⟨gW_of 639 (by decide +kernel) (by decide +kernel), gW_of 637 (by decide +kernel) (by decide +kernel), gW_of 638 (by decide +kernel) (by decide +kernel), gW_of 63 (by decide +kernel) (by decide +kernel), by decide +kernel, by decide +kernel, by decide +kernel⟩
theorem l_L_84 : Cond.methodLink RL 84 yX7_soonest ∈ tblG := gW_of 636 (by decide +kernel) (by decide +kernel)
abbrev mX8_soonest : zM := (yX8_soonest, cX8_soonest, 4, (some .int), 1)
theorem v_X8_soonest : zVok yX8_soonest cX8_soonest 4 (some .int) 2 := ⟨gW_of 1118 (by decide +kernel) (by decide +kernel), gW_of 1116 (by decide +kernel) (by decide +kernel), gW_of 1117 (by decide +kernel) (by decide +kernel), gW_of 71 (by decide +kernel) (by decide +kernel), by decide +kernel, by decide +kernel, by decide +kernel⟩
theorem l_L_87 : Cond.methodLink RL 87 yX8_soonest ∈ tblG := gW_of 1115 (by decide +kernel) (by decide +kernel)
abbrev mX7_least : zM := (yX7_least, cX7_least, 5, (some .int), 1)
theorem v_X7_least : zVok yX7_least cX7_least 5 (some .int) 3 := ⟨gW_of 647 (by decide +kernel) (by decide +kernel), gW_of 645 (by decide +kernel) (by decide +kernel), gW_of 646 (by decide +kernel) (by decide +kernel), gW_of 63 (by decide +kernel) (by decide +kernel), by decide +kernel, by decide +kernel, by decide +kernel⟩
theorem l_L_88 : Cond.methodLink RL 88 yX7_least ∈ tblG := gW_of 644 (by decide +kernel) (by decide +kernel)
abbrev mX8_least : zM := (yX8_least, cX8_least, 5, (some .int), 1)
theorem v_X8_least : zVok yX8_least cX8_least 5 (some .int) 3 := ⟨gW_of 1126 (by decide +kernel) (by decide +kernel), gW_of 1124 (by decide +kernel) (by decide +kernel), gW_of 1125 (by decide +kernel) (by decide +kernel), gW_of 71 (by decide +kernel) (by decide +kernel), by decide +kernel, by decide +kernel, by decide +kernel⟩
theorem l_L_91 : Cond.methodLink RL 91 yX8_least ∈ tblG := gW_of 1123 (by decide +kernel) (by decide +kernel)
abbrev mX7_fills : zM := (yX7_fills, cX7_fills, 6, (some .int), 1)
theorem v_X7_fills : zVok yX7_fills cX7_fills 6 (some .int) 4 := ⟨gW_of 660 (by decide +kernel) (by decide +kernel), gW_of 658 (by decide +kernel) (by decide +kernel), gW_of 659 (by decide +kernel) (by decide +kernel), gW_of 63 (by decide +kernel) (by decide +kernel), by decide +kernel, by decide +kernel, by decide +kernel⟩
theorem l_L_92 : Cond.methodLink RL 92 yX7_fills ∈ tblG := gW_of 657 (by decide +kernel) (by decide +kernel)
abbrev mX8_fills : zM := (yX8_fills, cX8_fills, 11, (some .int), 1)
theorem v_X8_fills : zVok yX8_fills cX8_fills 11 (some .int) 4 := ⟨gW_of 1137 (by decide +kernel) (by decide +kernel), gW_of 1135 (by decide +kernel) (by decide +kernel), gW_of 1136 (by decide +kernel) (by decide +kernel), gW_of 71 (by decide +kernel) (by decide +kernel), by decide +kernel, by decide +kernel, by decide +kernel⟩
theorem l_L_95 : Cond.methodLink RL 95 yX8_fills ∈ tblG := gW_of 1134 (by decide +kernel) (by decide +kernel)
abbrev mX7_withWhom : zM := (yX7_withWhom, cX7_withWhom, 7, (some .int), 1)
theorem v_X7_withWhom : zVok yX7_withWhom cX7_withWhom 7 (some .int) 2 := ⟨gW_of 682 (by decide +kernel) (by decide +kernel), gW_of 680 (by decide +kernel) (by decide +kernel), gW_of 681 (by decide +kernel) (by decide +kernel), gW_of 63 (by decide +kernel) (by decide +kernel), by decide +kernel, by decide +kernel, by decide +kernel⟩
theorem l_L_96 : Cond.methodLink RL 96 yX7_withWhom ∈ tblG := gW_of 679 (by decide +kernel) (by decide +kernel)
abbrev mX8_withWhom : zM := (yX8_withWhom, cX8_withWhom, 7, (some .int), 1)
theorem v_X8_withWhom : zVok yX8_withWhom cX8_withWhom 7 (some .int) 2 := ⟨gW_of 1148 (by decide +kernel) (by decide +kernel), gW_of 1146 (by decide +kernel) (by decide +kernel), gW_of 1147 (by decide +kernel) (by decide +kernel), gW_of 71 (by decide +kernel) (by decide +kernel), by decide +kernel, by decide +kernel, by decide +kernel⟩
theorem l_L_99 : Cond.methodLink RL 99 yX8_withWhom ∈ tblG := gW_of 1145 (by decide +kernel) (by decide +kernel)
abbrev mX7_odds : zM := (yX7_odds, cX7_odds, 7, (some .int), 1)
theorem v_X7_odds : zVok yX7_odds cX7_odds 7 (some .int) 4 := ⟨gW_of 692 (by decide +kernel) (by decide +kernel), gW_of 690 (by decide +kernel) (by decide +kernel), gW_of 691 (by decide +kernel) (by decide +kernel), gW_of 63 (by decide +kernel) (by decide +kernel), by decide +kernel, by decide +kernel, by decide +kernel⟩
theorem l_L_100 : Cond.methodLink RL 100 yX7_odds ∈ tblG := gW_of 689 (by decide +kernel) (by decide +kernel)
abbrev mX8_odds : zM := (yX8_odds, cX8_odds, 7, (some .int), 1)
theorem v_X8_odds : zVok yX8_odds cX8_odds 7 (some .int) 4 := ⟨gW_of 1156 (by decide +kernel) (by decide +kernel), gW_of 1154 (by decide +kernel) (by decide +kernel), gW_of 1155 (by decide +kernel) (by decide +kernel), gW_of 71 (by decide +kernel) (by decide +kernel), by decide +kernel, by decide +kernel, by decide +kernel⟩
theorem l_L_103 : Cond.methodLink RL 103 yX8_odds ∈ tblG := gW_of 1153 (by decide +kernel) (by decide +kernel)
abbrev mX7_fits : zM := (yX7_fits, cX7_fits, 7, (some .int), 1)
theorem v_X7_fits : zVok yX7_fits cX7_fits 7 (some .int) 3 := ⟨gW_of 699 (by decide +kernel) (by decide +kernel), gW_of 697 (by decide +kernel) (by decide +kernel), gW_of 698 (by decide +kernel) (by decide +kernel), gW_of 63 (by decide +kernel) (by decide +kernel), by decide +kernel, by decide +kernel, by decide +kernel⟩
theorem l_L_104 : Cond.methodLink RL 104 yX7_fits ∈ tblG := gW_of 696 (by decide +kernel) (by decide +kernel)
abbrev mX8_fits : zM := (yX8_fits, cX8_fits, 9, (some .int), 1)
theorem v_X8_fits : zVok yX8_fits cX8_fits 9 (some .int) 3 := ⟨gW_of 1163 (by decide +kernel) (by decide +kernel), gW_of 1161 (by decide +kernel) (by decide +kernel), gW_of 1162 (by decide +kernel) (by decide +kernel), gW_of 71 (by decide +kernel) (by decide +kernel), by decide +kernel, by decide +kernel, by decide +kernel⟩
theorem l_L_107 : Cond.methodLink RL 107 yX8_fits ∈ tblG := gW_of 1160 (by decide +kernel) (by decide +kernel)
abbrev mX7_voice : zM := (yX7_voice, cX7_voice, 5, (some .int), 1)
theorem v_X7_voice : zVok yX7_voice cX7_voice 5 (some .int) 3 := ⟨gW_of 715 (by decide +kernel) (by decide +kernel), gW_of 713 (by decide +kernel) (by decide +kernel), gW_of 714 (by decide +kernel) (by decide +kernel), gW_of 63 (by decide +kernel) (by decide +kernel), by decide +kernel, by decide +kernel, by decide +kernel⟩
theorem l_L_108 : Cond.methodLink RL 108 yX7_voice ∈ tblG := gW_of 712 (by decide +kernel) (by decide +kernel)
abbrev mX8_voice : zM := (yX8_voice, cX8_voice, 6, (some .int), 1)
theorem v_X8_voice : zVok yX8_voice cX8_voice 6 (some .int) 3 := ⟨gW_of 1178 (by decide +kernel) (by decide +kernel), gW_of 1176 (by decide +kernel) (by decide +kernel), gW_of 1177 (by decide +kernel) (by decide +kernel), gW_of 71 (by decide +kernel) (by decide +kernel), by decide +kernel, by decide +kernel, by decide +kernel⟩
theorem l_L_111 : Cond.methodLink RL 111 yX8_voice ∈ tblG := gW_of 1175 (by decide +kernel) (by decide +kernel)
abbrev mX7_body : zM := (yX7_body, cX7_body, 2, (some .int), 1)
theorem v_X7_body : zVok yX7_body cX7_body 2 (some .int) 1 := ⟨gW_of 753 (by decide +kernel) (by decide +kernel), gW_of 751 (by decide +kernel) (by decide +kernel), gW_of 752 (by decide +kernel) (by decide +kernel), gW_of 63 (by decide +kernel) (by decide +kernel), by decide +kernel, by decide +kernel, by decide +kernel⟩
theorem l_L_112 : Cond.methodLink RL 112 yX7_body ∈ tblG := gW_of 750 (by decide +kernel) (by decide +kernel)
abbrev mX8_body : zM := (yX8_body, cX8_body, 2, (some .int), 1)
theorem v_X8_body : zVok yX8_body cX8_body 2 (some .int) 1 := ⟨gW_of 1210 (by decide +kernel) (by decide +kernel), gW_of 1208 (by decide +kernel) (by decide +kernel), gW_of 1209 (by decide +kernel) (by decide +kernel), gW_of 71 (by decide +kernel) (by decide +kernel), by decide +kernel, by decide +kernel, by decide +kernel⟩
theorem l_L_115 : Cond.methodLink RL 115 yX8_body ∈ tblG := gW_of 1207 (by decide +kernel) (by decide +kernel)
abbrev mX7_sheet : zM := (yX7_sheet, cX7_sheet, 4, (some .int), 1)
theorem v_X7_sheet : zVok yX7_sheet cX7_sheet 4 (some .int) 3 := ⟨gW_of 757 (by decide +kernel) (by decide +kernel), gW_of 755 (by decide +kernel) (by decide +kernel), gW_of 756 (by decide +kernel) (by decide +kernel), gW_of 63 (by decide +kernel) (by decide +kernel), by decide +kernel, by decide +kernel, by decide +kernel⟩
theorem l_L_116 : Cond.methodLink RL 116 yX7_sheet ∈ tblG := gW_of 754 (by decide +kernel) (by decide +kernel)
abbrev mX8_sheet : zM := (yX8_sheet, cX8_sheet, 5, (some .int), 1)
theorem v_X8_sheet : zVok yX8_sheet cX8_sheet 5 (some .int) 3 := ⟨gW_of 1214 (by decide +kernel) (by decide +kernel), gW_of 1212 (by decide +kernel) (by decide +kernel), gW_of 1213 (by decide +kernel) (by decide +kernel), gW_of 71 (by decide +kernel) (by decide +kernel), by decide +kernel, by decide +kernel, by decide +kernel⟩
theorem l_L_119 : Cond.methodLink RL 119 yX8_sheet ∈ tblG := gW_of 1211 (by decide +kernel) (by decide +kernel)
abbrev mX7_put : zM := (yX7_put, cX7_put, 4, (some .int), 1)
theorem v_X7_put : zVok yX7_put cX7_put 4 (some .int) 3 := ⟨gW_of 765 (by decide +kernel) (by decide +kernel), gW_of 763 (by decide +kernel) (by decide +kernel), gW_of 764 (by decide +kernel) (by decide +kernel), gW_of 63 (by decide +kernel) (by decide +kernel), by decide +kernel, by decide +kernel, by decide +kernel⟩
theorem l_L_120 : Cond.methodLink RL 120 yX7_put ∈ tblG := gW_of 762 (by decide +kernel) (by decide +kernel)
abbrev mX8_put : zM := (yX8_put, cX8_put, 5, (some .int), 1)
theorem v_X8_put : zVok yX8_put cX8_put 5 (some .int) 3 := ⟨gW_of 1218 (by decide +kernel) (by decide +kernel), gW_of 1216 (by decide +kernel) (by decide +kernel), gW_of 1217 (by decide +kernel) (by decide +kernel), gW_of 71 (by decide +kernel) (by decide +kernel), by decide +kernel, by decide +kernel, by decide +kernel⟩
theorem l_L_123 : Cond.methodLink RL 123 yX8_put ∈ tblG := gW_of 1215 (by decide +kernel) (by decide +kernel)
abbrev mX7_move : zM := (yX7_move, cX7_move, 6, (some .int), 1)
theorem v_X7_move : zVok yX7_move cX7_move 6 (some .int) 5 := ⟨gW_of 773 (by decide +kernel) (by decide +kernel), gW_of 771 (by decide +kernel) (by decide +kernel), gW_of 772 (by decide +kernel) (by decide +kernel), gW_of 63 (by decide +kernel) (by decide +kernel), by decide +kernel, by decide +kernel, by decide +kernel⟩
theorem l_L_124 : Cond.methodLink RL 124 yX7_move ∈ tblG := gW_of 770 (by decide +kernel) (by decide +kernel)
abbrev mX8_move : zM := (yX8_move, cX8_move, 7, (some .int), 1)
theorem v_X8_move : zVok yX8_move cX8_move 7 (some .int) 5 := ⟨gW_of 1222 (by decide +kernel) (by decide +kernel), gW_of 1220 (by decide +kernel) (by decide +kernel), gW_of 1221 (by decide +kernel) (by decide +kernel), gW_of 71 (by decide +kernel) (by decide +kernel), by decide +kernel, by decide +kernel, by decide +kernel⟩
theorem l_L_128 : Cond.methodLink RL 128 yX8_move ∈ tblG := gW_of 1219 (by decide +kernel) (by decide +kernel)
abbrev mX7_sures : zM := (yX7_sures, cX7_sures, 5, (some .int), 1)
theorem v_X7_sures : zVok yX7_sures cX7_sures 5 (some .int) 1 := ⟨gW_of 782 (by decide +kernel) (by decide +kernel), gW_of 780 (by decide +kernel) (by decide +kernel), gW_of 781 (by decide +kernel) (by decide +kernel), gW_of 63 (by decide +kernel) (by decide +kernel), by decide +kernel, by decide +kernel, by decide +kernel⟩
theorem l_L_129 : Cond.methodLink RL 129 yX7_sures ∈ tblG := gW_of 779 (by decide +kernel) (by decide +kernel)
abbrev mX8_sures : zM := (yX8_sures, cX8_sures, 4, (some .int), 1)
theorem v_X8_sures : zVok yX8_sures cX8_sures 4 (some .int) 1 := ⟨gW_of 1226 (by decide +kernel) (by decide +kernel), gW_of 1224 (by decide +kernel) (by decide +kernel), gW_of 1225 (by decide +kernel) (by decide +kernel), gW_of 71 (by decide +kernel) (by decide +kernel), by decide +kernel, by decide +kernel, by decide +kernel⟩
theorem l_L_132 : Cond.methodLink RL 132 yX8_sures ∈ tblG := gW_of 1223 (by decide +kernel) (by decide +kernel)
abbrev mX7_judge : zM := (yX7_judge, cX7_judge, 2, (some .int), 1)
theorem v_X7_judge : zVok yX7_judge cX7_judge 2 (some .int) 1 := ⟨gW_of 787 (by decide +kernel) (by decide +kernel), gW_of 785 (by decide +kernel) (by decide +kernel), gW_of 786 (by decide +kernel) (by decide +kernel), gW_of 63 (by decide +kernel) (by decide +kernel), by decide +kernel, by decide +kernel, by decide +kernel⟩
theorem l_L_133 : Cond.methodLink RL 133 yX7_judge ∈ tblG := gW_of 784 (by decide +kernel) (by decide +kernel)
abbrev mX8_judge : zM := (yX8_judge, cX8_judge, 4, (some .int), 1)
theorem v_X8_judge : zVok yX8_judge cX8_judge 4 (some .int) 1 := ⟨gW_of 1230 (by decide +kernel) (by decide +kernel), gW_of 1228 (by decide +kernel) (by decide +kernel), gW_of 1229 (by decide +kernel) (by decide +kernel), gW_of 71 (by decide +kernel) (by decide +kernel), by decide +kernel, by decide +kernel, by decide +kernel⟩
theorem l_L_136 : Cond.methodLink RL 136 yX8_judge ∈ tblG := gW_of 1227 (by decide +kernel) (by decide +kernel)
abbrev mX7_image : zM := (yX7_image, cX7_image, 1, (some .int), 1)
theorem v_X7_image : zVok yX7_image cX7_image 1 (some .int) 0 := ⟨gW_of 795 (by decide +kernel) (by decide +kernel), gW_of 793 (by decide +kernel) (by decide +kernel), gW_of 794 (by decide +kernel) (by decide +kernel), gW_of 63 (by decide +kernel) (by decide +kernel), by decide +kernel, by decide +kernel, by decide +kernel⟩
theorem l_L_137 : Cond.methodLink RL 137 yX7_image ∈ tblG := gW_of 792 (by decide +kernel) (by decide +kernel)
abbrev mX8_image : zM := (yX8_image, cX8_image, 1, (some .int), 1)
theorem v_X8_image : zVok yX8_image cX8_image 1 (some .int) 0 := ⟨gW_of 1234 (by decide +kernel) (by decide +kernel), gW_of 1232 (by decide +kernel) (by decide +kernel), gW_of 1233 (by decide +kernel) (by decide +kernel), gW_of 71 (by decide +kernel) (by decide +kernel), by decide +kernel, by decide +kernel, by decide +kernel⟩
theorem l_L_141 : Cond.methodLink RL 141 yX8_image ∈ tblG := gW_of 1231 (by decide +kernel) (by decide +kernel)
abbrev mX7_restore : zM := (yX7_restore, cX7_restore, 1, (some .int), 1)
theorem v_X7_restore : zVok yX7_restore cX7_restore 1 (some .int) 0 := ⟨gW_of 810 (by decide +kernel) (by decide +kernel), gW_of 808 (by decide +kernel) (by decide +kernel), gW_of 809 (by decide +kernel) (by decide +kernel), gW_of 63 (by decide +kernel) (by decide +kernel), by decide +kernel, by decide +kernel, by decide +kernel⟩
theorem l_L_142 : Cond.methodLink RL 142 yX7_restore ∈ tblG := gW_of 807 (by decide +kernel) (by decide +kernel)
abbrev mX8_restore : zM := (yX8_restore, cX8_restore, 1, (some .int), 1)
theorem v_X8_restore : zVok yX8_restore cX8_restore 1 (some .int) 0 := ⟨gW_of 1241 (by decide +kernel) (by decide +kernel), gW_of 1239 (by decide +kernel) (by decide +kernel), gW_of 1240 (by decide +kernel) (by decide +kernel), gW_of 71 (by decide +kernel) (by decide +kernel), by decide +kernel, by decide +kernel, by decide +kernel⟩
theorem l_L_145 : Cond.methodLink RL 145 yX8_restore ∈ tblG := gW_of 1238 (by decide +kernel) (by decide +kernel)
abbrev mX7_tell : zM := (yX7_tell, cX7_tell, 2, (some .int), 1)
theorem v_X7_tell : zVok yX7_tell cX7_tell 2 (some .int) 1 := ⟨gW_of 814 (by decide +kernel) (by decide +kernel), gW_of 812 (by decide +kernel) (by decide +kernel), gW_of 813 (by decide +kernel) (by decide +kernel), gW_of 63 (by decide +kernel) (by decide +kernel), by decide +kernel, by decide +kernel, by decide +kernel⟩
theorem l_L_146 : Cond.methodLink RL 146 yX7_tell ∈ tblG := gW_of 811 (by decide +kernel) (by decide +kernel)
abbrev mX8_tell : zM := (yX8_tell, cX8_tell, 2, (some .int), 1)
theorem v_X8_tell : zVok yX8_tell cX8_tell 2 (some .int) 1 := ⟨gW_of 1245 (by decide +kernel) (by decide +kernel), gW_of 1243 (by decide +kernel) (by decide +kernel), gW_of 1244 (by decide +kernel) (by decide +kernel), gW_of 71 (by decide +kernel) (by decide +kernel), by decide +kernel, by decide +kernel, by decide +kernel⟩
theorem l_L_149 : Cond.methodLink RL 149 yX8_tell ∈ tblG := gW_of 1242 (by decide +kernel) (by decide +kernel)
abbrev mX7_check : zM := (yX7_check, cX7_check, 3, (some .int), 1)
theorem v_X7_check : zVok yX7_check cX7_check 3 (some .int) 0 := ⟨gW_of 818 (by decide +kernel) (by decide +kernel), gW_of 816 (by decide +kernel) (by decide +kernel), gW_of 817 (by decide +kernel) (by decide +kernel), gW_of 63 (by decide +kernel) (by decide +kernel), by decide +kernel, by decide +kernel, by decide +kernel⟩
theorem l_L_150 : Cond.methodLink RL 150 yX7_check ∈ tblG := gW_of 815 (by decide +kernel) (by decide +kernel)
abbrev mX8_check : zM := (yX8_check, cX8_check, 3, (some .int), 1)
theorem v_X8_check : zVok yX8_check cX8_check 3 (some .int) 0 := ⟨gW_of 1249 (by decide +kernel) (by decide +kernel), gW_of 1247 (by decide +kernel) (by decide +kernel), gW_of 1248 (by decide +kernel) (by decide +kernel), gW_of 71 (by decide +kernel) (by decide +kernel), by decide +kernel, by decide +kernel, by decide +kernel⟩
theorem l_L_153 : Cond.methodLink RL 153 yX8_check ∈ tblG := gW_of 1246 (by decide +kernel) (by decide +kernel)
abbrev mX7_count : zM := (yX7_count, cX7_count, 2, (some .int), 1)
theorem v_X7_count : zVok yX7_count cX7_count 2 (some .int) 1 := ⟨gW_of 822 (by decide +kernel) (by decide +kernel), gW_of 820 (by decide +kernel) (by decide +kernel), gW_of 821 (by decide +kernel) (by decide +kernel), gW_of 63 (by decide +kernel) (by decide +kernel), by decide +kernel, by decide +kernel, by decide +kernel⟩
theorem l_L_154 : Cond.methodLink RL 154 yX7_count ∈ tblG := gW_of 819 (by decide +kernel) (by decide +kernel)
abbrev mX8_count : zM := (yX8_count, cX8_count, 2, (some .int), 1)
theorem v_X8_count : zVok yX8_count cX8_count 2 (some .int) 1 := ⟨gW_of 1253 (by decide +kernel) (by decide +kernel), gW_of 1251 (by decide +kernel) (by decide +kernel), gW_of 1252 (by decide +kernel) (by decide +kernel), gW_of 71 (by decide +kernel) (by decide +kernel), by decide +kernel, by decide +kernel, by decide +kernel⟩
theorem l_L_157 : Cond.methodLink RL 157 yX8_count ∈ tblG := gW_of 1250 (by decide +kernel) (by decide +kernel)
abbrev mX7_told : zM := (yX7_told, cX7_told, 2, (some .int), 1)
theorem v_X7_told : zVok yX7_told cX7_told 2 (some .int) 1 := ⟨gW_of 826 (by decide +kernel) (by decide +kernel), gW_of 824 (by decide +kernel) (by decide +kernel), gW_of 825 (by decide +kernel) (by decide +kernel), gW_of 63 (by decide +kernel) (by decide +kernel), by decide +kernel, by decide +kernel, by decide +kernel⟩
theorem l_L_158 : Cond.methodLink RL 158 yX7_told ∈ tblG := gW_of 823 (by decide +kernel) (by decide +kernel)
abbrev mX8_told : zM := (yX8_told, cX8_told, 2, (some .int), 1)
theorem v_X8_told : zVok yX8_told cX8_told 2 (some .int) 1 := ⟨gW_of 1257 (by decide +kernel) (by decide +kernel), gW_of 1255 (by decide +kernel) (by decide +kernel), gW_of 1256 (by decide +kernel) (by decide +kernel), gW_of 71 (by decide +kernel) (by decide +kernel), by decide +kernel, by decide +kernel, by decide +kernel⟩
theorem l_L_161 : Cond.methodLink RL 161 yX8_told ∈ tblG := gW_of 1254 (by decide +kernel) (by decide +kernel)
abbrev mJ0_indexOf_7cf53 : zM := (yJ0_indexOf_7cf53, cJ0_indexOf_7cf53, 3, (some .int), 1)
theorem v_J0_indexOf_7cf53 : zVok yJ0_indexOf_7cf53 cJ0_indexOf_7cf53 3 (some .int) 2 := ⟨gW_of 465 (by decide +kernel) (by decide +kernel), gW_of 463 (by decide +kernel) (by decide +kernel), gW_of 464 (by decide +kernel) (by decide +kernel), gW_of 72 (by decide +kernel) (by decide +kernel), by decide +kernel, by decide +kernel, by decide +kernel⟩
theorem l_J0_633 : Cond.methodLink RJ0 633 yJ0_indexOf_7cf53 ∈ tblG := gW_of 462 (by decide +kernel) (by decide +kernel)
abbrev mJ0_isLatin1_aae02 : zM := (yJ0_isLatin1_aae02, cJ0_isLatin1_aae02, 1, (some .boolean), 3)
theorem v_J0_isLatin1_aae02 : zVok yJ0_isLatin1_aae02 cJ0_isLatin1_aae02 1 (some .boolean) 0 := ⟨gW_of 469 (by decide +kernel) (by decide +kernel), gW_of 467 (by decide +kernel) (by decide +kernel), gW_of 468 (by decide +kernel) (by decide +kernel), gW_of 72 (by decide +kernel) (by decide +kernel), by decide +kernel, by decide +kernel, by decide +kernel⟩
theorem l_J0_492 : Cond.methodLink RJ0 492 yJ0_isLatin1_aae02 ∈ tblG := gW_of 466 (by decide +kernel) (by decide +kernel)
theorem f_J0_9 : Cond.fieldLink RJ0 9 "java/lang/String" "value" "[B" ∈ tblG := gW_of 1260 (by decide +kernel) (by decide +kernel)
abbrev mJ0_length_8abf5 : zM := (yJ0_length_8abf5, cJ0_length_8abf5, 1, (some .int), 1)
theorem v_J0_length_8abf5 : zVok yJ0_length_8abf5 cJ0_length_8abf5 1 (some .int) 0 := ⟨gW_of 475 (by decide +kernel) (by decide +kernel), gW_of 473 (by decide +kernel) (by decide +kernel), gW_of 474 (by decide +kernel) (by decide +kernel), gW_of 72 (by decide +kernel) (by decide +kernel), by decide +kernel, by decide +kernel, by decide +kernel⟩
theorem l_J0_505 : Cond.methodLink RJ0 505 yJ0_length_8abf5 ∈ tblG := gW_of 472 (by decide +kernel) (by decide +kernel)
abbrev mJ1_indexOf_4cfef : zM := (yJ1_indexOf_4cfef, cJ1_indexOf_4cfef, 4, (some .int), 1)
theorem v_J1_indexOf_4cfef : zSok yJ1_indexOf_4cfef cJ1_indexOf_4cfef 4 (some .int) 4 := ⟨gW_of 482 (by decide +kernel) (by decide +kernel), gW_of 481 (by decide +kernel) (by decide +kernel), gW_of 73 (by decide +kernel) (by decide +kernel), by decide +kernel, by decide +kernel, by decide +kernel⟩
theorem l_J0_637 : Cond.methodLink RJ0 637 yJ1_indexOf_4cfef ∈ tblG := gW_of 480 (by decide +kernel) (by decide +kernel)
theorem l_J0_640 : Cond.methodLink RJ0 640 yJ2_indexOf_4cfef ∈ tblG := gW_of 495 (by decide +kernel) (by decide +kernel)
theorem f_J0_38 : Cond.fieldLink RJ0 38 "java/lang/String" "COMPACT_STRINGS" "Z" ∈ tblG := gW_of 470 (by decide +kernel) (by decide +kernel)
theorem f_J0_15 : Cond.fieldLink RJ0 15 "java/lang/String" "coder" "B" ∈ tblG := gW_of 1259 (by decide +kernel) (by decide +kernel)
abbrev mJ0_coder_7d493 : zM := (yJ0_coder_7d493, cJ0_coder_7d493, 1, (some .byte), 4)
theorem v_J0_coder_7d493 : zVok yJ0_coder_7d493 cJ0_coder_7d493 1 (some .byte) 0 := ⟨gW_of 479 (by decide +kernel) (by decide +kernel), gW_of 477 (by decide +kernel) (by decide +kernel), gW_of 478 (by decide +kernel) (by decide +kernel), gW_of 72 (by decide +kernel) (by decide +kernel), by decide +kernel, by decide +kernel, by decide +kernel⟩
theorem l_J0_335 : Cond.methodLink RJ0 335 yJ0_coder_7d493 ∈ tblG := gW_of 476 (by decide +kernel) (by decide +kernel)
abbrev mJ1_canEncode_9a6ad : zM := (yJ1_canEncode_9a6ad, cJ1_canEncode_9a6ad, 1, (some .boolean), 3)
theorem v_J1_canEncode_9a6ad : zSok yJ1_canEncode_9a6ad cJ1_canEncode_9a6ad 1 (some .boolean) 1 := ⟨gW_of 485 (by decide +kernel) (by decide +kernel), gW_of 484 (by decide +kernel) (by decide +kernel), gW_of 73 (by decide +kernel) (by decide +kernel), by decide +kernel, by decide +kernel, by decide +kernel⟩
theorem l_J1_88 : Cond.methodLink RJ1 88 yJ1_canEncode_9a6ad ∈ tblG := gW_of 483 (by decide +kernel) (by decide +kernel)
theorem l_J1_92 : Cond.methodLink RJ1 92 Lib.Math.max.name ∈ tblG := gW_of 486 (by decide +kernel) (by decide +kernel)
theorem l_J1_38 : Cond.methodLink RJ1 38 Lib.Math.min.name ∈ tblG := gW_of 489 (by decide +kernel) (by decide +kernel)
abbrev mJ1_indexOfChar_4cfef : zM := (yJ1_indexOfChar_4cfef, cJ1_indexOfChar_4cfef, 6, (some .int), 1)
theorem v_J1_indexOfChar_4cfef : zSok yJ1_indexOfChar_4cfef cJ1_indexOfChar_4cfef 6 (some .int) 4 := ⟨gW_of 494 (by decide +kernel) (by decide +kernel), gW_of 493 (by decide +kernel) (by decide +kernel), gW_of 73 (by decide +kernel) (by decide +kernel), by decide +kernel, by decide +kernel, by decide +kernel⟩
theorem l_J1_95 : Cond.methodLink RJ1 95 yJ1_indexOfChar_4cfef ∈ tblG := gW_of 492 (by decide +kernel) (by decide +kernel)
theorem k_J6_265 : Cond.constant RJ6 265 1431655765 ∈ tblG := gW_of 676 (by decide +kernel) (by decide +kernel)
theorem k_J6_266 : Cond.constant RJ6 266 858993459 ∈ tblG := gW_of 677 (by decide +kernel) (by decide +kernel)
theorem k_J6_267 : Cond.constant RJ6 267 252645135 ∈ tblG := gW_of 678 (by decide +kernel) (by decide +kernel)
theorem f_J0_1053 : Cond.fieldLink RJ0 1053 "jdk/internal/util/Preconditions" "SIOOBE_FORMATTER" "Ljava/util/function/BiFunction;" ∈ tblG := gW_of 513 (by decide +kernel) (by decide +kernel)
theorem l_J0_1062 : Cond.methodLink RJ0 1062 yJ3_checkFromToIndex_8c36e ∈ tblG := gW_of 515 (by decide +kernel) (by decide +kernel)
theorem w_minS : Cond.static Lib.Math.min.name ∈ tblG := gW_of 490 (by decide +kernel) (by decide +kernel)
theorem w_maxS : Cond.static Lib.Math.max.name ∈ tblG := gW_of 487 (by decide +kernel) (by decide +kernel)
theorem w_mathI : Cond.initialized "java/lang/Math" ∈ tblG := gW_of 74 (by decide +kernel) (by decide +kernel)
theorem w_sysI : Cond.initialized "java/lang/System" ∈ tblG := gW_of 78 (by decide +kernel) (by decide +kernel)
theorem w_acN : Cond.native arraycopyName ∈ tblG := gW_of 565 (by decide +kernel) (by decide +kernel)
theorem w_acS : Cond.static arraycopyName ∈ tblG := gW_of 564 (by decide +kernel) (by decide +kernel)
theorem w_minC : Cond.code Lib.Math.min.name Lib.Math.min.code 2 (some .int) ∈ tblG := gW_of 491 (by decide +kernel) (by decide +kernel)
theorem w_maxC : Cond.code Lib.Math.max.name Lib.Math.max.code 2 (some .int) ∈ tblG := gW_of 488 (by decide +kernel) (by decide +kernel)
end
section
/-! the reference's small methods -/
theorem zin_nI {j n : Nat} (h : j < n) (hn : n < 2147483648) : vp_in (nI j) n := vp_in_nI h (by omega)
theorem zi_its (j w : Nat) : 8 + 5 * nI j + nI w = nI (8 + 5 * j + w) := by
  show nI 8 + nI 5 * nI j + nI w = _
  rw [pk_mul, nI_add, nI_add]
theorem zcl (n : Nat) (h : n < 2147483648) : (nI n).toNatClampNeg = n := nI_clamp (by omega)
theorem zcl_add (n k : Nat) (h : n + k < 2147483648) : (nI n + nI k).toNatClampNeg = n + k := by rw [nI_add]; exact zcl _ h
/-- an int that is at least 0 and below n -/
theorem zj_of {x : Int32} {n : Nat} (h0 : 0 ≤ x) (h : x < nI n) (hn : n < 2147483648) : ∃ j : Nat, j < n ∧ x = nI j := by
  obtain ⟨j, hj, e⟩ := nI_of (x := x) (by grind)
  refine ⟨j, ?_, e⟩
  rw [e] at h
  exact (nI_ltI hj (by omega)).mp h
section M1
variable {l : Launch} {E : zE} {ad : Nat → Nat} {c : zS} {Qf : Int32 → zS → Prop} {d : Nat}
theorem s_X8_in {v lo hi : Int32} (hQ : Qf (if lo ≤ v ∧ v ≤ hi then 1 else 0) c) : zCl l E ad mX8_in d [.int v, .int lo, .int hi] c Qf := by
  refine z_enter (own := RX8) [some (.int v), some (.int lo), some (.int hi)] (by decide +kernel) rfl rfl rfl (Nat.le_of_ble_eq_true rfl) ?_
  refine z_iload_n (i := 0) dX8_in_0 rfl rfl ?_
  refine z_iload_n (i := 1) dX8_in_1 rfl rfl ?_
  refine z_icmp_lt 14 dX8_in_2 (by decide) (fun h_2 => ?_) (fun h_2 => ?_)
  · refine z_iconst (v := 0) dX8_in_14 (by decide) ?_
    exact z_ret dX8_in_15 (by grind) (by rfl) rfl
  · refine z_iload_n (i := 0) dX8_in_5 rfl rfl ?_
    refine z_iload_n (i := 2) dX8_in_6 rfl rfl ?_
    refine z_icmp_gt 14 dX8_in_7 (by decide) (fun h_7 => ?_) (fun h_7 => ?_)
    · refine z_iconst (v := 0) dX8_in_14 (by decide) ?_
      exact z_ret dX8_in_15 (by grind) (by rfl) rfl
    · refine z_iconst (v := 1) dX8_in_10 (by decide) ?_
      refine z_goto 15 dX8_in_11 (by decide) ?_
      exact z_ret dX8_in_15 (by grind) (by rfl) rfl
theorem s_X8_held {v lo hi : Int32} (hQ : Qf (if v < lo then lo else if v > hi then hi else v) c) : zCl l E ad mX8_held d [.int v, .int lo, .int hi] c Qf := by
  refine z_enter (own := RX8) [some (.int v), some (.int lo), some (.int hi)] (by decide +kernel) rfl rfl rfl (Nat.le_of_ble_eq_true rfl) ?_
  refine z_iload_n (i := 0) dX8_held_0 rfl rfl ?_
  refine z_iload_n (i := 1) dX8_held_1 rfl rfl ?_
  refine z_icmp_ge 9 dX8_held_2 (by decide) (fun h_2 => ?_) (fun h_2 => ?_)
  · refine z_iload_n (i := 0) dX8_held_9 rfl rfl ?_
    refine z_iload_n (i := 2) dX8_held_10 rfl rfl ?_
    refine z_icmp_le 18 dX8_held_11 (by decide) (fun h_11 => ?_) (fun h_11 => ?_)
    · refine z_iload_n (i := 0) dX8_held_18 rfl rfl ?_
      exact z_ret dX8_held_19 (by grind) trivial rfl
    · refine z_iload_n (i := 2) dX8_held_14 rfl rfl ?_
      refine z_goto 19 dX8_held_15 (by decide) ?_
      exact z_ret dX8_held_19 (by grind) trivial rfl
  · refine z_iload_n (i := 1) dX8_held_5 rfl rfl ?_
    refine z_goto 19 dX8_held_6 (by decide) ?_
    exact z_ret dX8_held_19 (by grind) trivial rfl
theorem s_X8_error {k : Int32} {j : Nat} (hk : k = nI j) (hj : j < 7) (hQ : Qf (-1000000000 - k) (zup c 55 (upd (c 55) j (c 55 j + 1)))) : zCl l E ad mX8_error d [.ref (ad 51), .int k] c Qf := by
  refine z_enter (own := RX8) [some (.ref (ad 51)), some (.int k)] (by decide +kernel) rfl rfl rfl (Nat.le_of_ble_eq_true rfl) ?_
  refine z_aload_n (i := 0) dX8_error_0 rfl rfl ?_
  refine z_getf dX8_error_1 f_X8_19 (by first | decide | assumption | omega) rfl (by rfl) ?_
  refine z_iload_n (i := 1) dX8_error_4 rfl rfl ?_
  refine z_dup2 dX8_error_5 rfl rfl ?_
  refine z_iald dX8_error_6 (by first | decide | assumption | omega) rfl hk hj (by first | decide | omega) ?_
  refine z_iconst (v := 1) dX8_error_7 (by decide) ?_
  refine z_iadd dX8_error_8 ?_
  refine z_iast dX8_error_9 (by first | decide | assumption | omega) (fun _ => rfl) hk hj (by first | decide | omega) ?_
  refine z_ldc dX8_error_10 k_X8_46 ?_
  refine z_iload_n (i := 1) dX8_error_12 rfl rfl ?_
  refine z_isub dX8_error_13 ?_
  exact z_ret dX8_error_14 (by exact hQ) trivial rfl
theorem s_X8_isPerson {p : Int32} (hd : 1 ≤ d) (hQ : Qf (if 0 ≤ p ∧ p ≤ c 52 5 - 1 then 1 else 0) c) : zCl l E ad mX8_isPerson d [.ref (ad 51), .int p] c Qf := by
  refine z_enter (own := RX8) [some (.ref (ad 51)), some (.int p)] (by decide +kernel) rfl rfl rfl (Nat.le_of_ble_eq_true rfl) ?_
  refine z_iload_n (i := 1) dX8_isPerson_0 rfl rfl ?_
  refine z_iconst (v := 0) dX8_isPerson_1 (by decide) ?_
  refine z_aload_n (i := 0) dX8_isPerson_2 rfl rfl ?_
  refine z_getf dX8_isPerson_3 f_X8_7 (by first | decide | assumption | omega) rfl (by rfl) ?_
  refine z_iconst (v := 5) dX8_isPerson_6 (by decide) ?_
  refine z_iald dX8_isPerson_7 (by first | decide | assumption | omega) rfl (by rfl) (by first | decide | omega) (by first | decide | omega) ?_
  refine z_iconst (v := 1) dX8_isPerson_8 (by decide) ?_
  refine z_isub dX8_isPerson_9 ?_
  refine z_Sb (As := [_, _, _]) dX8_isPerson_10 (by rfl) v_X8_in l_X8_47 rfl (by omega) (by decide) (Nat.le_of_ble_eq_true rfl) ?_
  refine s_X8_in ?_
  exact z_ret dX8_isPerson_13 (by exact hQ) (by show narrow _ _ = _; split <;> rfl) rfl
theorem s_X8_isCell {p : Int32} (hd : 1 ≤ d) (hQ : Qf (if 0 ≤ p ∧ p ≤ 15 then 1 else 0) c) : zCl l E ad mX8_isCell d [.int p] c Qf := by
  refine z_enter (own := RX8) [some (.int p)] (by decide +kernel) rfl rfl rfl (Nat.le_of_ble_eq_true rfl) ?_
  refine z_iload_n (i := 0) dX8_isCell_0 rfl rfl ?_
  refine z_iconst (v := 0) dX8_isCell_1 (by decide) ?_
  refine z_bipush (v := 15) dX8_isCell_2 (by decide) ?_
  refine z_Sb (As := [_, _, _]) dX8_isCell_4 (by rfl) v_X8_in l_X8_47 rfl (by omega) (by decide) (Nat.le_of_ble_eq_true rfl) ?_
  refine s_X8_in ?_
  exact z_ret dX8_isCell_7 (by exact hQ) (by show narrow _ _ = _; split <;> rfl) rfl
theorem s_X8_isKind {p : Int32} (hd : 1 ≤ d) (hQ : Qf (if 0 ≤ p ∧ p ≤ 69 then 1 else 0) c) : zCl l E ad mX8_isKind d [.int p] c Qf := by
  refine z_enter (own := RX8) [some (.int p)] (by decide +kernel) rfl rfl rfl (Nat.le_of_ble_eq_true rfl) ?_
  refine z_iload_n (i := 0) dX8_isKind_0 rfl rfl ?_
  refine z_iconst (v := 0) dX8_isKind_1 (by decide) ?_
  refine z_bipush (v := 69) dX8_isKind_2 (by decide) ?_
  refine z_Sb (As := [_, _, _]) dX8_isKind_4 (by rfl) v_X8_in l_X8_47 rfl (by omega) (by decide) (Nat.le_of_ble_eq_true rfl) ?_
  refine s_X8_in ?_
  exact z_ret dX8_isKind_7 (by exact hQ) (by show narrow _ _ = _; split <;> rfl) rfl
theorem s_X8_isSoon {p : Int32} (hd : 1 ≤ d) (hQ : Qf (if 0 ≤ p ∧ p ≤ 20 then 1 else 0) c) : zCl l E ad mX8_isSoon d [.int p] c Qf := by
  refine z_enter (own := RX8) [some (.int p)] (by decide +kernel) rfl rfl rfl (Nat.le_of_ble_eq_true rfl) ?_
  refine z_iload_n (i := 0) dX8_isSoon_0 rfl rfl ?_
  refine z_iconst (v := 0) dX8_isSoon_1 (by decide) ?_
  refine z_bipush (v := 20) dX8_isSoon_2 (by decide) ?_
  refine z_Sb (As := [_, _, _]) dX8_isSoon_4 (by rfl) v_X8_in l_X8_47 rfl (by omega) (by decide) (Nat.le_of_ble_eq_true rfl) ?_
  refine s_X8_in ?_
  exact z_ret dX8_isSoon_7 (by exact hQ) (by show narrow _ _ = _; split <;> rfl) rfl
theorem s_X8_isSheet {p : Int32} (hd : 1 ≤ d) (hQ : Qf (if 0 ≤ p ∧ p ≤ 3 then 1 else 0) c) : zCl l E ad mX8_isSheet d [.int p] c Qf := by
  refine z_enter (own := RX8) [some (.int p)] (by decide +kernel) rfl rfl rfl (Nat.le_of_ble_eq_true rfl) ?_
  refine z_iload_n (i := 0) dX8_isSheet_0 rfl rfl ?_
  refine z_iconst (v := 0) dX8_isSheet_1 (by decide) ?_
  refine z_iconst (v := 3) dX8_isSheet_2 (by decide) ?_
  refine z_Sb (As := [_, _, _]) dX8_isSheet_3 (by rfl) v_X8_in l_X8_47 rfl (by omega) (by decide) (Nat.le_of_ble_eq_true rfl) ?_
  refine s_X8_in ?_
  exact z_ret dX8_isSheet_6 (by exact hQ) (by show narrow _ _ = _; split <;> rfl) rfl
theorem s_X8_its {p w : Int32} {i : Nat} (hi : 8 + 5 * p + w = nI i) (h : i < 372) (hQ : Qf (c 52 i) c) : zCl l E ad mX8_its d [.ref (ad 51), .int p, .int w] c Qf := by
  refine z_enter (own := RX8) [some (.ref (ad 51)), some (.int p), some (.int w)] (by decide +kernel) rfl rfl rfl (Nat.le_of_ble_eq_true rfl) ?_
  refine z_aload_n (i := 0) dX8_its_0 rfl rfl ?_
  refine z_getf dX8_its_1 f_X8_7 (by first | decide | assumption | omega) rfl (by rfl) ?_
  refine z_bipush (v := 8) dX8_its_4 (by decide) ?_
  refine z_iconst (v := 5) dX8_its_6 (by decide) ?_
  refine z_iload_n (i := 1) dX8_its_7 rfl rfl ?_
  refine z_imul dX8_its_8 ?_
  refine z_iadd dX8_its_9 ?_
  refine z_iload_n (i := 2) dX8_its_10 rfl rfl ?_
  refine z_iadd dX8_its_11 ?_
  refine z_iald dX8_its_12 (by first | decide | assumption | omega) rfl hi h (by first | decide | omega) ?_
  exact z_ret dX8_its_13 (by exact hQ) trivial rfl
theorem s_X8_its0 {j : Nat} (hj : j < 6) (hQ : Qf (c 52 (8 + 5 * j)) c) : zCl l E ad mX8_its d [.ref (ad 51), .int (nI j), .int 0] c Qf := s_X8_its (zi_its j 0) (by omega) hQ
theorem s_X8_its1 {j : Nat} (hj : j < 6) (hQ : Qf (c 52 (8 + 5 * j + 1)) c) : zCl l E ad mX8_its d [.ref (ad 51), .int (nI j), .int 1] c Qf := s_X8_its (zi_its j 1) (by omega) hQ
theorem s_X8_its2 {j : Nat} (hj : j < 6) (hQ : Qf (c 52 (8 + 5 * j + 2)) c) : zCl l E ad mX8_its d [.ref (ad 51), .int (nI j), .int 2] c Qf := s_X8_its (zi_its j 2) (by omega) hQ
theorem s_X8_its3 {j : Nat} (hj : j < 6) (hQ : Qf (c 52 (8 + 5 * j + 3)) c) : zCl l E ad mX8_its d [.ref (ad 51), .int (nI j), .int 3] c Qf := s_X8_its (zi_its j 3) (by omega) hQ
theorem s_X8_its4 {j : Nat} (hj : j < 6) (hQ : Qf (c 52 (8 + 5 * j + 4)) c) : zCl l E ad mX8_its d [.ref (ad 51), .int (nI j), .int 4] c Qf := s_X8_its (zi_its j 4) (by omega) hQ
theorem s_X8_lays1 {p w v : Int32} {i : Nat} (hi : 8 + 5 * p + w = nI i) (h : i < 372) (hQ : Qf 0 (zup c 52 (upd (c 52) i v))) : zCl l E ad mX8_lays1 d [.ref (ad 51), .int p, .int w, .int v] c Qf := by
  refine z_enter (own := RX8) [some (.ref (ad 51)), some (.int p), some (.int w), some (.int v)] (by decide +kernel) rfl rfl rfl (Nat.le_of_ble_eq_true rfl) ?_
  refine z_aload_n (i := 0) dX8_lays1_0 rfl rfl ?_
  refine z_getf dX8_lays1_1 f_X8_7 (by first | decide | assumption | omega) rfl (by rfl) ?_
  refine z_bipush (v := 8) dX8_lays1_4 (by decide) ?_
  refine z_iconst (v := 5) dX8_lays1_6 (by decide) ?_
  refine z_iload_n (i := 1) dX8_lays1_7 rfl rfl ?_
  refine z_imul dX8_lays1_8 ?_
  refine z_iadd dX8_lays1_9 ?_
  refine z_iload_n (i := 2) dX8_lays1_10 rfl rfl ?_
  refine z_iadd dX8_lays1_11 ?_
  refine z_iload_n (i := 3) dX8_lays1_12 rfl rfl ?_
  refine z_iast dX8_lays1_13 (by first | decide | assumption | omega) (fun _ => rfl) hi h (by first | decide | omega) ?_
  exact z_ret (r := 0) dX8_lays1_14 (by exact hQ) rfl rfl
theorem s_X8_lays10 {j : Nat} {v : Int32} (hj : j < 6) (hQ : Qf 0 (zup c 52 (upd (c 52) (8 + 5 * j) v))) : zCl l E ad mX8_lays1 d [.ref (ad 51), .int (nI j), .int 0, .int v] c Qf := s_X8_lays1 (zi_its j 0) (by omega) hQ
theorem s_X8_lays11 {j : Nat} {v : Int32} (hj : j < 6) (hQ : Qf 0 (zup c 52 (upd (c 52) (8 + 5 * j + 1) v))) : zCl l E ad mX8_lays1 d [.ref (ad 51), .int (nI j), .int 1, .int v] c Qf := s_X8_lays1 (zi_its j 1) (by omega) hQ
theorem s_X8_lays12 {j : Nat} {v : Int32} (hj : j < 6) (hQ : Qf 0 (zup c 52 (upd (c 52) (8 + 5 * j + 2) v))) : zCl l E ad mX8_lays1 d [.ref (ad 51), .int (nI j), .int 2, .int v] c Qf := s_X8_lays1 (zi_its j 2) (by omega) hQ
theorem s_X8_lays13 {j : Nat} {v : Int32} (hj : j < 6) (hQ : Qf 0 (zup c 52 (upd (c 52) (8 + 5 * j + 3) v))) : zCl l E ad mX8_lays1 d [.ref (ad 51), .int (nI j), .int 3, .int v] c Qf := s_X8_lays1 (zi_its j 3) (by omega) hQ
theorem s_X8_lays14 {j : Nat} {v : Int32} (hj : j < 6) (hQ : Qf 0 (zup c 52 (upd (c 52) (8 + 5 * j + 4) v))) : zCl l E ad mX8_lays1 d [.ref (ad 51), .int (nI j), .int 4, .int v] c Qf := s_X8_lays1 (zi_its j 4) (by omega) hQ
theorem s_X8_change1 {to v : Int32} {i : Nat} (hi : to = nI i) (h : i < 372) (hQ : Qf (c 52 i) (zup c 52 (upd (c 52) i v))) : zCl l E ad mX8_change1 d [.ref (ad 51), .int to, .int v] c Qf := by
  refine z_enter (own := RX8) [some (.ref (ad 51)), some (.int to), some (.int v), none] (by decide +kernel) rfl rfl rfl (Nat.le_of_ble_eq_true rfl) ?_
  subst hi
  refine z_aload_n (i := 0) dX8_change1_0 rfl rfl ?_
  refine z_getf dX8_change1_1 f_X8_7 (by first | decide | assumption | omega) rfl (by rfl) ?_
  refine z_iload_n (i := 1) dX8_change1_4 rfl rfl ?_
  refine z_iald dX8_change1_5 (by first | decide | assumption | omega) rfl (by rfl) (by first | decide | omega) (by first | decide | omega) ?_
  refine z_istore_n (i := 3) [_, _, _, _] dX8_change1_6 rfl (by decide) rfl rfl ?_
  refine z_aload_n (i := 0) dX8_change1_7 rfl rfl ?_
  refine z_getf dX8_change1_8 f_X8_7 (by first | decide | assumption | omega) rfl (by rfl) ?_
  refine z_iload_n (i := 1) dX8_change1_11 rfl rfl ?_
  refine z_iload_n (i := 2) dX8_change1_12 rfl rfl ?_
  refine z_iast dX8_change1_13 (by first | decide | assumption | omega) (fun _ => rfl) (by rfl) (by first | decide | omega) (by first | decide | omega) ?_
  refine z_iload_n (i := 3) dX8_change1_14 rfl rfl ?_
  exact z_ret dX8_change1_15 (by exact hQ) trivial rfl
theorem s_X8_isDrop {p : Int32} (hQ : Qf (if (c 52 1 >>> (p &&& 31)) &&& 1 = 1 then 1 else 0) c) : zCl l E ad mX8_isDrop d [.ref (ad 51), .int p] c Qf := by
  refine z_enter (own := RX8) [some (.ref (ad 51)), some (.int p)] (by decide +kernel) rfl rfl rfl (Nat.le_of_ble_eq_true rfl) ?_
  refine z_aload_n (i := 0) dX8_isDrop_0 rfl rfl ?_
  refine z_getf dX8_isDrop_1 f_X8_7 (by first | decide | assumption | omega) rfl (by rfl) ?_
  refine z_iconst (v := 1) dX8_isDrop_4 (by decide) ?_
  refine z_iald dX8_isDrop_5 (by first | decide | assumption | omega) rfl (by rfl) (by first | decide | omega) (by first | decide | omega) ?_
  refine z_iload_n (i := 1) dX8_isDrop_6 rfl rfl ?_
  refine z_ishr dX8_isDrop_7 ?_
  refine z_iconst (v := 1) dX8_isDrop_8 (by decide) ?_
  refine z_iand dX8_isDrop_9 ?_
  refine z_iconst (v := 1) dX8_isDrop_10 (by decide) ?_
  refine z_icmp_ne 18 dX8_isDrop_11 (by decide) (fun h_11 => ?_) (fun h_11 => ?_)
  · refine z_iconst (v := 0) dX8_isDrop_18 (by decide) ?_
    exact z_ret dX8_isDrop_19 (by grind) (by rfl) rfl
  · refine z_iconst (v := 1) dX8_isDrop_14 (by decide) ?_
    refine z_goto 19 dX8_isDrop_15 (by decide) ?_
    exact z_ret dX8_isDrop_19 (by grind) (by rfl) rfl
theorem s_X8_look {at' n : Nat} (ha : c 51 5 = nI at') (hn : c 52 3 = nI n) (hn6 : n ≤ 60) (ha6 : at' ≤ 60) (hQ : Qf (if at' < n then c 52 (288 + at') else -1) c) : zCl l E ad mX8_look d [.ref (ad 51)] c Qf := by
  refine z_enter (own := RX8) [some (.ref (ad 51))] (by decide +kernel) rfl rfl rfl (Nat.le_of_ble_eq_true rfl) ?_
  refine z_aload_n (i := 0) dX8_look_0 rfl rfl ?_
  refine z_getf dX8_look_1 f_X8_57 (by first | decide | assumption | omega) rfl (by rfl) ?_
  refine z_aload_n (i := 0) dX8_look_4 rfl rfl ?_
  refine z_getf dX8_look_5 f_X8_7 (by first | decide | assumption | omega) rfl (by rfl) ?_
  refine z_iconst (v := 3) dX8_look_8 (by decide) ?_
  refine z_iald dX8_look_9 (by first | decide | assumption | omega) rfl (by rfl) (by first | decide | omega) (by first | decide | omega) ?_
  refine z_icmp_ge 29 dX8_look_10 (by decide) (fun h_10 => ?_) (fun h_10 => ?_)
  · refine z_iconst (v := (-1)) dX8_look_29 (by decide) ?_
    exact z_ret dX8_look_30 (by grind [nI_leI]) trivial rfl
  · refine z_aload_n (i := 0) dX8_look_13 rfl rfl ?_
    refine z_getf dX8_look_14 f_X8_7 (by first | decide | assumption | omega) rfl (by rfl) ?_
    refine z_sipush (v := 288) dX8_look_17 (by decide) ?_
    refine z_aload_n (i := 0) dX8_look_20 rfl rfl ?_
    refine z_getf dX8_look_21 f_X8_57 (by first | decide | assumption | omega) rfl (by rfl) ?_
    refine z_iadd dX8_look_24 ?_
    refine z_iald (j := 288 + at') dX8_look_25 (by first | decide | assumption | omega) rfl (by rw [ha]; show nI 288 + nI at' = _; rw [nI_add]) (by first | decide | omega) (by first | decide | omega) ?_
    refine z_goto 30 dX8_look_26 (by decide) ?_
    exact z_ret dX8_look_30 (by grind [nI_leI]) trivial rfl
theorem s_X8_draw (hQ : Qf (((c 52 2 * 1103515245 + 12345).toUInt32 >>> ((8 : Int32).toUInt32 &&& Int32.toUInt32 31)).toInt32) (zup c 52 (upd (c 52) 2 (c 52 2 * 1103515245 + 12345)))) : zCl l E ad mX8_draw d [.ref (ad 51)] c Qf := by
  refine z_enter (own := RX8) [some (.ref (ad 51))] (by decide +kernel) rfl rfl rfl (Nat.le_of_ble_eq_true rfl) ?_
  refine z_aload_n (i := 0) dX8_draw_0 rfl rfl ?_
  refine z_getf dX8_draw_1 f_X8_7 (by first | decide | assumption | omega) rfl (by rfl) ?_
  refine z_iconst (v := 2) dX8_draw_4 (by decide) ?_
  refine z_aload_n (i := 0) dX8_draw_5 rfl rfl ?_
  refine z_getf dX8_draw_6 f_X8_7 (by first | decide | assumption | omega) rfl (by rfl) ?_
  refine z_iconst (v := 2) dX8_draw_9 (by decide) ?_
  refine z_iald dX8_draw_10 (by first | decide | assumption | omega) rfl (by rfl) (by first | decide | omega) (by first | decide | omega) ?_
  refine z_ldc dX8_draw_11 k_X8_153 ?_
  refine z_imul dX8_draw_13 ?_
  refine z_sipush (v := 12345) dX8_draw_14 (by decide) ?_
  refine z_iadd dX8_draw_17 ?_
  refine z_iast dX8_draw_18 (by first | decide | assumption | omega) (fun _ => rfl) (by rfl) (by first | decide | omega) (by first | decide | omega) ?_
  refine z_aload_n (i := 0) dX8_draw_19 rfl rfl ?_
  refine z_getf dX8_draw_20 f_X8_7 (by first | decide | assumption | omega) rfl (by rfl) ?_
  refine z_iconst (v := 2) dX8_draw_23 (by decide) ?_
  refine z_iald dX8_draw_24 (by first | decide | assumption | omega) rfl (by rfl) (by first | decide | omega) (by first | decide | omega) ?_
  refine z_bipush (v := 8) dX8_draw_25 (by decide) ?_
  refine z_iushr dX8_draw_27 ?_
  exact z_ret dX8_draw_28 (by exact hQ) trivial rfl
theorem zup_zup {c : zS} {k : Nat} {f g : Nat → Int32} : zup (zup c k f) k g = zup c k g := by
  funext j
  simp only [zup]
  split <;> rfl
theorem zup_id {c : zS} {k : Nat} : zup c k (c k) = c := by
  funext j
  simp only [zup]
  split
  · next h => rw [h]
  · rfl
/-- all of s is kept in laid -/
theorem s_X8_layDown (hQ : ∀ g : Nat → Int32, (∀ k, k < 38 → g k = c 52 k) → Qf 0 (zup c 54 g)) : zCl l E ad mX8_layDown d [.ref (ad 51)] c Qf := by
  refine z_enter (own := RX8) [some (.ref (ad 51)), none] (by decide +kernel) rfl rfl rfl (Nat.le_of_ble_eq_true rfl) ?_
  have loop : ∀ (m i : Nat) (g : Nat → Int32), 38 - i < m → i ≤ 38 → (∀ k, k < i → g k = c 52 k) → zW l E ad RX8 cX8_layDown 2 0 d Qf 2 [some (.ref (ad 51)), some (.int (nI i))] [] (zup c 54 g) := by
    intro m
    induction m with
    | zero => intro i g hm; omega
    | succ m ih =>
      intro i g hm hi hg
      have hlt := nI_leI (a := 38) (b := i) (by omega) (by omega)
      refine z_iload_n (i := 1) dX8_layDown_2 rfl rfl ?_
      refine z_bipush (v := 38) dX8_layDown_3 (by decide) ?_
      refine z_icmp_ge 26 dX8_layDown_5 (by decide) (fun h_5 => ?_) (fun h_5 => ?_)
      · exact z_ret (r := 0) dX8_layDown_26 (hQ g (fun k hk => hg k (by have := hlt.mp h_5; omega))) rfl rfl
      · have hi2 : i < 38 := by have := mt hlt.mpr h_5; omega
        refine z_aload_n (i := 0) dX8_layDown_8 rfl rfl ?_
        refine z_getf dX8_layDown_9 f_X8_16 (by first | decide | assumption | omega) rfl (by rfl) ?_
        refine z_iload_n (i := 1) dX8_layDown_12 rfl rfl ?_
        refine z_aload_n (i := 0) dX8_layDown_13 rfl rfl ?_
        refine z_getf dX8_layDown_14 f_X8_7 (by first | decide | assumption | omega) rfl (by rfl) ?_
        refine z_iload_n (i := 1) dX8_layDown_17 rfl rfl ?_
        refine z_iald dX8_layDown_18 (by first | decide | assumption | omega) rfl (by rfl) (by first | decide | omega) (by first | decide | omega) ?_
        refine z_iast dX8_layDown_19 (by first | decide | assumption | omega) (fun _ => rfl) (by rfl) (by first | decide | omega) (by first | decide | omega) ?_
        refine z_iinc (i := 1) (v := 1) [_, _] dX8_layDown_20 rfl (by decide) (by decide) rfl rfl ?_
        refine z_goto 2 dX8_layDown_23 (by decide) ?_
        rw [nI_1, zup_zup]; exact ih (i + 1) _ (by omega) (by omega) (fun k hk => by rcases Nat.lt_or_eq_of_le (Nat.lt_succ_iff.mp hk) with q | q; exact (pk_un (by omega)).trans (hg k q); subst q; exact pk_us)
  refine z_iconst (v := 0) dX8_layDown_0 (by decide) ?_
  refine z_istore_n (i := 1) [_, _] dX8_layDown_1 rfl (by decide) rfl rfl ?_
  have := loop 39 0 (c 54) (by omega) (by omega) (fun k hk => absurd hk (by omega)); rw [zup_id] at this; exact this
theorem s_X8_layBack (hQ : ∀ g : Nat → Int32, (∀ k, k < 38 → g k = c 54 k) → (∀ k, 38 ≤ k → g k = c 52 k) → Qf 0 (zup c 52 g)) : zCl l E ad mX8_layBack d [.ref (ad 51)] c Qf := by
  refine z_enter (own := RX8) [some (.ref (ad 51)), none] (by decide +kernel) rfl rfl rfl (Nat.le_of_ble_eq_true rfl) ?_
  have loop : ∀ (m i : Nat) (g : Nat → Int32), 38 - i < m → i ≤ 38 → (∀ k, k < i → g k = c 54 k) → (∀ k, 38 ≤ k → g k = c 52 k) → zW l E ad RX8 cX8_layBack 2 0 d Qf 2 [some (.ref (ad 51)), some (.int (nI i))] [] (zup c 52 g) := by
    intro m
    induction m with
    | zero => intro i g hm; omega
    | succ m ih =>
      intro i g hm hi hg hg2
      have hlt := nI_leI (a := 38) (b := i) (by omega) (by omega)
      refine z_iload_n (i := 1) dX8_layBack_2 rfl rfl ?_
      refine z_bipush (v := 38) dX8_layBack_3 (by decide) ?_
      refine z_icmp_ge 26 dX8_layBack_5 (by decide) (fun h_5 => ?_) (fun h_5 => ?_)
      · exact z_ret (r := 0) dX8_layBack_26 (hQ g (fun k hk => hg k (by have := hlt.mp h_5; omega)) hg2) rfl rfl
      · have hi2 : i < 38 := by have := mt hlt.mpr h_5; omega
        refine z_aload_n (i := 0) dX8_layBack_8 rfl rfl ?_
        refine z_getf dX8_layBack_9 f_X8_7 (by first | decide | assumption | omega) rfl (by rfl) ?_
        refine z_iload_n (i := 1) dX8_layBack_12 rfl rfl ?_
        refine z_aload_n (i := 0) dX8_layBack_13 rfl rfl ?_
        refine z_getf dX8_layBack_14 f_X8_16 (by first | decide | assumption | omega) rfl (by rfl) ?_
        refine z_iload_n (i := 1) dX8_layBack_17 rfl rfl ?_
        refine z_iald dX8_layBack_18 (by first | decide | assumption | omega) rfl (by rfl) (by first | decide | omega) (by first | decide | omega) ?_
        refine z_iast dX8_layBack_19 (by first | decide | assumption | omega) (fun _ => rfl) (by rfl) (by first | decide | omega) (by first | decide | omega) ?_
        refine z_iinc (i := 1) (v := 1) [_, _] dX8_layBack_20 rfl (by decide) (by decide) rfl rfl ?_
        refine z_goto 2 dX8_layBack_23 (by decide) ?_
        rw [nI_1, zup_zup]; exact ih (i + 1) _ (by omega) (by omega) (fun k hk => by rcases Nat.lt_or_eq_of_le (Nat.lt_succ_iff.mp hk) with q | q; exact (pk_un (by omega)).trans (hg k q); subst q; exact pk_us) (fun k hk => (pk_un (by omega)).trans (hg2 k hk))
  refine z_iconst (v := 0) dX8_layBack_0 (by decide) ?_
  refine z_istore_n (i := 1) [_, _] dX8_layBack_1 rfl (by decide) rfl rfl ?_
  have := loop 39 0 (c 52) (by omega) (by omega) (fun k hk => absurd hk (by omega)) (fun _ _ => rfl); rw [zup_id] at this; exact this
theorem s_X8_copyAll {a b : Nat} (ha : ∀ f, zen E ad a f = .inl (E.2.1.1, 372, .inl f)) (hb : ∀ f, zen E ad b f = .inl (E.2.1.1, 372, .inl f)) (ha6 : a < 64) (hb6 : b < 64) (hab : a ≠ b) (hQ : ∀ g : Nat → Int32, (∀ k, k < 372 → g k = c a k) → Qf 0 (zup c b g)) : zCl l E ad mX8_copyAll d [.ref (ad a), .ref (ad b)] c Qf := by
  refine z_enter (own := RX8) [some (.ref (ad a)), some (.ref (ad b)), none] (by decide +kernel) rfl rfl rfl (Nat.le_of_ble_eq_true rfl) ?_
  have loop : ∀ (m i : Nat) (g : Nat → Int32), 372 - i < m → i ≤ 372 → (∀ k, k < i → g k = c a k) → zW l E ad RX8 cX8_copyAll 3 0 d Qf 2 [some (.ref (ad a)), some (.ref (ad b)), some (.int (nI i))] [] (zup c b g) := by
    intro m
    induction m with
    | zero => intro i g hm; omega
    | succ m ih =>
      intro i g hm hi hg
      have hlt := nI_leI (a := 372) (b := i) (by omega) (by omega)
      refine z_iload_n (i := 2) dX8_copyAll_2 rfl rfl ?_
      refine z_sipush (v := 372) dX8_copyAll_3 (by decide) ?_
      refine z_icmp_ge 21 dX8_copyAll_6 (by decide) (fun h_6 => ?_) (fun h_6 => ?_)
      · exact z_ret (r := 0) dX8_copyAll_21 (hQ g (fun k hk => hg k (by have := hlt.mp h_6; omega))) rfl rfl
      · have hi2 : i < 372 := by have := mt hlt.mpr h_6; omega
        refine z_aload_n (i := 1) dX8_copyAll_9 rfl rfl ?_
        refine z_iload_n (i := 2) dX8_copyAll_10 rfl rfl ?_
        refine z_aload_n (i := 0) dX8_copyAll_11 rfl rfl ?_
        refine z_iload_n (i := 2) dX8_copyAll_12 rfl rfl ?_
        refine z_iald dX8_copyAll_13 (by first | decide | assumption | omega) (by first | rfl | exact ha _ | exact hb _) (by rfl) (by first | decide | omega) (by first | decide | omega) ?_
        refine z_iast dX8_copyAll_14 (by first | decide | assumption | omega) (fun _ => by first | rfl | exact ha _ | exact hb _) (by rfl) (by first | decide | omega) (by first | decide | omega) ?_
        refine z_iinc (i := 2) (v := 1) [_, _, _] dX8_copyAll_15 rfl (by decide) (by decide) rfl rfl ?_
        refine z_goto 2 dX8_copyAll_18 (by decide) ?_
        rw [nI_1, zup_zup]; exact ih (i + 1) _ (by omega) (by omega) (fun k hk => by rcases Nat.lt_or_eq_of_le (Nat.lt_succ_iff.mp hk) with q | q; exact (pk_un (by omega)).trans ((congrFun (zup_s _ _ _) _).trans (hg k q)); subst q; exact pk_us.trans (congrFun (zup_n hab) _))
  refine z_iconst (v := 0) dX8_copyAll_0 (by decide) ?_
  refine z_istore_n (i := 2) [_, _, _] dX8_copyAll_1 rfl (by decide) rfl rfl ?_
  have := loop 373 0 (c b) (by omega) (by omega) (fun k hk => absurd hk (by omega)); rw [zup_id] at this; exact this
end M1
end
section
theorem zz_end : True := trivial
end
