section
-- ===== PART A: goes FIRST, ahead of the names: the tables' words, and 'selects' of the private methods out of them =====
/-- a private method of a class that the tables say can be made, by its rows of tables_1 -/
def lw_okq (q : MethodName × Nat) : Prop := (q.1.cls ≠ "java/lang/invoke/MethodHandle" ∧ q.1.cls ≠ "java/lang/invoke/VarHandle") ∧ Cond.instantiable q.1.cls q.2 ∈ tables_1 ∧ Cond.privateMethod q.1 ∈ tables_1 ∧ Cond.instanceMethod q.1 ∈ tables_1
theorem lw_p0 : lw_okq (⟨"JinjaTongue$Text", "spell", "(Ljava/lang/String;I)V"⟩, 15) := ⟨⟨by decide +kernel, by decide +kernel⟩, List.mem_of_getElem? (i := 45) (by decide +kernel), List.mem_of_getElem? (i := 64) (by decide +kernel), List.mem_of_getElem? (i := 65) (by decide +kernel)⟩
theorem lw_p1 : lw_okq (⟨"JinjaTongue", "append", "(I)V"⟩, 8) := ⟨⟨by decide +kernel, by decide +kernel⟩, List.mem_of_getElem? (i := 37) (by decide +kernel), List.mem_of_getElem? (i := 396) (by decide +kernel), List.mem_of_getElem? (i := 397) (by decide +kernel)⟩
theorem lw_p2 : lw_okq (⟨"JinjaTongue$Text", "learnBuiltIn", "()V"⟩, 15) := ⟨⟨by decide +kernel, by decide +kernel⟩, List.mem_of_getElem? (i := 45) (by decide +kernel), List.mem_of_getElem? (i := 422) (by decide +kernel), List.mem_of_getElem? (i := 423) (by decide +kernel)⟩
theorem lw_p3 : lw_okq (⟨"JinjaTongue$Text", "nameOf", "(II)I"⟩, 15) := ⟨⟨by decide +kernel, by decide +kernel⟩, List.mem_of_getElem? (i := 45) (by decide +kernel), List.mem_of_getElem? (i := 429) (by decide +kernel), List.mem_of_getElem? (i := 430) (by decide +kernel)⟩
theorem lw_p4 : lw_okq (⟨"JinjaTongue$Text", "isSpelledAlike", "(III)Z"⟩, 15) := ⟨⟨by decide +kernel, by decide +kernel⟩, List.mem_of_getElem? (i := 45) (by decide +kernel), List.mem_of_getElem? (i := 433) (by decide +kernel), List.mem_of_getElem? (i := 434) (by decide +kernel)⟩
theorem lw_p5 : lw_okq (⟨"JinjaTongue$Text", "pastBlanks", "(I)I"⟩, 15) := ⟨⟨by decide +kernel, by decide +kernel⟩, List.mem_of_getElem? (i := 45) (by decide +kernel), List.mem_of_getElem? (i := 437) (by decide +kernel), List.mem_of_getElem? (i := 438) (by decide +kernel)⟩
theorem lw_p6 : lw_okq (⟨"JinjaTongue$Text", "byteAt", "(I)I"⟩, 15) := ⟨⟨by decide +kernel, by decide +kernel⟩, List.mem_of_getElem? (i := 45) (by decide +kernel), List.mem_of_getElem? (i := 441) (by decide +kernel), List.mem_of_getElem? (i := 442) (by decide +kernel)⟩
theorem lw_p7 : lw_okq (⟨"JinjaTongue$Text", "addToken", "(I)I"⟩, 15) := ⟨⟨by decide +kernel, by decide +kernel⟩, List.mem_of_getElem? (i := 45) (by decide +kernel), List.mem_of_getElem? (i := 445) (by decide +kernel), List.mem_of_getElem? (i := 446) (by decide +kernel)⟩
theorem lw_p8 : lw_okq (⟨"JinjaTongue$Text", "addSign", "(I)I"⟩, 15) := ⟨⟨by decide +kernel, by decide +kernel⟩, List.mem_of_getElem? (i := 45) (by decide +kernel), List.mem_of_getElem? (i := 455) (by decide +kernel), List.mem_of_getElem? (i := 456) (by decide +kernel)⟩
theorem lw_p9 : lw_okq (⟨"JinjaTongue$Text", "add", "(IIII)I"⟩, 15) := ⟨⟨by decide +kernel, by decide +kernel⟩, List.mem_of_getElem? (i := 45) (by decide +kernel), List.mem_of_getElem? (i := 459) (by decide +kernel), List.mem_of_getElem? (i := 460) (by decide +kernel)⟩
theorem lw_p10 : lw_okq (⟨"JinjaTongue$Text", "addNumber", "(II)I"⟩, 15) := ⟨⟨by decide +kernel, by decide +kernel⟩, List.mem_of_getElem? (i := 45) (by decide +kernel), List.mem_of_getElem? (i := 465) (by decide +kernel), List.mem_of_getElem? (i := 466) (by decide +kernel)⟩
theorem lw_p11 : lw_okq (⟨"JinjaTongue$Parser", "declaration", "()LJinjaTongue$Decl;"⟩, 5) := ⟨⟨by decide +kernel, by decide +kernel⟩, List.mem_of_getElem? (i := 209) (by decide +kernel), List.mem_of_getElem? (i := 612) (by decide +kernel), List.mem_of_getElem? (i := 613) (by decide +kernel)⟩
theorem lw_p12 : lw_okq (⟨"JinjaTongue$Parser", "sees", "(I)Z"⟩, 5) := ⟨⟨by decide +kernel, by decide +kernel⟩, List.mem_of_getElem? (i := 209) (by decide +kernel), List.mem_of_getElem? (i := 616) (by decide +kernel), List.mem_of_getElem? (i := 617) (by decide +kernel)⟩
theorem lw_p13 : lw_okq (⟨"JinjaTongue$Parser", "refuse", "()V"⟩, 5) := ⟨⟨by decide +kernel, by decide +kernel⟩, List.mem_of_getElem? (i := 209) (by decide +kernel), List.mem_of_getElem? (i := 624) (by decide +kernel), List.mem_of_getElem? (i := 625) (by decide +kernel)⟩
theorem lw_p14 : lw_okq (⟨"java/lang/Throwable", "fillInStackTrace", "(I)Ljava/lang/Throwable;"⟩, 6) := ⟨⟨by decide +kernel, by decide +kernel⟩, List.mem_of_getElem? (i := 669) (by decide +kernel), List.mem_of_getElem? (i := 667) (by decide +kernel), List.mem_of_getElem? (i := 668) (by decide +kernel)⟩
theorem lw_p15 : lw_okq (⟨"JinjaTongue$Parser", "take", "(I)I"⟩, 5) := ⟨⟨by decide +kernel, by decide +kernel⟩, List.mem_of_getElem? (i := 209) (by decide +kernel), List.mem_of_getElem? (i := 702) (by decide +kernel), List.mem_of_getElem? (i := 703) (by decide +kernel)⟩
def lw_privs_1 : List (MethodName × Nat) := [(⟨"JinjaTongue$Text", "spell", "(Ljava/lang/String;I)V"⟩, 15), (⟨"JinjaTongue", "append", "(I)V"⟩, 8), (⟨"JinjaTongue$Text", "learnBuiltIn", "()V"⟩, 15), (⟨"JinjaTongue$Text", "nameOf", "(II)I"⟩, 15), (⟨"JinjaTongue$Text", "isSpelledAlike", "(III)Z"⟩, 15), (⟨"JinjaTongue$Text", "pastBlanks", "(I)I"⟩, 15), (⟨"JinjaTongue$Text", "byteAt", "(I)I"⟩, 15), (⟨"JinjaTongue$Text", "addToken", "(I)I"⟩, 15), (⟨"JinjaTongue$Text", "addSign", "(I)I"⟩, 15), (⟨"JinjaTongue$Text", "add", "(IIII)I"⟩, 15), (⟨"JinjaTongue$Text", "addNumber", "(II)I"⟩, 15), (⟨"JinjaTongue$Parser", "declaration", "()LJinjaTongue$Decl;"⟩, 5), (⟨"JinjaTongue$Parser", "sees", "(I)Z"⟩, 5), (⟨"JinjaTongue$Parser", "refuse", "()V"⟩, 5), (⟨"java/lang/Throwable", "fillInStackTrace", "(I)Ljava/lang/Throwable;"⟩, 6), (⟨"JinjaTongue$Parser", "take", "(I)I"⟩, 5)]
theorem lw_r1 : ∀ q ∈ lw_privs_1, lw_okq q := List.forall_mem_cons.mpr ⟨lw_p0, List.forall_mem_cons.mpr ⟨lw_p1, List.forall_mem_cons.mpr ⟨lw_p2, List.forall_mem_cons.mpr ⟨lw_p3, List.forall_mem_cons.mpr ⟨lw_p4, List.forall_mem_cons.mpr ⟨lw_p5, List.forall_mem_cons.mpr ⟨lw_p6, List.forall_mem_cons.mpr ⟨lw_p7, List.forall_mem_cons.mpr ⟨lw_p8, List.forall_mem_cons.mpr ⟨lw_p9, List.forall_mem_cons.mpr ⟨lw_p10, List.forall_mem_cons.mpr ⟨lw_p11, List.forall_mem_cons.mpr ⟨lw_p12, List.forall_mem_cons.mpr ⟨lw_p13, List.forall_mem_cons.mpr ⟨lw_p14, List.forall_mem_cons.mpr ⟨lw_p15, fun _ h => absurd h List.not_mem_nil⟩⟩⟩⟩⟩⟩⟩⟩⟩⟩⟩⟩⟩⟩⟩⟩
theorem lw_p16 : lw_okq (⟨"JinjaTongue$Parser", "takeIf", "(I)Z"⟩, 5) := ⟨⟨by decide +kernel, by decide +kernel⟩, List.mem_of_getElem? (i := 209) (by decide +kernel), List.mem_of_getElem? (i := 714) (by decide +kernel), List.mem_of_getElem? (i := 715) (by decide +kernel)⟩
theorem lw_p17 : lw_okq (⟨"JinjaTongue$Parser", "listInterfaces", "(LJinjaTongue$Decl;)V"⟩, 5) := ⟨⟨by decide +kernel, by decide +kernel⟩, List.mem_of_getElem? (i := 209) (by decide +kernel), List.mem_of_getElem? (i := 718) (by decide +kernel), List.mem_of_getElem? (i := 719) (by decide +kernel)⟩
theorem lw_p18 : lw_okq (⟨"JinjaTongue$Parser", "told", "(LJinjaTongue$Decl;)V"⟩, 5) := ⟨⟨by decide +kernel, by decide +kernel⟩, List.mem_of_getElem? (i := 209) (by decide +kernel), List.mem_of_getElem? (i := 722) (by decide +kernel), List.mem_of_getElem? (i := 723) (by decide +kernel)⟩
theorem lw_p19 : lw_okq (⟨"JinjaTongue$Parser", "takeResult", "()I"⟩, 5) := ⟨⟨by decide +kernel, by decide +kernel⟩, List.mem_of_getElem? (i := 209) (by decide +kernel), List.mem_of_getElem? (i := 726) (by decide +kernel), List.mem_of_getElem? (i := 727) (by decide +kernel)⟩
theorem lw_p20 : lw_okq (⟨"JinjaTongue$Parser", "takeType", "(Z)I"⟩, 5) := ⟨⟨by decide +kernel, by decide +kernel⟩, List.mem_of_getElem? (i := 209) (by decide +kernel), List.mem_of_getElem? (i := 730) (by decide +kernel), List.mem_of_getElem? (i := 731) (by decide +kernel)⟩
theorem lw_p21 : lw_okq (⟨"JinjaTongue$Parser", "head", "(LJinjaTongue$Decl;II)LJinjaTongue$Method;"⟩, 5) := ⟨⟨by decide +kernel, by decide +kernel⟩, List.mem_of_getElem? (i := 209) (by decide +kernel), List.mem_of_getElem? (i := 738) (by decide +kernel), List.mem_of_getElem? (i := 739) (by decide +kernel)⟩
theorem lw_p22 : lw_okq (⟨"java/util/ArrayList", "add", "(Ljava/lang/Object;[Ljava/lang/Object;I)V"⟩, 3) := ⟨⟨by decide +kernel, by decide +kernel⟩, List.mem_of_getElem? (i := 485) (by decide +kernel), List.mem_of_getElem? (i := 816) (by decide +kernel), List.mem_of_getElem? (i := 817) (by decide +kernel)⟩
theorem lw_p23 : lw_okq (⟨"java/util/ArrayList", "grow", "()[Ljava/lang/Object;"⟩, 3) := ⟨⟨by decide +kernel, by decide +kernel⟩, List.mem_of_getElem? (i := 485) (by decide +kernel), List.mem_of_getElem? (i := 820) (by decide +kernel), List.mem_of_getElem? (i := 821) (by decide +kernel)⟩
theorem lw_p24 : lw_okq (⟨"java/util/ArrayList", "grow", "(I)[Ljava/lang/Object;"⟩, 3) := ⟨⟨by decide +kernel, by decide +kernel⟩, List.mem_of_getElem? (i := 485) (by decide +kernel), List.mem_of_getElem? (i := 824) (by decide +kernel), List.mem_of_getElem? (i := 825) (by decide +kernel)⟩
theorem lw_p25 : lw_okq (⟨"JinjaTongue$Parser", "variable", "(II)LJinjaTongue$Node;"⟩, 5) := ⟨⟨by decide +kernel, by decide +kernel⟩, List.mem_of_getElem? (i := 209) (by decide +kernel), List.mem_of_getElem? (i := 871) (by decide +kernel), List.mem_of_getElem? (i := 872) (by decide +kernel)⟩
theorem lw_p26 : lw_okq (⟨"JinjaTongue$Parser", "member", "(LJinjaTongue$Decl;)V"⟩, 5) := ⟨⟨by decide +kernel, by decide +kernel⟩, List.mem_of_getElem? (i := 209) (by decide +kernel), List.mem_of_getElem? (i := 931) (by decide +kernel), List.mem_of_getElem? (i := 932) (by decide +kernel)⟩
theorem lw_p27 : lw_okq (⟨"JinjaTongue$Parser", "block", "()LJinjaTongue$Node;"⟩, 5) := ⟨⟨by decide +kernel, by decide +kernel⟩, List.mem_of_getElem? (i := 209) (by decide +kernel), List.mem_of_getElem? (i := 935) (by decide +kernel), List.mem_of_getElem? (i := 936) (by decide +kernel)⟩
theorem lw_p28 : lw_okq (⟨"JinjaTongue$Parser", "statement", "(Z)LJinjaTongue$Node;"⟩, 5) := ⟨⟨by decide +kernel, by decide +kernel⟩, List.mem_of_getElem? (i := 209) (by decide +kernel), List.mem_of_getElem? (i := 939) (by decide +kernel), List.mem_of_getElem? (i := 940) (by decide +kernel)⟩
theorem lw_p29 : lw_okq (⟨"JinjaTongue$Parser", "beginsLocal", "()Z"⟩, 5) := ⟨⟨by decide +kernel, by decide +kernel⟩, List.mem_of_getElem? (i := 209) (by decide +kernel), List.mem_of_getElem? (i := 943) (by decide +kernel), List.mem_of_getElem? (i := 944) (by decide +kernel)⟩
theorem lw_p30 : lw_okq (⟨"JinjaTongue$Parser", "beginsStatement", "()Z"⟩, 5) := ⟨⟨by decide +kernel, by decide +kernel⟩, List.mem_of_getElem? (i := 209) (by decide +kernel), List.mem_of_getElem? (i := 947) (by decide +kernel), List.mem_of_getElem? (i := 948) (by decide +kernel)⟩
theorem lw_p31 : lw_okq (⟨"JinjaTongue$Parser", "beginsChain", "()Z"⟩, 5) := ⟨⟨by decide +kernel, by decide +kernel⟩, List.mem_of_getElem? (i := 209) (by decide +kernel), List.mem_of_getElem? (i := 951) (by decide +kernel), List.mem_of_getElem? (i := 952) (by decide +kernel)⟩
def lw_privs_2 : List (MethodName × Nat) := [(⟨"JinjaTongue$Parser", "takeIf", "(I)Z"⟩, 5), (⟨"JinjaTongue$Parser", "listInterfaces", "(LJinjaTongue$Decl;)V"⟩, 5), (⟨"JinjaTongue$Parser", "told", "(LJinjaTongue$Decl;)V"⟩, 5), (⟨"JinjaTongue$Parser", "takeResult", "()I"⟩, 5), (⟨"JinjaTongue$Parser", "takeType", "(Z)I"⟩, 5), (⟨"JinjaTongue$Parser", "head", "(LJinjaTongue$Decl;II)LJinjaTongue$Method;"⟩, 5), (⟨"java/util/ArrayList", "add", "(Ljava/lang/Object;[Ljava/lang/Object;I)V"⟩, 3), (⟨"java/util/ArrayList", "grow", "()[Ljava/lang/Object;"⟩, 3), (⟨"java/util/ArrayList", "grow", "(I)[Ljava/lang/Object;"⟩, 3), (⟨"JinjaTongue$Parser", "variable", "(II)LJinjaTongue$Node;"⟩, 5), (⟨"JinjaTongue$Parser", "member", "(LJinjaTongue$Decl;)V"⟩, 5), (⟨"JinjaTongue$Parser", "block", "()LJinjaTongue$Node;"⟩, 5), (⟨"JinjaTongue$Parser", "statement", "(Z)LJinjaTongue$Node;"⟩, 5), (⟨"JinjaTongue$Parser", "beginsLocal", "()Z"⟩, 5), (⟨"JinjaTongue$Parser", "beginsStatement", "()Z"⟩, 5), (⟨"JinjaTongue$Parser", "beginsChain", "()Z"⟩, 5)]
theorem lw_r2 : ∀ q ∈ lw_privs_2, lw_okq q := List.forall_mem_cons.mpr ⟨lw_p16, List.forall_mem_cons.mpr ⟨lw_p17, List.forall_mem_cons.mpr ⟨lw_p18, List.forall_mem_cons.mpr ⟨lw_p19, List.forall_mem_cons.mpr ⟨lw_p20, List.forall_mem_cons.mpr ⟨lw_p21, List.forall_mem_cons.mpr ⟨lw_p22, List.forall_mem_cons.mpr ⟨lw_p23, List.forall_mem_cons.mpr ⟨lw_p24, List.forall_mem_cons.mpr ⟨lw_p25, List.forall_mem_cons.mpr ⟨lw_p26, List.forall_mem_cons.mpr ⟨lw_p27, List.forall_mem_cons.mpr ⟨lw_p28, List.forall_mem_cons.mpr ⟨lw_p29, List.forall_mem_cons.mpr ⟨lw_p30, List.forall_mem_cons.mpr ⟨lw_p31, fun _ h => absurd h List.not_mem_nil⟩⟩⟩⟩⟩⟩⟩⟩⟩⟩⟩⟩⟩⟩⟩⟩
theorem lw_p32 : lw_okq (⟨"JinjaTongue$Parser", "enter", "()V"⟩, 5) := ⟨⟨by decide +kernel, by decide +kernel⟩, List.mem_of_getElem? (i := 209) (by decide +kernel), List.mem_of_getElem? (i := 955) (by decide +kernel), List.mem_of_getElem? (i := 956) (by decide +kernel)⟩
theorem lw_p33 : lw_okq (⟨"JinjaTongue$Parser", "local", "(Z)LJinjaTongue$Node;"⟩, 5) := ⟨⟨by decide +kernel, by decide +kernel⟩, List.mem_of_getElem? (i := 209) (by decide +kernel), List.mem_of_getElem? (i := 959) (by decide +kernel), List.mem_of_getElem? (i := 960) (by decide +kernel)⟩
theorem lw_p34 : lw_okq (⟨"JinjaTongue$Parser", "expression", "()LJinjaTongue$Node;"⟩, 5) := ⟨⟨by decide +kernel, by decide +kernel⟩, List.mem_of_getElem? (i := 209) (by decide +kernel), List.mem_of_getElem? (i := 963) (by decide +kernel), List.mem_of_getElem? (i := 964) (by decide +kernel)⟩
theorem lw_p35 : lw_okq (⟨"JinjaTongue$Parser", "signed", "(I)LJinjaTongue$Node;"⟩, 5) := ⟨⟨by decide +kernel, by decide +kernel⟩, List.mem_of_getElem? (i := 209) (by decide +kernel), List.mem_of_getElem? (i := 967) (by decide +kernel), List.mem_of_getElem? (i := 968) (by decide +kernel)⟩
theorem lw_p36 : lw_okq (⟨"JinjaTongue$Parser", "prefixed", "()LJinjaTongue$Node;"⟩, 5) := ⟨⟨by decide +kernel, by decide +kernel⟩, List.mem_of_getElem? (i := 209) (by decide +kernel), List.mem_of_getElem? (i := 971) (by decide +kernel), List.mem_of_getElem? (i := 972) (by decide +kernel)⟩
theorem lw_p37 : lw_okq (⟨"JinjaTongue$Parser", "chain", "()LJinjaTongue$Node;"⟩, 5) := ⟨⟨by decide +kernel, by decide +kernel⟩, List.mem_of_getElem? (i := 209) (by decide +kernel), List.mem_of_getElem? (i := 975) (by decide +kernel), List.mem_of_getElem? (i := 976) (by decide +kernel)⟩
theorem lw_p38 : lw_okq (⟨"JinjaTongue$Parser", "operand", "()LJinjaTongue$Node;"⟩, 5) := ⟨⟨by decide +kernel, by decide +kernel⟩, List.mem_of_getElem? (i := 209) (by decide +kernel), List.mem_of_getElem? (i := 979) (by decide +kernel), List.mem_of_getElem? (i := 980) (by decide +kernel)⟩
theorem lw_p39 : lw_okq (⟨"JinjaTongue$Parser", "leaf", "(I)LJinjaTongue$Node;"⟩, 5) := ⟨⟨by decide +kernel, by decide +kernel⟩, List.mem_of_getElem? (i := 209) (by decide +kernel), List.mem_of_getElem? (i := 983) (by decide +kernel), List.mem_of_getElem? (i := 984) (by decide +kernel)⟩
theorem lw_p40 : lw_okq (⟨"JinjaTongue$Parser", "named", "()LJinjaTongue$Node;"⟩, 5) := ⟨⟨by decide +kernel, by decide +kernel⟩, List.mem_of_getElem? (i := 209) (by decide +kernel), List.mem_of_getElem? (i := 987) (by decide +kernel), List.mem_of_getElem? (i := 988) (by decide +kernel)⟩
theorem lw_p41 : lw_okq (⟨"JinjaTongue$Parser", "arguments", "(LJinjaTongue$Node;)V"⟩, 5) := ⟨⟨by decide +kernel, by decide +kernel⟩, List.mem_of_getElem? (i := 209) (by decide +kernel), List.mem_of_getElem? (i := 991) (by decide +kernel), List.mem_of_getElem? (i := 992) (by decide +kernel)⟩
theorem lw_p42 : lw_okq (⟨"JinjaTongue$Parser", "openBracket", "(I)V"⟩, 5) := ⟨⟨by decide +kernel, by decide +kernel⟩, List.mem_of_getElem? (i := 209) (by decide +kernel), List.mem_of_getElem? (i := 995) (by decide +kernel), List.mem_of_getElem? (i := 996) (by decide +kernel)⟩
theorem lw_p43 : lw_okq (⟨"JinjaTongue$Parser", "closeBracket", "(I)I"⟩, 5) := ⟨⟨by decide +kernel, by decide +kernel⟩, List.mem_of_getElem? (i := 209) (by decide +kernel), List.mem_of_getElem? (i := 999) (by decide +kernel), List.mem_of_getElem? (i := 1000) (by decide +kernel)⟩
theorem lw_p44 : lw_okq (⟨"JinjaTongue$Parser", "superCall", "()LJinjaTongue$Node;"⟩, 5) := ⟨⟨by decide +kernel, by decide +kernel⟩, List.mem_of_getElem? (i := 209) (by decide +kernel), List.mem_of_getElem? (i := 1003) (by decide +kernel), List.mem_of_getElem? (i := 1004) (by decide +kernel)⟩
theorem lw_p45 : lw_okq (⟨"JinjaTongue$Parser", "made", "()LJinjaTongue$Node;"⟩, 5) := ⟨⟨by decide +kernel, by decide +kernel⟩, List.mem_of_getElem? (i := 209) (by decide +kernel), List.mem_of_getElem? (i := 1007) (by decide +kernel), List.mem_of_getElem? (i := 1008) (by decide +kernel)⟩
theorem lw_p46 : lw_okq (⟨"JinjaTongue$Parser", "bracketed", "(II)LJinjaTongue$Node;"⟩, 5) := ⟨⟨by decide +kernel, by decide +kernel⟩, List.mem_of_getElem? (i := 209) (by decide +kernel), List.mem_of_getElem? (i := 1011) (by decide +kernel), List.mem_of_getElem? (i := 1012) (by decide +kernel)⟩
theorem lw_p47 : lw_okq (⟨"JinjaTongue$Parser", "countSign", "()V"⟩, 5) := ⟨⟨by decide +kernel, by decide +kernel⟩, List.mem_of_getElem? (i := 209) (by decide +kernel), List.mem_of_getElem? (i := 1015) (by decide +kernel), List.mem_of_getElem? (i := 1016) (by decide +kernel)⟩
def lw_privs_3 : List (MethodName × Nat) := [(⟨"JinjaTongue$Parser", "enter", "()V"⟩, 5), (⟨"JinjaTongue$Parser", "local", "(Z)LJinjaTongue$Node;"⟩, 5), (⟨"JinjaTongue$Parser", "expression", "()LJinjaTongue$Node;"⟩, 5), (⟨"JinjaTongue$Parser", "signed", "(I)LJinjaTongue$Node;"⟩, 5), (⟨"JinjaTongue$Parser", "prefixed", "()LJinjaTongue$Node;"⟩, 5), (⟨"JinjaTongue$Parser", "chain", "()LJinjaTongue$Node;"⟩, 5), (⟨"JinjaTongue$Parser", "operand", "()LJinjaTongue$Node;"⟩, 5), (⟨"JinjaTongue$Parser", "leaf", "(I)LJinjaTongue$Node;"⟩, 5), (⟨"JinjaTongue$Parser", "named", "()LJinjaTongue$Node;"⟩, 5), (⟨"JinjaTongue$Parser", "arguments", "(LJinjaTongue$Node;)V"⟩, 5), (⟨"JinjaTongue$Parser", "openBracket", "(I)V"⟩, 5), (⟨"JinjaTongue$Parser", "closeBracket", "(I)I"⟩, 5), (⟨"JinjaTongue$Parser", "superCall", "()LJinjaTongue$Node;"⟩, 5), (⟨"JinjaTongue$Parser", "made", "()LJinjaTongue$Node;"⟩, 5), (⟨"JinjaTongue$Parser", "bracketed", "(II)LJinjaTongue$Node;"⟩, 5), (⟨"JinjaTongue$Parser", "countSign", "()V"⟩, 5)]
theorem lw_r3 : ∀ q ∈ lw_privs_3, lw_okq q := List.forall_mem_cons.mpr ⟨lw_p32, List.forall_mem_cons.mpr ⟨lw_p33, List.forall_mem_cons.mpr ⟨lw_p34, List.forall_mem_cons.mpr ⟨lw_p35, List.forall_mem_cons.mpr ⟨lw_p36, List.forall_mem_cons.mpr ⟨lw_p37, List.forall_mem_cons.mpr ⟨lw_p38, List.forall_mem_cons.mpr ⟨lw_p39, List.forall_mem_cons.mpr ⟨lw_p40, List.forall_mem_cons.mpr ⟨lw_p41, List.forall_mem_cons.mpr ⟨lw_p42, List.forall_mem_cons.mpr ⟨lw_p43, List.forall_mem_cons.mpr ⟨lw_p44, List.forall_mem_cons.mpr ⟨lw_p45, List.forall_mem_cons.mpr ⟨lw_p46, List.forall_mem_cons.mpr ⟨lw_p47, fun _ h => absurd h List.not_mem_nil⟩⟩⟩⟩⟩⟩⟩⟩⟩⟩⟩⟩⟩⟩⟩⟩
theorem lw_p48 : lw_okq (⟨"JinjaTongue$Parser", "dotted", "(LJinjaTongue$Node;)LJinjaTongue$Node;"⟩, 5) := ⟨⟨by decide +kernel, by decide +kernel⟩, List.mem_of_getElem? (i := 209) (by decide +kernel), List.mem_of_getElem? (i := 1019) (by decide +kernel), List.mem_of_getElem? (i := 1020) (by decide +kernel)⟩
theorem lw_p49 : lw_okq (⟨"JinjaTongue$Parser", "indexed", "(LJinjaTongue$Node;)LJinjaTongue$Node;"⟩, 5) := ⟨⟨by decide +kernel, by decide +kernel⟩, List.mem_of_getElem? (i := 209) (by decide +kernel), List.mem_of_getElem? (i := 1023) (by decide +kernel), List.mem_of_getElem? (i := 1024) (by decide +kernel)⟩
theorem lw_p50 : lw_okq (⟨"JinjaTongue$Parser", "leave", "()V"⟩, 5) := ⟨⟨by decide +kernel, by decide +kernel⟩, List.mem_of_getElem? (i := 209) (by decide +kernel), List.mem_of_getElem? (i := 1027) (by decide +kernel), List.mem_of_getElem? (i := 1028) (by decide +kernel)⟩
theorem lw_p51 : lw_okq (⟨"JinjaTongue$Parser", "statementBy", "(I)LJinjaTongue$Node;"⟩, 5) := ⟨⟨by decide +kernel, by decide +kernel⟩, List.mem_of_getElem? (i := 209) (by decide +kernel), List.mem_of_getElem? (i := 1037) (by decide +kernel), List.mem_of_getElem? (i := 1038) (by decide +kernel)⟩
theorem lw_p52 : lw_okq (⟨"JinjaTongue$Parser", "ifStatement", "()LJinjaTongue$Node;"⟩, 5) := ⟨⟨by decide +kernel, by decide +kernel⟩, List.mem_of_getElem? (i := 209) (by decide +kernel), List.mem_of_getElem? (i := 1041) (by decide +kernel), List.mem_of_getElem? (i := 1042) (by decide +kernel)⟩
theorem lw_p53 : lw_okq (⟨"JinjaTongue$Parser", "condition", "()LJinjaTongue$Node;"⟩, 5) := ⟨⟨by decide +kernel, by decide +kernel⟩, List.mem_of_getElem? (i := 209) (by decide +kernel), List.mem_of_getElem? (i := 1045) (by decide +kernel), List.mem_of_getElem? (i := 1046) (by decide +kernel)⟩
theorem lw_p54 : lw_okq (⟨"JinjaTongue$Parser", "whileStatement", "()LJinjaTongue$Node;"⟩, 5) := ⟨⟨by decide +kernel, by decide +kernel⟩, List.mem_of_getElem? (i := 209) (by decide +kernel), List.mem_of_getElem? (i := 1049) (by decide +kernel), List.mem_of_getElem? (i := 1050) (by decide +kernel)⟩
theorem lw_p55 : lw_okq (⟨"JinjaTongue$Parser", "forStatement", "()LJinjaTongue$Node;"⟩, 5) := ⟨⟨by decide +kernel, by decide +kernel⟩, List.mem_of_getElem? (i := 209) (by decide +kernel), List.mem_of_getElem? (i := 1053) (by decide +kernel), List.mem_of_getElem? (i := 1054) (by decide +kernel)⟩
theorem lw_p56 : lw_okq (⟨"JinjaTongue$Parser", "simple", "(Z)LJinjaTongue$Node;"⟩, 5) := ⟨⟨by decide +kernel, by decide +kernel⟩, List.mem_of_getElem? (i := 209) (by decide +kernel), List.mem_of_getElem? (i := 1057) (by decide +kernel), List.mem_of_getElem? (i := 1058) (by decide +kernel)⟩
theorem lw_p57 : lw_okq (⟨"JinjaTongue$Parser", "tryStatement", "()LJinjaTongue$Node;"⟩, 5) := ⟨⟨by decide +kernel, by decide +kernel⟩, List.mem_of_getElem? (i := 209) (by decide +kernel), List.mem_of_getElem? (i := 1069) (by decide +kernel), List.mem_of_getElem? (i := 1070) (by decide +kernel)⟩
theorem lw_p58 : lw_okq (⟨"JinjaTongue$Parser", "catchBlock", "()LJinjaTongue$Node;"⟩, 5) := ⟨⟨by decide +kernel, by decide +kernel⟩, List.mem_of_getElem? (i := 209) (by decide +kernel), List.mem_of_getElem? (i := 1073) (by decide +kernel), List.mem_of_getElem? (i := 1074) (by decide +kernel)⟩
theorem lw_p59 : lw_okq (⟨"JinjaTongue$Parser", "printStatement", "()LJinjaTongue$Node;"⟩, 5) := ⟨⟨by decide +kernel, by decide +kernel⟩, List.mem_of_getElem? (i := 209) (by decide +kernel), List.mem_of_getElem? (i := 1077) (by decide +kernel), List.mem_of_getElem? (i := 1078) (by decide +kernel)⟩
theorem lw_p60 : lw_okq (⟨"JinjaTongue$Parser", "wordStatement", "(IZ)LJinjaTongue$Node;"⟩, 5) := ⟨⟨by decide +kernel, by decide +kernel⟩, List.mem_of_getElem? (i := 209) (by decide +kernel), List.mem_of_getElem? (i := 1081) (by decide +kernel), List.mem_of_getElem? (i := 1082) (by decide +kernel)⟩
theorem lw_p61 : lw_okq (⟨"JinjaTongue$Parser", "addField", "(LJinjaTongue$Decl;II)V"⟩, 5) := ⟨⟨by decide +kernel, by decide +kernel⟩, List.mem_of_getElem? (i := 209) (by decide +kernel), List.mem_of_getElem? (i := 1085) (by decide +kernel), List.mem_of_getElem? (i := 1086) (by decide +kernel)⟩
theorem lw_p62 : lw_okq (⟨"JinjaTongue$Program", "firstRound", "()V"⟩, 5) := ⟨⟨by decide +kernel, by decide +kernel⟩, List.mem_of_getElem? (i := 477) (by decide +kernel), List.mem_of_getElem? (i := 1093) (by decide +kernel), List.mem_of_getElem? (i := 1094) (by decide +kernel)⟩
theorem lw_p63 : lw_okq (⟨"JinjaTongue$Program", "report", "(II)V"⟩, 5) := ⟨⟨by decide +kernel, by decide +kernel⟩, List.mem_of_getElem? (i := 477) (by decide +kernel), List.mem_of_getElem? (i := 1101) (by decide +kernel), List.mem_of_getElem? (i := 1102) (by decide +kernel)⟩
def lw_privs_4 : List (MethodName × Nat) := [(⟨"JinjaTongue$Parser", "dotted", "(LJinjaTongue$Node;)LJinjaTongue$Node;"⟩, 5), (⟨"JinjaTongue$Parser", "indexed", "(LJinjaTongue$Node;)LJinjaTongue$Node;"⟩, 5), (⟨"JinjaTongue$Parser", "leave", "()V"⟩, 5), (⟨"JinjaTongue$Parser", "statementBy", "(I)LJinjaTongue$Node;"⟩, 5), (⟨"JinjaTongue$Parser", "ifStatement", "()LJinjaTongue$Node;"⟩, 5), (⟨"JinjaTongue$Parser", "condition", "()LJinjaTongue$Node;"⟩, 5), (⟨"JinjaTongue$Parser", "whileStatement", "()LJinjaTongue$Node;"⟩, 5), (⟨"JinjaTongue$Parser", "forStatement", "()LJinjaTongue$Node;"⟩, 5), (⟨"JinjaTongue$Parser", "simple", "(Z)LJinjaTongue$Node;"⟩, 5), (⟨"JinjaTongue$Parser", "tryStatement", "()LJinjaTongue$Node;"⟩, 5), (⟨"JinjaTongue$Parser", "catchBlock", "()LJinjaTongue$Node;"⟩, 5), (⟨"JinjaTongue$Parser", "printStatement", "()LJinjaTongue$Node;"⟩, 5), (⟨"JinjaTongue$Parser", "wordStatement", "(IZ)LJinjaTongue$Node;"⟩, 5), (⟨"JinjaTongue$Parser", "addField", "(LJinjaTongue$Decl;II)V"⟩, 5), (⟨"JinjaTongue$Program", "firstRound", "()V"⟩, 5), (⟨"JinjaTongue$Program", "report", "(II)V"⟩, 5)]
theorem lw_r4 : ∀ q ∈ lw_privs_4, lw_okq q := List.forall_mem_cons.mpr ⟨lw_p48, List.forall_mem_cons.mpr ⟨lw_p49, List.forall_mem_cons.mpr ⟨lw_p50, List.forall_mem_cons.mpr ⟨lw_p51, List.forall_mem_cons.mpr ⟨lw_p52, List.forall_mem_cons.mpr ⟨lw_p53, List.forall_mem_cons.mpr ⟨lw_p54, List.forall_mem_cons.mpr ⟨lw_p55, List.forall_mem_cons.mpr ⟨lw_p56, List.forall_mem_cons.mpr ⟨lw_p57, List.forall_mem_cons.mpr ⟨lw_p58, List.forall_mem_cons.mpr ⟨lw_p59, List.forall_mem_cons.mpr ⟨lw_p60, List.forall_mem_cons.mpr ⟨lw_p61, List.forall_mem_cons.mpr ⟨lw_p62, List.forall_mem_cons.mpr ⟨lw_p63, fun _ h => absurd h List.not_mem_nil⟩⟩⟩⟩⟩⟩⟩⟩⟩⟩⟩⟩⟩⟩⟩⟩
theorem lw_p64 : lw_okq (⟨"JinjaTongue$Program", "judgeMembers", "(LJinjaTongue$Decl;)V"⟩, 5) := ⟨⟨by decide +kernel, by decide +kernel⟩, List.mem_of_getElem? (i := 477) (by decide +kernel), List.mem_of_getElem? (i := 1110) (by decide +kernel), List.mem_of_getElem? (i := 1111) (by decide +kernel)⟩
theorem lw_p65 : lw_okq (⟨"JinjaTongue$Program", "judgeHead", "(LJinjaTongue$Decl;)V"⟩, 5) := ⟨⟨by decide +kernel, by decide +kernel⟩, List.mem_of_getElem? (i := 477) (by decide +kernel), List.mem_of_getElem? (i := 1136) (by decide +kernel), List.mem_of_getElem? (i := 1137) (by decide +kernel)⟩
theorem lw_p66 : lw_okq (⟨"JinjaTongue$Program", "judgeAboveName", "(IZ)V"⟩, 5) := ⟨⟨by decide +kernel, by decide +kernel⟩, List.mem_of_getElem? (i := 477) (by decide +kernel), List.mem_of_getElem? (i := 1140) (by decide +kernel), List.mem_of_getElem? (i := 1141) (by decide +kernel)⟩
theorem lw_p67 : lw_okq (⟨"JinjaTongue$Program", "judgeTypeName", "(IZ)V"⟩, 5) := ⟨⟨by decide +kernel, by decide +kernel⟩, List.mem_of_getElem? (i := 477) (by decide +kernel), List.mem_of_getElem? (i := 1152) (by decide +kernel), List.mem_of_getElem? (i := 1153) (by decide +kernel)⟩
theorem lw_p68 : lw_okq (⟨"JinjaTongue$Program", "settle", "()V"⟩, 5) := ⟨⟨by decide +kernel, by decide +kernel⟩, List.mem_of_getElem? (i := 477) (by decide +kernel), List.mem_of_getElem? (i := 1156) (by decide +kernel), List.mem_of_getElem? (i := 1157) (by decide +kernel)⟩
theorem lw_p69 : lw_okq (⟨"JinjaTongue$Program", "resolveTypes", "()V"⟩, 5) := ⟨⟨by decide +kernel, by decide +kernel⟩, List.mem_of_getElem? (i := 477) (by decide +kernel), List.mem_of_getElem? (i := 1163) (by decide +kernel), List.mem_of_getElem? (i := 1164) (by decide +kernel)⟩
theorem lw_p70 : lw_okq (⟨"JinjaTongue$Program", "link", "()V"⟩, 5) := ⟨⟨by decide +kernel, by decide +kernel⟩, List.mem_of_getElem? (i := 477) (by decide +kernel), List.mem_of_getElem? (i := 1172) (by decide +kernel), List.mem_of_getElem? (i := 1173) (by decide +kernel)⟩
theorem lw_p71 : lw_okq (⟨"JinjaTongue$Program", "thirdRound", "()V"⟩, 5) := ⟨⟨by decide +kernel, by decide +kernel⟩, List.mem_of_getElem? (i := 477) (by decide +kernel), List.mem_of_getElem? (i := 1180) (by decide +kernel), List.mem_of_getElem? (i := 1181) (by decide +kernel)⟩
theorem lw_p72 : lw_okq (⟨"JinjaTongue$Program", "judgeFields", "(LJinjaTongue$Decl;LJinjaTongue$Decl;)V"⟩, 5) := ⟨⟨by decide +kernel, by decide +kernel⟩, List.mem_of_getElem? (i := 477) (by decide +kernel), List.mem_of_getElem? (i := 1184) (by decide +kernel), List.mem_of_getElem? (i := 1185) (by decide +kernel)⟩
theorem lw_p73 : lw_okq (⟨"JinjaTongue$Program", "judgeMethods", "(LJinjaTongue$Decl;LJinjaTongue$Decl;)V"⟩, 5) := ⟨⟨by decide +kernel, by decide +kernel⟩, List.mem_of_getElem? (i := 477) (by decide +kernel), List.mem_of_getElem? (i := 1188) (by decide +kernel), List.mem_of_getElem? (i := 1189) (by decide +kernel)⟩
theorem lw_p74 : lw_okq (⟨"JinjaTongue$Program", "firstFromAbove", "(LJinjaTongue$Decl;I)LJinjaTongue$Method;"⟩, 5) := ⟨⟨by decide +kernel, by decide +kernel⟩, List.mem_of_getElem? (i := 477) (by decide +kernel), List.mem_of_getElem? (i := 1192) (by decide +kernel), List.mem_of_getElem? (i := 1193) (by decide +kernel)⟩
theorem lw_p75 : lw_okq (⟨"JinjaTongue$Program", "haveOneSignature", "(LJinjaTongue$Method;LJinjaTongue$Method;)Z"⟩, 5) := ⟨⟨by decide +kernel, by decide +kernel⟩, List.mem_of_getElem? (i := 477) (by decide +kernel), List.mem_of_getElem? (i := 1196) (by decide +kernel), List.mem_of_getElem? (i := 1197) (by decide +kernel)⟩
theorem lw_p76 : lw_okq (⟨"JinjaTongue$Program", "layOut", "()V"⟩, 5) := ⟨⟨by decide +kernel, by decide +kernel⟩, List.mem_of_getElem? (i := 477) (by decide +kernel), List.mem_of_getElem? (i := 1209) (by decide +kernel), List.mem_of_getElem? (i := 1210) (by decide +kernel)⟩
theorem lw_p77 : lw_okq (⟨"JinjaTongue$Program", "layFields", "(LJinjaTongue$Decl;)V"⟩, 5) := ⟨⟨by decide +kernel, by decide +kernel⟩, List.mem_of_getElem? (i := 477) (by decide +kernel), List.mem_of_getElem? (i := 1213) (by decide +kernel), List.mem_of_getElem? (i := 1214) (by decide +kernel)⟩
theorem lw_p78 : lw_okq (⟨"java/util/ArrayList", "rangeCheckForAdd", "(I)V"⟩, 3) := ⟨⟨by decide +kernel, by decide +kernel⟩, List.mem_of_getElem? (i := 485) (by decide +kernel), List.mem_of_getElem? (i := 1221) (by decide +kernel), List.mem_of_getElem? (i := 1222) (by decide +kernel)⟩
theorem lw_p79 : lw_okq (⟨"JinjaTongue$Program", "learnMethods", "(LJinjaTongue$Decl;LJinjaTongue$Decl;)V"⟩, 5) := ⟨⟨by decide +kernel, by decide +kernel⟩, List.mem_of_getElem? (i := 477) (by decide +kernel), List.mem_of_getElem? (i := 1226) (by decide +kernel), List.mem_of_getElem? (i := 1227) (by decide +kernel)⟩
def lw_privs_5 : List (MethodName × Nat) := [(⟨"JinjaTongue$Program", "judgeMembers", "(LJinjaTongue$Decl;)V"⟩, 5), (⟨"JinjaTongue$Program", "judgeHead", "(LJinjaTongue$Decl;)V"⟩, 5), (⟨"JinjaTongue$Program", "judgeAboveName", "(IZ)V"⟩, 5), (⟨"JinjaTongue$Program", "judgeTypeName", "(IZ)V"⟩, 5), (⟨"JinjaTongue$Program", "settle", "()V"⟩, 5), (⟨"JinjaTongue$Program", "resolveTypes", "()V"⟩, 5), (⟨"JinjaTongue$Program", "link", "()V"⟩, 5), (⟨"JinjaTongue$Program", "thirdRound", "()V"⟩, 5), (⟨"JinjaTongue$Program", "judgeFields", "(LJinjaTongue$Decl;LJinjaTongue$Decl;)V"⟩, 5), (⟨"JinjaTongue$Program", "judgeMethods", "(LJinjaTongue$Decl;LJinjaTongue$Decl;)V"⟩, 5), (⟨"JinjaTongue$Program", "firstFromAbove", "(LJinjaTongue$Decl;I)LJinjaTongue$Method;"⟩, 5), (⟨"JinjaTongue$Program", "haveOneSignature", "(LJinjaTongue$Method;LJinjaTongue$Method;)Z"⟩, 5), (⟨"JinjaTongue$Program", "layOut", "()V"⟩, 5), (⟨"JinjaTongue$Program", "layFields", "(LJinjaTongue$Decl;)V"⟩, 5), (⟨"java/util/ArrayList", "rangeCheckForAdd", "(I)V"⟩, 3), (⟨"JinjaTongue$Program", "learnMethods", "(LJinjaTongue$Decl;LJinjaTongue$Decl;)V"⟩, 5)]
theorem lw_r5 : ∀ q ∈ lw_privs_5, lw_okq q := List.forall_mem_cons.mpr ⟨lw_p64, List.forall_mem_cons.mpr ⟨lw_p65, List.forall_mem_cons.mpr ⟨lw_p66, List.forall_mem_cons.mpr ⟨lw_p67, List.forall_mem_cons.mpr ⟨lw_p68, List.forall_mem_cons.mpr ⟨lw_p69, List.forall_mem_cons.mpr ⟨lw_p70, List.forall_mem_cons.mpr ⟨lw_p71, List.forall_mem_cons.mpr ⟨lw_p72, List.forall_mem_cons.mpr ⟨lw_p73, List.forall_mem_cons.mpr ⟨lw_p74, List.forall_mem_cons.mpr ⟨lw_p75, List.forall_mem_cons.mpr ⟨lw_p76, List.forall_mem_cons.mpr ⟨lw_p77, List.forall_mem_cons.mpr ⟨lw_p78, List.forall_mem_cons.mpr ⟨lw_p79, fun _ h => absurd h List.not_mem_nil⟩⟩⟩⟩⟩⟩⟩⟩⟩⟩⟩⟩⟩⟩⟩⟩
theorem lw_p80 : lw_okq (⟨"JinjaTongue$Bodies", "beginMethod", "(LJinjaTongue$Method;)V"⟩, 13) := ⟨⟨by decide +kernel, by decide +kernel⟩, List.mem_of_getElem? (i := 231) (by decide +kernel), List.mem_of_getElem? (i := 1247) (by decide +kernel), List.mem_of_getElem? (i := 1248) (by decide +kernel)⟩
theorem lw_p81 : lw_okq (⟨"JinjaTongue$Bodies", "declare", "(II)I"⟩, 13) := ⟨⟨by decide +kernel, by decide +kernel⟩, List.mem_of_getElem? (i := 231) (by decide +kernel), List.mem_of_getElem? (i := 1257) (by decide +kernel), List.mem_of_getElem? (i := 1258) (by decide +kernel)⟩
theorem lw_p82 : lw_okq (⟨"JinjaTongue$Bodies", "variable", "(I)I"⟩, 13) := ⟨⟨by decide +kernel, by decide +kernel⟩, List.mem_of_getElem? (i := 231) (by decide +kernel), List.mem_of_getElem? (i := 1262) (by decide +kernel), List.mem_of_getElem? (i := 1263) (by decide +kernel)⟩
theorem lw_p83 : lw_okq (⟨"JinjaTongue$Bodies", "block", "(LJinjaTongue$Node;)V"⟩, 13) := ⟨⟨by decide +kernel, by decide +kernel⟩, List.mem_of_getElem? (i := 231) (by decide +kernel), List.mem_of_getElem? (i := 1272) (by decide +kernel), List.mem_of_getElem? (i := 1273) (by decide +kernel)⟩
theorem lw_p84 : lw_okq (⟨"JinjaTongue$Bodies", "statement", "(LJinjaTongue$Node;Z)V"⟩, 13) := ⟨⟨by decide +kernel, by decide +kernel⟩, List.mem_of_getElem? (i := 231) (by decide +kernel), List.mem_of_getElem? (i := 1276) (by decide +kernel), List.mem_of_getElem? (i := 1277) (by decide +kernel)⟩
theorem lw_p85 : lw_okq (⟨"JinjaTongue$Bodies", "ifStatement", "(LJinjaTongue$Node;)V"⟩, 13) := ⟨⟨by decide +kernel, by decide +kernel⟩, List.mem_of_getElem? (i := 231) (by decide +kernel), List.mem_of_getElem? (i := 1284) (by decide +kernel), List.mem_of_getElem? (i := 1285) (by decide +kernel)⟩
theorem lw_p86 : lw_okq (⟨"JinjaTongue$Bodies", "value", "(LJinjaTongue$Node;)I"⟩, 13) := ⟨⟨by decide +kernel, by decide +kernel⟩, List.mem_of_getElem? (i := 231) (by decide +kernel), List.mem_of_getElem? (i := 1288) (by decide +kernel), List.mem_of_getElem? (i := 1289) (by decide +kernel)⟩
theorem lw_p87 : lw_okq (⟨"JinjaTongue$Bodies", "truth", "(Z)I"⟩, 13) := ⟨⟨by decide +kernel, by decide +kernel⟩, List.mem_of_getElem? (i := 231) (by decide +kernel), List.mem_of_getElem? (i := 1292) (by decide +kernel), List.mem_of_getElem? (i := 1293) (by decide +kernel)⟩
theorem lw_p88 : lw_okq (⟨"JinjaTongue$Bodies", "give", "(III)I"⟩, 13) := ⟨⟨by decide +kernel, by decide +kernel⟩, List.mem_of_getElem? (i := 231) (by decide +kernel), List.mem_of_getElem? (i := 1296) (by decide +kernel), List.mem_of_getElem? (i := 1297) (by decide +kernel)⟩
theorem lw_p89 : lw_okq (⟨"JinjaTongue$Bodies", "negation", "(LJinjaTongue$Node;)I"⟩, 13) := ⟨⟨by decide +kernel, by decide +kernel⟩, List.mem_of_getElem? (i := 231) (by decide +kernel), List.mem_of_getElem? (i := 1300) (by decide +kernel), List.mem_of_getElem? (i := 1301) (by decide +kernel)⟩
theorem lw_p90 : lw_okq (⟨"JinjaTongue$Bodies", "fit", "(LJinjaTongue$Node;II)V"⟩, 13) := ⟨⟨by decide +kernel, by decide +kernel⟩, List.mem_of_getElem? (i := 231) (by decide +kernel), List.mem_of_getElem? (i := 1304) (by decide +kernel), List.mem_of_getElem? (i := 1305) (by decide +kernel)⟩
theorem lw_p91 : lw_okq (⟨"JinjaTongue$Bodies", "shortened", "(LJinjaTongue$Node;Z)I"⟩, 13) := ⟨⟨by decide +kernel, by decide +kernel⟩, List.mem_of_getElem? (i := 231) (by decide +kernel), List.mem_of_getElem? (i := 1316) (by decide +kernel), List.mem_of_getElem? (i := 1317) (by decide +kernel)⟩
theorem lw_p92 : lw_okq (⟨"JinjaTongue$Bodies", "choice", "(LJinjaTongue$Node;)I"⟩, 13) := ⟨⟨by decide +kernel, by decide +kernel⟩, List.mem_of_getElem? (i := 231) (by decide +kernel), List.mem_of_getElem? (i := 1329) (by decide +kernel), List.mem_of_getElem? (i := 1330) (by decide +kernel)⟩
theorem lw_p93 : lw_okq (⟨"JinjaTongue$Bodies", "prefix", "(LJinjaTongue$Node;)I"⟩, 13) := ⟨⟨by decide +kernel, by decide +kernel⟩, List.mem_of_getElem? (i := 231) (by decide +kernel), List.mem_of_getElem? (i := 1338) (by decide +kernel), List.mem_of_getElem? (i := 1339) (by decide +kernel)⟩
theorem lw_p94 : lw_okq (⟨"JinjaTongue$Bodies", "sign", "(LJinjaTongue$Node;I)I"⟩, 13) := ⟨⟨by decide +kernel, by decide +kernel⟩, List.mem_of_getElem? (i := 231) (by decide +kernel), List.mem_of_getElem? (i := 1342) (by decide +kernel), List.mem_of_getElem? (i := 1343) (by decide +kernel)⟩
theorem lw_p95 : lw_okq (⟨"JinjaTongue$Bodies", "check", "(LJinjaTongue$Node;)I"⟩, 13) := ⟨⟨by decide +kernel, by decide +kernel⟩, List.mem_of_getElem? (i := 231) (by decide +kernel), List.mem_of_getElem? (i := 1346) (by decide +kernel), List.mem_of_getElem? (i := 1347) (by decide +kernel)⟩
def lw_privs_6 : List (MethodName × Nat) := [(⟨"JinjaTongue$Bodies", "beginMethod", "(LJinjaTongue$Method;)V"⟩, 13), (⟨"JinjaTongue$Bodies", "declare", "(II)I"⟩, 13), (⟨"JinjaTongue$Bodies", "variable", "(I)I"⟩, 13), (⟨"JinjaTongue$Bodies", "block", "(LJinjaTongue$Node;)V"⟩, 13), (⟨"JinjaTongue$Bodies", "statement", "(LJinjaTongue$Node;Z)V"⟩, 13), (⟨"JinjaTongue$Bodies", "ifStatement", "(LJinjaTongue$Node;)V"⟩, 13), (⟨"JinjaTongue$Bodies", "value", "(LJinjaTongue$Node;)I"⟩, 13), (⟨"JinjaTongue$Bodies", "truth", "(Z)I"⟩, 13), (⟨"JinjaTongue$Bodies", "give", "(III)I"⟩, 13), (⟨"JinjaTongue$Bodies", "negation", "(LJinjaTongue$Node;)I"⟩, 13), (⟨"JinjaTongue$Bodies", "fit", "(LJinjaTongue$Node;II)V"⟩, 13), (⟨"JinjaTongue$Bodies", "shortened", "(LJinjaTongue$Node;Z)I"⟩, 13), (⟨"JinjaTongue$Bodies", "choice", "(LJinjaTongue$Node;)I"⟩, 13), (⟨"JinjaTongue$Bodies", "prefix", "(LJinjaTongue$Node;)I"⟩, 13), (⟨"JinjaTongue$Bodies", "sign", "(LJinjaTongue$Node;I)I"⟩, 13), (⟨"JinjaTongue$Bodies", "check", "(LJinjaTongue$Node;)I"⟩, 13)]
theorem lw_r6 : ∀ q ∈ lw_privs_6, lw_okq q := List.forall_mem_cons.mpr ⟨lw_p80, List.forall_mem_cons.mpr ⟨lw_p81, List.forall_mem_cons.mpr ⟨lw_p82, List.forall_mem_cons.mpr ⟨lw_p83, List.forall_mem_cons.mpr ⟨lw_p84, List.forall_mem_cons.mpr ⟨lw_p85, List.forall_mem_cons.mpr ⟨lw_p86, List.forall_mem_cons.mpr ⟨lw_p87, List.forall_mem_cons.mpr ⟨lw_p88, List.forall_mem_cons.mpr ⟨lw_p89, List.forall_mem_cons.mpr ⟨lw_p90, List.forall_mem_cons.mpr ⟨lw_p91, List.forall_mem_cons.mpr ⟨lw_p92, List.forall_mem_cons.mpr ⟨lw_p93, List.forall_mem_cons.mpr ⟨lw_p94, List.forall_mem_cons.mpr ⟨lw_p95, fun _ h => absurd h List.not_mem_nil⟩⟩⟩⟩⟩⟩⟩⟩⟩⟩⟩⟩⟩⟩⟩⟩
theorem lw_p96 : lw_okq (⟨"JinjaTongue$Bodies", "fieldBehind", "(LJinjaTongue$Node;)I"⟩, 13) := ⟨⟨by decide +kernel, by decide +kernel⟩, List.mem_of_getElem? (i := 231) (by decide +kernel), List.mem_of_getElem? (i := 1351) (by decide +kernel), List.mem_of_getElem? (i := 1352) (by decide +kernel)⟩
theorem lw_p97 : lw_okq (⟨"JinjaTongue$Bodies", "fieldType", "(LJinjaTongue$Decl;LJinjaTongue$Node;)I"⟩, 13) := ⟨⟨by decide +kernel, by decide +kernel⟩, List.mem_of_getElem? (i := 231) (by decide +kernel), List.mem_of_getElem? (i := 1355) (by decide +kernel), List.mem_of_getElem? (i := 1356) (by decide +kernel)⟩
theorem lw_p98 : lw_okq (⟨"JinjaTongue$Bodies", "element", "(LJinjaTongue$Node;)I"⟩, 13) := ⟨⟨by decide +kernel, by decide +kernel⟩, List.mem_of_getElem? (i := 231) (by decide +kernel), List.mem_of_getElem? (i := 1364) (by decide +kernel), List.mem_of_getElem? (i := 1365) (by decide +kernel)⟩
theorem lw_p99 : lw_okq (⟨"JinjaTongue$Bodies", "elementType", "(LJinjaTongue$Node;I)I"⟩, 13) := ⟨⟨by decide +kernel, by decide +kernel⟩, List.mem_of_getElem? (i := 231) (by decide +kernel), List.mem_of_getElem? (i := 1368) (by decide +kernel), List.mem_of_getElem? (i := 1369) (by decide +kernel)⟩
theorem lw_p100 : lw_okq (⟨"JinjaTongue$Bodies", "length", "(LJinjaTongue$Node;)I"⟩, 13) := ⟨⟨by decide +kernel, by decide +kernel⟩, List.mem_of_getElem? (i := 231) (by decide +kernel), List.mem_of_getElem? (i := 1372) (by decide +kernel), List.mem_of_getElem? (i := 1373) (by decide +kernel)⟩
theorem lw_p101 : lw_okq (⟨"JinjaTongue$Bodies", "call", "(LJinjaTongue$Node;)I"⟩, 13) := ⟨⟨by decide +kernel, by decide +kernel⟩, List.mem_of_getElem? (i := 231) (by decide +kernel), List.mem_of_getElem? (i := 1376) (by decide +kernel), List.mem_of_getElem? (i := 1377) (by decide +kernel)⟩
theorem lw_p102 : lw_okq (⟨"JinjaTongue$Bodies", "arguments", "(LJinjaTongue$Node;LJinjaTongue$Method;II)I"⟩, 13) := ⟨⟨by decide +kernel, by decide +kernel⟩, List.mem_of_getElem? (i := 231) (by decide +kernel), List.mem_of_getElem? (i := 1381) (by decide +kernel), List.mem_of_getElem? (i := 1382) (by decide +kernel)⟩
theorem lw_p103 : lw_okq (⟨"JinjaTongue$Bodies", "superCall", "(LJinjaTongue$Node;)I"⟩, 13) := ⟨⟨by decide +kernel, by decide +kernel⟩, List.mem_of_getElem? (i := 231) (by decide +kernel), List.mem_of_getElem? (i := 1385) (by decide +kernel), List.mem_of_getElem? (i := 1386) (by decide +kernel)⟩
theorem lw_p104 : lw_okq (⟨"JinjaTongue$Bodies", "newArray", "(LJinjaTongue$Node;)I"⟩, 13) := ⟨⟨by decide +kernel, by decide +kernel⟩, List.mem_of_getElem? (i := 231) (by decide +kernel), List.mem_of_getElem? (i := 1390) (by decide +kernel), List.mem_of_getElem? (i := 1391) (by decide +kernel)⟩
theorem lw_p105 : lw_okq (⟨"JinjaTongue$Bodies", "variableValue", "(LJinjaTongue$Node;)I"⟩, 13) := ⟨⟨by decide +kernel, by decide +kernel⟩, List.mem_of_getElem? (i := 231) (by decide +kernel), List.mem_of_getElem? (i := 1394) (by decide +kernel), List.mem_of_getElem? (i := 1395) (by decide +kernel)⟩
theorem lw_p106 : lw_okq (⟨"JinjaTongue$Bodies", "single", "(LJinjaTongue$Node;)I"⟩, 13) := ⟨⟨by decide +kernel, by decide +kernel⟩, List.mem_of_getElem? (i := 231) (by decide +kernel), List.mem_of_getElem? (i := 1398) (by decide +kernel), List.mem_of_getElem? (i := 1399) (by decide +kernel)⟩
theorem lw_p107 : lw_okq (⟨"JinjaTongue$Bodies", "loopStatement", "(LJinjaTongue$Node;)V"⟩, 13) := ⟨⟨by decide +kernel, by decide +kernel⟩, List.mem_of_getElem? (i := 231) (by decide +kernel), List.mem_of_getElem? (i := 1402) (by decide +kernel), List.mem_of_getElem? (i := 1403) (by decide +kernel)⟩
theorem lw_p108 : lw_okq (⟨"JinjaTongue$Bodies", "loopCondition", "(LJinjaTongue$Node;)I"⟩, 13) := ⟨⟨by decide +kernel, by decide +kernel⟩, List.mem_of_getElem? (i := 231) (by decide +kernel), List.mem_of_getElem? (i := 1406) (by decide +kernel), List.mem_of_getElem? (i := 1407) (by decide +kernel)⟩
theorem lw_p109 : lw_okq (⟨"JinjaTongue$Bodies", "endScope", "(II)V"⟩, 13) := ⟨⟨by decide +kernel, by decide +kernel⟩, List.mem_of_getElem? (i := 231) (by decide +kernel), List.mem_of_getElem? (i := 1441) (by decide +kernel), List.mem_of_getElem? (i := 1442) (by decide +kernel)⟩
theorem lw_p110 : lw_okq (⟨"JinjaTongue$Bodies", "returnStatement", "(LJinjaTongue$Node;)V"⟩, 13) := ⟨⟨by decide +kernel, by decide +kernel⟩, List.mem_of_getElem? (i := 231) (by decide +kernel), List.mem_of_getElem? (i := 1445) (by decide +kernel), List.mem_of_getElem? (i := 1446) (by decide +kernel)⟩
theorem lw_p111 : lw_okq (⟨"JinjaTongue$Bodies", "jumpStatement", "(LJinjaTongue$Node;)V"⟩, 13) := ⟨⟨by decide +kernel, by decide +kernel⟩, List.mem_of_getElem? (i := 231) (by decide +kernel), List.mem_of_getElem? (i := 1449) (by decide +kernel), List.mem_of_getElem? (i := 1450) (by decide +kernel)⟩
def lw_privs_7 : List (MethodName × Nat) := [(⟨"JinjaTongue$Bodies", "fieldBehind", "(LJinjaTongue$Node;)I"⟩, 13), (⟨"JinjaTongue$Bodies", "fieldType", "(LJinjaTongue$Decl;LJinjaTongue$Node;)I"⟩, 13), (⟨"JinjaTongue$Bodies", "element", "(LJinjaTongue$Node;)I"⟩, 13), (⟨"JinjaTongue$Bodies", "elementType", "(LJinjaTongue$Node;I)I"⟩, 13), (⟨"JinjaTongue$Bodies", "length", "(LJinjaTongue$Node;)I"⟩, 13), (⟨"JinjaTongue$Bodies", "call", "(LJinjaTongue$Node;)I"⟩, 13), (⟨"JinjaTongue$Bodies", "arguments", "(LJinjaTongue$Node;LJinjaTongue$Method;II)I"⟩, 13), (⟨"JinjaTongue$Bodies", "superCall", "(LJinjaTongue$Node;)I"⟩, 13), (⟨"JinjaTongue$Bodies", "newArray", "(LJinjaTongue$Node;)I"⟩, 13), (⟨"JinjaTongue$Bodies", "variableValue", "(LJinjaTongue$Node;)I"⟩, 13), (⟨"JinjaTongue$Bodies", "single", "(LJinjaTongue$Node;)I"⟩, 13), (⟨"JinjaTongue$Bodies", "loopStatement", "(LJinjaTongue$Node;)V"⟩, 13), (⟨"JinjaTongue$Bodies", "loopCondition", "(LJinjaTongue$Node;)I"⟩, 13), (⟨"JinjaTongue$Bodies", "endScope", "(II)V"⟩, 13), (⟨"JinjaTongue$Bodies", "returnStatement", "(LJinjaTongue$Node;)V"⟩, 13), (⟨"JinjaTongue$Bodies", "jumpStatement", "(LJinjaTongue$Node;)V"⟩, 13)]
theorem lw_r7 : ∀ q ∈ lw_privs_7, lw_okq q := List.forall_mem_cons.mpr ⟨lw_p96, List.forall_mem_cons.mpr ⟨lw_p97, List.forall_mem_cons.mpr ⟨lw_p98, List.forall_mem_cons.mpr ⟨lw_p99, List.forall_mem_cons.mpr ⟨lw_p100, List.forall_mem_cons.mpr ⟨lw_p101, List.forall_mem_cons.mpr ⟨lw_p102, List.forall_mem_cons.mpr ⟨lw_p103, List.forall_mem_cons.mpr ⟨lw_p104, List.forall_mem_cons.mpr ⟨lw_p105, List.forall_mem_cons.mpr ⟨lw_p106, List.forall_mem_cons.mpr ⟨lw_p107, List.forall_mem_cons.mpr ⟨lw_p108, List.forall_mem_cons.mpr ⟨lw_p109, List.forall_mem_cons.mpr ⟨lw_p110, List.forall_mem_cons.mpr ⟨lw_p111, fun _ h => absurd h List.not_mem_nil⟩⟩⟩⟩⟩⟩⟩⟩⟩⟩⟩⟩⟩⟩⟩⟩
theorem lw_p112 : lw_okq (⟨"JinjaTongue$Bodies", "throwStatement", "(LJinjaTongue$Node;)V"⟩, 13) := ⟨⟨by decide +kernel, by decide +kernel⟩, List.mem_of_getElem? (i := 231) (by decide +kernel), List.mem_of_getElem? (i := 1453) (by decide +kernel), List.mem_of_getElem? (i := 1454) (by decide +kernel)⟩
theorem lw_p113 : lw_okq (⟨"JinjaTongue$Bodies", "tryStatement", "(LJinjaTongue$Node;)V"⟩, 13) := ⟨⟨by decide +kernel, by decide +kernel⟩, List.mem_of_getElem? (i := 231) (by decide +kernel), List.mem_of_getElem? (i := 1457) (by decide +kernel), List.mem_of_getElem? (i := 1458) (by decide +kernel)⟩
theorem lw_p114 : lw_okq (⟨"JinjaTongue$Bodies", "catchBlock", "(LJinjaTongue$Node;)V"⟩, 13) := ⟨⟨by decide +kernel, by decide +kernel⟩, List.mem_of_getElem? (i := 231) (by decide +kernel), List.mem_of_getElem? (i := 1465) (by decide +kernel), List.mem_of_getElem? (i := 1466) (by decide +kernel)⟩
theorem lw_p115 : lw_okq (⟨"JinjaTongue$Bodies", "last", "(LJinjaTongue$Node;I)V"⟩, 13) := ⟨⟨by decide +kernel, by decide +kernel⟩, List.mem_of_getElem? (i := 231) (by decide +kernel), List.mem_of_getElem? (i := 1469) (by decide +kernel), List.mem_of_getElem? (i := 1470) (by decide +kernel)⟩
theorem lw_p116 : lw_okq (⟨"JinjaTongue$Bodies", "local", "(LJinjaTongue$Node;)V"⟩, 13) := ⟨⟨by decide +kernel, by decide +kernel⟩, List.mem_of_getElem? (i := 231) (by decide +kernel), List.mem_of_getElem? (i := 1473) (by decide +kernel), List.mem_of_getElem? (i := 1474) (by decide +kernel)⟩
theorem lw_p117 : lw_okq (⟨"JinjaTongue$Bodies", "assign", "(LJinjaTongue$Node;LJinjaTongue$Node;)V"⟩, 13) := ⟨⟨by decide +kernel, by decide +kernel⟩, List.mem_of_getElem? (i := 231) (by decide +kernel), List.mem_of_getElem? (i := 1477) (by decide +kernel), List.mem_of_getElem? (i := 1478) (by decide +kernel)⟩
theorem lw_p118 : lw_okq (⟨"JinjaTongue$Bodies", "ownField", "(LJinjaTongue$Node;)I"⟩, 13) := ⟨⟨by decide +kernel, by decide +kernel⟩, List.mem_of_getElem? (i := 231) (by decide +kernel), List.mem_of_getElem? (i := 1481) (by decide +kernel), List.mem_of_getElem? (i := 1482) (by decide +kernel)⟩
theorem lw_p119 : lw_okq (⟨"JinjaTongue$Bodies", "endMethod", "()V"⟩, 13) := ⟨⟨by decide +kernel, by decide +kernel⟩, List.mem_of_getElem? (i := 231) (by decide +kernel), List.mem_of_getElem? (i := 1485) (by decide +kernel), List.mem_of_getElem? (i := 1486) (by decide +kernel)⟩
theorem lw_p120 : lw_okq (⟨"JinjaTongue", "declared", "(I)LJinjaTongue$Decl;"⟩, 8) := ⟨⟨by decide +kernel, by decide +kernel⟩, List.mem_of_getElem? (i := 37) (by decide +kernel), List.mem_of_getElem? (i := 1493) (by decide +kernel), List.mem_of_getElem? (i := 1494) (by decide +kernel)⟩
theorem lw_p121 : lw_okq (⟨"JinjaTongue$Heap", "headOf", "(J)J"⟩, 5) := ⟨⟨by decide +kernel, by decide +kernel⟩, List.mem_of_getElem? (i := 283) (by decide +kernel), List.mem_of_getElem? (i := 1567) (by decide +kernel), List.mem_of_getElem? (i := 1568) (by decide +kernel)⟩
theorem lw_p122 : lw_okq (⟨"JinjaTongue$Machine", "makeObject", "(I)V"⟩, 19) := ⟨⟨by decide +kernel, by decide +kernel⟩, List.mem_of_getElem? (i := 277) (by decide +kernel), List.mem_of_getElem? (i := 1642) (by decide +kernel), List.mem_of_getElem? (i := 1643) (by decide +kernel)⟩
theorem lw_p123 : lw_okq (⟨"JinjaTongue$Machine", "refuse", "()V"⟩, 19) := ⟨⟨by decide +kernel, by decide +kernel⟩, List.mem_of_getElem? (i := 277) (by decide +kernel), List.mem_of_getElem? (i := 1646) (by decide +kernel), List.mem_of_getElem? (i := 1647) (by decide +kernel)⟩
theorem lw_p124 : lw_okq (⟨"JinjaTongue$Machine", "make", "(IJ)V"⟩, 19) := ⟨⟨by decide +kernel, by decide +kernel⟩, List.mem_of_getElem? (i := 277) (by decide +kernel), List.mem_of_getElem? (i := 1651) (by decide +kernel), List.mem_of_getElem? (i := 1652) (by decide +kernel)⟩
theorem lw_p125 : lw_okq (⟨"JinjaTongue$Machine", "collect", "()V"⟩, 19) := ⟨⟨by decide +kernel, by decide +kernel⟩, List.mem_of_getElem? (i := 277) (by decide +kernel), List.mem_of_getElem? (i := 1659) (by decide +kernel), List.mem_of_getElem? (i := 1660) (by decide +kernel)⟩
theorem lw_p126 : lw_okq (⟨"JinjaTongue$Machine", "push", "(J)V"⟩, 19) := ⟨⟨by decide +kernel, by decide +kernel⟩, List.mem_of_getElem? (i := 277) (by decide +kernel), List.mem_of_getElem? (i := 1897) (by decide +kernel), List.mem_of_getElem? (i := 1898) (by decide +kernel)⟩
theorem lw_p127 : lw_okq (⟨"JinjaTongue$Machine", "callNearest", "(II)V"⟩, 19) := ⟨⟨by decide +kernel, by decide +kernel⟩, List.mem_of_getElem? (i := 277) (by decide +kernel), List.mem_of_getElem? (i := 1901) (by decide +kernel), List.mem_of_getElem? (i := 1902) (by decide +kernel)⟩
def lw_privs_8 : List (MethodName × Nat) := [(⟨"JinjaTongue$Bodies", "throwStatement", "(LJinjaTongue$Node;)V"⟩, 13), (⟨"JinjaTongue$Bodies", "tryStatement", "(LJinjaTongue$Node;)V"⟩, 13), (⟨"JinjaTongue$Bodies", "catchBlock", "(LJinjaTongue$Node;)V"⟩, 13), (⟨"JinjaTongue$Bodies", "last", "(LJinjaTongue$Node;I)V"⟩, 13), (⟨"JinjaTongue$Bodies", "local", "(LJinjaTongue$Node;)V"⟩, 13), (⟨"JinjaTongue$Bodies", "assign", "(LJinjaTongue$Node;LJinjaTongue$Node;)V"⟩, 13), (⟨"JinjaTongue$Bodies", "ownField", "(LJinjaTongue$Node;)I"⟩, 13), (⟨"JinjaTongue$Bodies", "endMethod", "()V"⟩, 13), (⟨"JinjaTongue", "declared", "(I)LJinjaTongue$Decl;"⟩, 8), (⟨"JinjaTongue$Heap", "headOf", "(J)J"⟩, 5), (⟨"JinjaTongue$Machine", "makeObject", "(I)V"⟩, 19), (⟨"JinjaTongue$Machine", "refuse", "()V"⟩, 19), (⟨"JinjaTongue$Machine", "make", "(IJ)V"⟩, 19), (⟨"JinjaTongue$Machine", "collect", "()V"⟩, 19), (⟨"JinjaTongue$Machine", "push", "(J)V"⟩, 19), (⟨"JinjaTongue$Machine", "callNearest", "(II)V"⟩, 19)]
theorem lw_r8 : ∀ q ∈ lw_privs_8, lw_okq q := List.forall_mem_cons.mpr ⟨lw_p112, List.forall_mem_cons.mpr ⟨lw_p113, List.forall_mem_cons.mpr ⟨lw_p114, List.forall_mem_cons.mpr ⟨lw_p115, List.forall_mem_cons.mpr ⟨lw_p116, List.forall_mem_cons.mpr ⟨lw_p117, List.forall_mem_cons.mpr ⟨lw_p118, List.forall_mem_cons.mpr ⟨lw_p119, List.forall_mem_cons.mpr ⟨lw_p120, List.forall_mem_cons.mpr ⟨lw_p121, List.forall_mem_cons.mpr ⟨lw_p122, List.forall_mem_cons.mpr ⟨lw_p123, List.forall_mem_cons.mpr ⟨lw_p124, List.forall_mem_cons.mpr ⟨lw_p125, List.forall_mem_cons.mpr ⟨lw_p126, List.forall_mem_cons.mpr ⟨lw_p127, fun _ h => absurd h List.not_mem_nil⟩⟩⟩⟩⟩⟩⟩⟩⟩⟩⟩⟩⟩⟩⟩⟩
theorem lw_p128 : lw_okq (⟨"JinjaTongue$Machine", "burn", "()Z"⟩, 19) := ⟨⟨by decide +kernel, by decide +kernel⟩, List.mem_of_getElem? (i := 277) (by decide +kernel), List.mem_of_getElem? (i := 1905) (by decide +kernel), List.mem_of_getElem? (i := 1906) (by decide +kernel)⟩
theorem lw_p129 : lw_okq (⟨"JinjaTongue$Machine", "raise", "(I)V"⟩, 19) := ⟨⟨by decide +kernel, by decide +kernel⟩, List.mem_of_getElem? (i := 277) (by decide +kernel), List.mem_of_getElem? (i := 1909) (by decide +kernel), List.mem_of_getElem? (i := 1910) (by decide +kernel)⟩
theorem lw_p130 : lw_okq (⟨"JinjaTongue$Machine", "begin", "(LJinjaTongue$Method;I)V"⟩, 19) := ⟨⟨by decide +kernel, by decide +kernel⟩, List.mem_of_getElem? (i := 277) (by decide +kernel), List.mem_of_getElem? (i := 1915) (by decide +kernel), List.mem_of_getElem? (i := 1916) (by decide +kernel)⟩
theorem lw_p131 : lw_okq (⟨"JinjaTongue$Machine", "step", "(II)V"⟩, 19) := ⟨⟨by decide +kernel, by decide +kernel⟩, List.mem_of_getElem? (i := 277) (by decide +kernel), List.mem_of_getElem? (i := 1932) (by decide +kernel), List.mem_of_getElem? (i := 1933) (by decide +kernel)⟩
theorem lw_p132 : lw_okq (⟨"JinjaTongue$Machine", "slotAt", "(I)J"⟩, 19) := ⟨⟨by decide +kernel, by decide +kernel⟩, List.mem_of_getElem? (i := 277) (by decide +kernel), List.mem_of_getElem? (i := 1937) (by decide +kernel), List.mem_of_getElem? (i := 1938) (by decide +kernel)⟩
theorem lw_p133 : lw_okq (⟨"JinjaTongue$Machine", "pop", "()J"⟩, 19) := ⟨⟨by decide +kernel, by decide +kernel⟩, List.mem_of_getElem? (i := 277) (by decide +kernel), List.mem_of_getElem? (i := 1941) (by decide +kernel), List.mem_of_getElem? (i := 1942) (by decide +kernel)⟩
theorem lw_p134 : lw_okq (⟨"JinjaTongue$Machine", "setSlot", "(IJ)V"⟩, 19) := ⟨⟨by decide +kernel, by decide +kernel⟩, List.mem_of_getElem? (i := 277) (by decide +kernel), List.mem_of_getElem? (i := 1945) (by decide +kernel), List.mem_of_getElem? (i := 1946) (by decide +kernel)⟩
theorem lw_p135 : lw_okq (⟨"JinjaTongue$Machine", "skip", "(ZI)V"⟩, 19) := ⟨⟨by decide +kernel, by decide +kernel⟩, List.mem_of_getElem? (i := 277) (by decide +kernel), List.mem_of_getElem? (i := 1949) (by decide +kernel), List.mem_of_getElem? (i := 1950) (by decide +kernel)⟩
theorem lw_p136 : lw_okq (⟨"JinjaTongue$Machine", "sign", "(I)V"⟩, 19) := ⟨⟨by decide +kernel, by decide +kernel⟩, List.mem_of_getElem? (i := 277) (by decide +kernel), List.mem_of_getElem? (i := 1953) (by decide +kernel), List.mem_of_getElem? (i := 1954) (by decide +kernel)⟩
theorem lw_p137 : lw_okq (⟨"JinjaTongue$Machine", "pushTruth", "(Z)V"⟩, 19) := ⟨⟨by decide +kernel, by decide +kernel⟩, List.mem_of_getElem? (i := 277) (by decide +kernel), List.mem_of_getElem? (i := 1957) (by decide +kernel), List.mem_of_getElem? (i := 1958) (by decide +kernel)⟩
theorem lw_p138 : lw_okq (⟨"JinjaTongue$Machine", "divide", "(ZII)V"⟩, 19) := ⟨⟨by decide +kernel, by decide +kernel⟩, List.mem_of_getElem? (i := 277) (by decide +kernel), List.mem_of_getElem? (i := 1961) (by decide +kernel), List.mem_of_getElem? (i := 1962) (by decide +kernel)⟩
theorem lw_p139 : lw_okq (⟨"JinjaTongue$Machine", "pushNumber", "(I)V"⟩, 19) := ⟨⟨by decide +kernel, by decide +kernel⟩, List.mem_of_getElem? (i := 277) (by decide +kernel), List.mem_of_getElem? (i := 1965) (by decide +kernel), List.mem_of_getElem? (i := 1966) (by decide +kernel)⟩
theorem lw_p140 : lw_okq (⟨"JinjaTongue$Machine", "combined", "(III)I"⟩, 19) := ⟨⟨by decide +kernel, by decide +kernel⟩, List.mem_of_getElem? (i := 277) (by decide +kernel), List.mem_of_getElem? (i := 1969) (by decide +kernel), List.mem_of_getElem? (i := 1970) (by decide +kernel)⟩
theorem lw_p141 : lw_okq (⟨"JinjaTongue$Machine", "prefix", "(II)V"⟩, 19) := ⟨⟨by decide +kernel, by decide +kernel⟩, List.mem_of_getElem? (i := 277) (by decide +kernel), List.mem_of_getElem? (i := 1973) (by decide +kernel), List.mem_of_getElem? (i := 1974) (by decide +kernel)⟩
theorem lw_p142 : lw_okq (⟨"JinjaTongue$Machine", "readNumber", "()V"⟩, 19) := ⟨⟨by decide +kernel, by decide +kernel⟩, List.mem_of_getElem? (i := 277) (by decide +kernel), List.mem_of_getElem? (i := 1977) (by decide +kernel), List.mem_of_getElem? (i := 1978) (by decide +kernel)⟩
theorem lw_p143 : lw_okq (⟨"JinjaTongue$Machine", "print", "(I)V"⟩, 19) := ⟨⟨by decide +kernel, by decide +kernel⟩, List.mem_of_getElem? (i := 277) (by decide +kernel), List.mem_of_getElem? (i := 1981) (by decide +kernel), List.mem_of_getElem? (i := 1982) (by decide +kernel)⟩
def lw_privs_9 : List (MethodName × Nat) := [(⟨"JinjaTongue$Machine", "burn", "()Z"⟩, 19), (⟨"JinjaTongue$Machine", "raise", "(I)V"⟩, 19), (⟨"JinjaTongue$Machine", "begin", "(LJinjaTongue$Method;I)V"⟩, 19), (⟨"JinjaTongue$Machine", "step", "(II)V"⟩, 19), (⟨"JinjaTongue$Machine", "slotAt", "(I)J"⟩, 19), (⟨"JinjaTongue$Machine", "pop", "()J"⟩, 19), (⟨"JinjaTongue$Machine", "setSlot", "(IJ)V"⟩, 19), (⟨"JinjaTongue$Machine", "skip", "(ZI)V"⟩, 19), (⟨"JinjaTongue$Machine", "sign", "(I)V"⟩, 19), (⟨"JinjaTongue$Machine", "pushTruth", "(Z)V"⟩, 19), (⟨"JinjaTongue$Machine", "divide", "(ZII)V"⟩, 19), (⟨"JinjaTongue$Machine", "pushNumber", "(I)V"⟩, 19), (⟨"JinjaTongue$Machine", "combined", "(III)I"⟩, 19), (⟨"JinjaTongue$Machine", "prefix", "(II)V"⟩, 19), (⟨"JinjaTongue$Machine", "readNumber", "()V"⟩, 19), (⟨"JinjaTongue$Machine", "print", "(I)V"⟩, 19)]
theorem lw_r9 : ∀ q ∈ lw_privs_9, lw_okq q := List.forall_mem_cons.mpr ⟨lw_p128, List.forall_mem_cons.mpr ⟨lw_p129, List.forall_mem_cons.mpr ⟨lw_p130, List.forall_mem_cons.mpr ⟨lw_p131, List.forall_mem_cons.mpr ⟨lw_p132, List.forall_mem_cons.mpr ⟨lw_p133, List.forall_mem_cons.mpr ⟨lw_p134, List.forall_mem_cons.mpr ⟨lw_p135, List.forall_mem_cons.mpr ⟨lw_p136, List.forall_mem_cons.mpr ⟨lw_p137, List.forall_mem_cons.mpr ⟨lw_p138, List.forall_mem_cons.mpr ⟨lw_p139, List.forall_mem_cons.mpr ⟨lw_p140, List.forall_mem_cons.mpr ⟨lw_p141, List.forall_mem_cons.mpr ⟨lw_p142, List.forall_mem_cons.mpr ⟨lw_p143, fun _ h => absurd h List.not_mem_nil⟩⟩⟩⟩⟩⟩⟩⟩⟩⟩⟩⟩⟩⟩⟩⟩
theorem lw_p144 : lw_okq (⟨"JinjaTongue$Machine", "stepAmongThings", "(III)V"⟩, 19) := ⟨⟨by decide +kernel, by decide +kernel⟩, List.mem_of_getElem? (i := 277) (by decide +kernel), List.mem_of_getElem? (i := 1989) (by decide +kernel), List.mem_of_getElem? (i := 1990) (by decide +kernel)⟩
theorem lw_p145 : lw_okq (⟨"JinjaTongue$Machine", "check", "(ZI)V"⟩, 19) := ⟨⟨by decide +kernel, by decide +kernel⟩, List.mem_of_getElem? (i := 277) (by decide +kernel), List.mem_of_getElem? (i := 1993) (by decide +kernel), List.mem_of_getElem? (i := 1994) (by decide +kernel)⟩
theorem lw_p146 : lw_okq (⟨"JinjaTongue$Machine", "length", "()V"⟩, 19) := ⟨⟨by decide +kernel, by decide +kernel⟩, List.mem_of_getElem? (i := 277) (by decide +kernel), List.mem_of_getElem? (i := 1998) (by decide +kernel), List.mem_of_getElem? (i := 1999) (by decide +kernel)⟩
theorem lw_p147 : lw_okq (⟨"JinjaTongue$Machine", "getField", "(I)V"⟩, 19) := ⟨⟨by decide +kernel, by decide +kernel⟩, List.mem_of_getElem? (i := 277) (by decide +kernel), List.mem_of_getElem? (i := 2003) (by decide +kernel), List.mem_of_getElem? (i := 2004) (by decide +kernel)⟩
theorem lw_p148 : lw_okq (⟨"JinjaTongue$Machine", "putField", "(I)V"⟩, 19) := ⟨⟨by decide +kernel, by decide +kernel⟩, List.mem_of_getElem? (i := 277) (by decide +kernel), List.mem_of_getElem? (i := 2007) (by decide +kernel), List.mem_of_getElem? (i := 2008) (by decide +kernel)⟩
theorem lw_p149 : lw_okq (⟨"JinjaTongue$Machine", "getElement", "()V"⟩, 19) := ⟨⟨by decide +kernel, by decide +kernel⟩, List.mem_of_getElem? (i := 277) (by decide +kernel), List.mem_of_getElem? (i := 2015) (by decide +kernel), List.mem_of_getElem? (i := 2016) (by decide +kernel)⟩
theorem lw_p150 : lw_okq (⟨"JinjaTongue$Machine", "hasElement", "(JI)Z"⟩, 19) := ⟨⟨by decide +kernel, by decide +kernel⟩, List.mem_of_getElem? (i := 277) (by decide +kernel), List.mem_of_getElem? (i := 2019) (by decide +kernel), List.mem_of_getElem? (i := 2020) (by decide +kernel)⟩
theorem lw_p151 : lw_okq (⟨"JinjaTongue$Machine", "putElement", "()V"⟩, 19) := ⟨⟨by decide +kernel, by decide +kernel⟩, List.mem_of_getElem? (i := 277) (by decide +kernel), List.mem_of_getElem? (i := 2023) (by decide +kernel), List.mem_of_getElem? (i := 2024) (by decide +kernel)⟩
theorem lw_p152 : lw_okq (⟨"JinjaTongue$Machine", "makeArray", "(II)V"⟩, 19) := ⟨⟨by decide +kernel, by decide +kernel⟩, List.mem_of_getElem? (i := 277) (by decide +kernel), List.mem_of_getElem? (i := 2027) (by decide +kernel), List.mem_of_getElem? (i := 2028) (by decide +kernel)⟩
theorem lw_p153 : lw_okq (⟨"JinjaTongue$Machine", "callSuper", "(II)V"⟩, 19) := ⟨⟨by decide +kernel, by decide +kernel⟩, List.mem_of_getElem? (i := 277) (by decide +kernel), List.mem_of_getElem? (i := 2032) (by decide +kernel), List.mem_of_getElem? (i := 2033) (by decide +kernel)⟩
theorem lw_p154 : lw_okq (⟨"JinjaTongue$Machine", "throwValue", "(J)V"⟩, 19) := ⟨⟨by decide +kernel, by decide +kernel⟩, List.mem_of_getElem? (i := 277) (by decide +kernel), List.mem_of_getElem? (i := 2036) (by decide +kernel), List.mem_of_getElem? (i := 2037) (by decide +kernel)⟩
theorem lw_p155 : lw_okq (⟨"JinjaTongue$Machine", "stepOut", "(III)V"⟩, 19) := ⟨⟨by decide +kernel, by decide +kernel⟩, List.mem_of_getElem? (i := 277) (by decide +kernel), List.mem_of_getElem? (i := 2040) (by decide +kernel), List.mem_of_getElem? (i := 2041) (by decide +kernel)⟩
theorem lw_p156 : lw_okq (⟨"JinjaTongue$Machine", "leave", "(IJ)V"⟩, 19) := ⟨⟨by decide +kernel, by decide +kernel⟩, List.mem_of_getElem? (i := 277) (by decide +kernel), List.mem_of_getElem? (i := 2044) (by decide +kernel), List.mem_of_getElem? (i := 2045) (by decide +kernel)⟩
theorem lw_p157 : lw_okq (⟨"JinjaTongue$Machine", "land", "(IIJ)V"⟩, 19) := ⟨⟨by decide +kernel, by decide +kernel⟩, List.mem_of_getElem? (i := 277) (by decide +kernel), List.mem_of_getElem? (i := 2056) (by decide +kernel), List.mem_of_getElem? (i := 2057) (by decide +kernel)⟩
theorem lw_p158 : lw_okq (⟨"JinjaTongue$Machine", "giveBack", "(J)V"⟩, 19) := ⟨⟨by decide +kernel, by decide +kernel⟩, List.mem_of_getElem? (i := 277) (by decide +kernel), List.mem_of_getElem? (i := 2068) (by decide +kernel), List.mem_of_getElem? (i := 2069) (by decide +kernel)⟩
theorem lw_p159 : lw_okq (⟨"JinjaTongue$Machine", "close", "()V"⟩, 19) := ⟨⟨by decide +kernel, by decide +kernel⟩, List.mem_of_getElem? (i := 277) (by decide +kernel), List.mem_of_getElem? (i := 2072) (by decide +kernel), List.mem_of_getElem? (i := 2073) (by decide +kernel)⟩
def lw_privs_10 : List (MethodName × Nat) := [(⟨"JinjaTongue$Machine", "stepAmongThings", "(III)V"⟩, 19), (⟨"JinjaTongue$Machine", "check", "(ZI)V"⟩, 19), (⟨"JinjaTongue$Machine", "length", "()V"⟩, 19), (⟨"JinjaTongue$Machine", "getField", "(I)V"⟩, 19), (⟨"JinjaTongue$Machine", "putField", "(I)V"⟩, 19), (⟨"JinjaTongue$Machine", "getElement", "()V"⟩, 19), (⟨"JinjaTongue$Machine", "hasElement", "(JI)Z"⟩, 19), (⟨"JinjaTongue$Machine", "putElement", "()V"⟩, 19), (⟨"JinjaTongue$Machine", "makeArray", "(II)V"⟩, 19), (⟨"JinjaTongue$Machine", "callSuper", "(II)V"⟩, 19), (⟨"JinjaTongue$Machine", "throwValue", "(J)V"⟩, 19), (⟨"JinjaTongue$Machine", "stepOut", "(III)V"⟩, 19), (⟨"JinjaTongue$Machine", "leave", "(IJ)V"⟩, 19), (⟨"JinjaTongue$Machine", "land", "(IIJ)V"⟩, 19), (⟨"JinjaTongue$Machine", "giveBack", "(J)V"⟩, 19), (⟨"JinjaTongue$Machine", "close", "()V"⟩, 19)]
theorem lw_r10 : ∀ q ∈ lw_privs_10, lw_okq q := List.forall_mem_cons.mpr ⟨lw_p144, List.forall_mem_cons.mpr ⟨lw_p145, List.forall_mem_cons.mpr ⟨lw_p146, List.forall_mem_cons.mpr ⟨lw_p147, List.forall_mem_cons.mpr ⟨lw_p148, List.forall_mem_cons.mpr ⟨lw_p149, List.forall_mem_cons.mpr ⟨lw_p150, List.forall_mem_cons.mpr ⟨lw_p151, List.forall_mem_cons.mpr ⟨lw_p152, List.forall_mem_cons.mpr ⟨lw_p153, List.forall_mem_cons.mpr ⟨lw_p154, List.forall_mem_cons.mpr ⟨lw_p155, List.forall_mem_cons.mpr ⟨lw_p156, List.forall_mem_cons.mpr ⟨lw_p157, List.forall_mem_cons.mpr ⟨lw_p158, List.forall_mem_cons.mpr ⟨lw_p159, fun _ h => absurd h List.not_mem_nil⟩⟩⟩⟩⟩⟩⟩⟩⟩⟩⟩⟩⟩⟩⟩⟩
theorem lw_p160 : lw_okq (⟨"JinjaTongue$Machine", "goOn", "(IJ)V"⟩, 19) := ⟨⟨by decide +kernel, by decide +kernel⟩, List.mem_of_getElem? (i := 277) (by decide +kernel), List.mem_of_getElem? (i := 2076) (by decide +kernel), List.mem_of_getElem? (i := 2077) (by decide +kernel)⟩
theorem lw_p161 : lw_okq (⟨"JinjaTongue$Machine", "goOutward", "()V"⟩, 19) := ⟨⟨by decide +kernel, by decide +kernel⟩, List.mem_of_getElem? (i := 277) (by decide +kernel), List.mem_of_getElem? (i := 2080) (by decide +kernel), List.mem_of_getElem? (i := 2081) (by decide +kernel)⟩
theorem lw_p162 : lw_okq (⟨"JinjaTongue$Machine", "handlerOf", "(I)I"⟩, 19) := ⟨⟨by decide +kernel, by decide +kernel⟩, List.mem_of_getElem? (i := 277) (by decide +kernel), List.mem_of_getElem? (i := 2084) (by decide +kernel), List.mem_of_getElem? (i := 2085) (by decide +kernel)⟩
theorem lw_p163 : lw_okq (⟨"JinjaTongueModel", "cut", "()V"⟩, 134) := ⟨⟨by decide +kernel, by decide +kernel⟩, List.mem_of_getElem? (i := 2088) (by decide +kernel), List.mem_of_getElem? (i := 2516) (by decide +kernel), List.mem_of_getElem? (i := 2517) (by decide +kernel)⟩
theorem lw_p164 : lw_okq (⟨"JinjaTongueModel", "built", "(Ljava/lang/String;)V"⟩, 134) := ⟨⟨by decide +kernel, by decide +kernel⟩, List.mem_of_getElem? (i := 2088) (by decide +kernel), List.mem_of_getElem? (i := 2521) (by decide +kernel), List.mem_of_getElem? (i := 2522) (by decide +kernel)⟩
theorem lw_p165 : lw_okq (⟨"JinjaTongueModel", "ch", "(I)I"⟩, 134) := ⟨⟨by decide +kernel, by decide +kernel⟩, List.mem_of_getElem? (i := 2088) (by decide +kernel), List.mem_of_getElem? (i := 2535) (by decide +kernel), List.mem_of_getElem? (i := 2536) (by decide +kernel)⟩
theorem lw_p166 : lw_okq (⟨"JinjaTongueModel", "wordOf", "(II)I"⟩, 134) := ⟨⟨by decide +kernel, by decide +kernel⟩, List.mem_of_getElem? (i := 2088) (by decide +kernel), List.mem_of_getElem? (i := 2548) (by decide +kernel), List.mem_of_getElem? (i := 2549) (by decide +kernel)⟩
theorem lw_p167 : lw_okq (⟨"JinjaTongueModel", "intern", "(II)I"⟩, 134) := ⟨⟨by decide +kernel, by decide +kernel⟩, List.mem_of_getElem? (i := 2088) (by decide +kernel), List.mem_of_getElem? (i := 2553) (by decide +kernel), List.mem_of_getElem? (i := 2554) (by decide +kernel)⟩
theorem lw_p168 : lw_okq (⟨"JinjaTongueModel", "sign", "(I)I"⟩, 134) := ⟨⟨by decide +kernel, by decide +kernel⟩, List.mem_of_getElem? (i := 2088) (by decide +kernel), List.mem_of_getElem? (i := 2560) (by decide +kernel), List.mem_of_getElem? (i := 2561) (by decide +kernel)⟩
theorem lw_p169 : lw_okq (⟨"JinjaTongueModel", "kind", "()I"⟩, 134) := ⟨⟨by decide +kernel, by decide +kernel⟩, List.mem_of_getElem? (i := 2088) (by decide +kernel), List.mem_of_getElem? (i := 2611) (by decide +kernel), List.mem_of_getElem? (i := 2612) (by decide +kernel)⟩
theorem lw_p170 : lw_okq (⟨"JinjaTongueModel", "declaration", "()V"⟩, 134) := ⟨⟨by decide +kernel, by decide +kernel⟩, List.mem_of_getElem? (i := 2088) (by decide +kernel), List.mem_of_getElem? (i := 2615) (by decide +kernel), List.mem_of_getElem? (i := 2616) (by decide +kernel)⟩
theorem lw_p171 : lw_okq (⟨"JinjaTongueModel", "bad", "(I)V"⟩, 134) := ⟨⟨by decide +kernel, by decide +kernel⟩, List.mem_of_getElem? (i := 2088) (by decide +kernel), List.mem_of_getElem? (i := 2619) (by decide +kernel), List.mem_of_getElem? (i := 2620) (by decide +kernel)⟩
theorem lw_p172 : lw_okq (⟨"JinjaTongueModel", "badAt", "(II)V"⟩, 134) := ⟨⟨by decide +kernel, by decide +kernel⟩, List.mem_of_getElem? (i := 2088) (by decide +kernel), List.mem_of_getElem? (i := 2623) (by decide +kernel), List.mem_of_getElem? (i := 2624) (by decide +kernel)⟩
theorem lw_p173 : lw_okq (⟨"JinjaTongueModel", "name", "()I"⟩, 134) := ⟨⟨by decide +kernel, by decide +kernel⟩, List.mem_of_getElem? (i := 2088) (by decide +kernel), List.mem_of_getElem? (i := 2627) (by decide +kernel), List.mem_of_getElem? (i := 2628) (by decide +kernel)⟩
theorem lw_p174 : lw_okq (⟨"JinjaTongueModel", "take", "(I)V"⟩, 134) := ⟨⟨by decide +kernel, by decide +kernel⟩, List.mem_of_getElem? (i := 2088) (by decide +kernel), List.mem_of_getElem? (i := 2631) (by decide +kernel), List.mem_of_getElem? (i := 2632) (by decide +kernel)⟩
theorem lw_p175 : lw_okq (⟨"JinjaTongueModel", "may", "(I)Z"⟩, 134) := ⟨⟨by decide +kernel, by decide +kernel⟩, List.mem_of_getElem? (i := 2088) (by decide +kernel), List.mem_of_getElem? (i := 2635) (by decide +kernel), List.mem_of_getElem? (i := 2636) (by decide +kernel)⟩
def lw_privs_11 : List (MethodName × Nat) := [(⟨"JinjaTongue$Machine", "goOn", "(IJ)V"⟩, 19), (⟨"JinjaTongue$Machine", "goOutward", "()V"⟩, 19), (⟨"JinjaTongue$Machine", "handlerOf", "(I)I"⟩, 19), (⟨"JinjaTongueModel", "cut", "()V"⟩, 134), (⟨"JinjaTongueModel", "built", "(Ljava/lang/String;)V"⟩, 134), (⟨"JinjaTongueModel", "ch", "(I)I"⟩, 134), (⟨"JinjaTongueModel", "wordOf", "(II)I"⟩, 134), (⟨"JinjaTongueModel", "intern", "(II)I"⟩, 134), (⟨"JinjaTongueModel", "sign", "(I)I"⟩, 134), (⟨"JinjaTongueModel", "kind", "()I"⟩, 134), (⟨"JinjaTongueModel", "declaration", "()V"⟩, 134), (⟨"JinjaTongueModel", "bad", "(I)V"⟩, 134), (⟨"JinjaTongueModel", "badAt", "(II)V"⟩, 134), (⟨"JinjaTongueModel", "name", "()I"⟩, 134), (⟨"JinjaTongueModel", "take", "(I)V"⟩, 134), (⟨"JinjaTongueModel", "may", "(I)Z"⟩, 134)]
theorem lw_r11 : ∀ q ∈ lw_privs_11, lw_okq q := List.forall_mem_cons.mpr ⟨lw_p160, List.forall_mem_cons.mpr ⟨lw_p161, List.forall_mem_cons.mpr ⟨lw_p162, List.forall_mem_cons.mpr ⟨lw_p163, List.forall_mem_cons.mpr ⟨lw_p164, List.forall_mem_cons.mpr ⟨lw_p165, List.forall_mem_cons.mpr ⟨lw_p166, List.forall_mem_cons.mpr ⟨lw_p167, List.forall_mem_cons.mpr ⟨lw_p168, List.forall_mem_cons.mpr ⟨lw_p169, List.forall_mem_cons.mpr ⟨lw_p170, List.forall_mem_cons.mpr ⟨lw_p171, List.forall_mem_cons.mpr ⟨lw_p172, List.forall_mem_cons.mpr ⟨lw_p173, List.forall_mem_cons.mpr ⟨lw_p174, List.forall_mem_cons.mpr ⟨lw_p175, fun _ h => absurd h List.not_mem_nil⟩⟩⟩⟩⟩⟩⟩⟩⟩⟩⟩⟩⟩⟩⟩⟩
theorem lw_p176 : lw_okq (⟨"JinjaTongueModel", "is", "(I)Z"⟩, 134) := ⟨⟨by decide +kernel, by decide +kernel⟩, List.mem_of_getElem? (i := 2088) (by decide +kernel), List.mem_of_getElem? (i := 2639) (by decide +kernel), List.mem_of_getElem? (i := 2640) (by decide +kernel)⟩
theorem lw_p177 : lw_okq (⟨"JinjaTongueModel", "listOfNames", "()I"⟩, 134) := ⟨⟨by decide +kernel, by decide +kernel⟩, List.mem_of_getElem? (i := 2088) (by decide +kernel), List.mem_of_getElem? (i := 2643) (by decide +kernel), List.mem_of_getElem? (i := 2644) (by decide +kernel)⟩
theorem lw_p178 : lw_okq (⟨"JinjaTongueModel", "member", "(I)V"⟩, 134) := ⟨⟨by decide +kernel, by decide +kernel⟩, List.mem_of_getElem? (i := 2088) (by decide +kernel), List.mem_of_getElem? (i := 2647) (by decide +kernel), List.mem_of_getElem? (i := 2648) (by decide +kernel)⟩
theorem lw_p179 : lw_okq (⟨"JinjaTongueModel", "typeHere", "()I"⟩, 134) := ⟨⟨by decide +kernel, by decide +kernel⟩, List.mem_of_getElem? (i := 2088) (by decide +kernel), List.mem_of_getElem? (i := 2651) (by decide +kernel), List.mem_of_getElem? (i := 2652) (by decide +kernel)⟩
theorem lw_p180 : lw_okq (⟨"JinjaTongueModel", "isSort", "()Z"⟩, 134) := ⟨⟨by decide +kernel, by decide +kernel⟩, List.mem_of_getElem? (i := 2088) (by decide +kernel), List.mem_of_getElem? (i := 2655) (by decide +kernel), List.mem_of_getElem? (i := 2656) (by decide +kernel)⟩
theorem lw_p181 : lw_okq (⟨"JinjaTongueModel", "method", "(III)V"⟩, 134) := ⟨⟨by decide +kernel, by decide +kernel⟩, List.mem_of_getElem? (i := 2088) (by decide +kernel), List.mem_of_getElem? (i := 2659) (by decide +kernel), List.mem_of_getElem? (i := 2660) (by decide +kernel)⟩
theorem lw_p182 : lw_okq (⟨"JinjaTongueModel", "block", "()I"⟩, 134) := ⟨⟨by decide +kernel, by decide +kernel⟩, List.mem_of_getElem? (i := 2088) (by decide +kernel), List.mem_of_getElem? (i := 2663) (by decide +kernel), List.mem_of_getElem? (i := 2664) (by decide +kernel)⟩
theorem lw_p183 : lw_okq (⟨"JinjaTongueModel", "node", "(IIIII)I"⟩, 134) := ⟨⟨by decide +kernel, by decide +kernel⟩, List.mem_of_getElem? (i := 2088) (by decide +kernel), List.mem_of_getElem? (i := 2667) (by decide +kernel), List.mem_of_getElem? (i := 2668) (by decide +kernel)⟩
theorem lw_p184 : lw_okq (⟨"JinjaTongueModel", "part", "()I"⟩, 134) := ⟨⟨by decide +kernel, by decide +kernel⟩, List.mem_of_getElem? (i := 2088) (by decide +kernel), List.mem_of_getElem? (i := 2671) (by decide +kernel), List.mem_of_getElem? (i := 2672) (by decide +kernel)⟩
theorem lw_p185 : lw_okq (⟨"JinjaTongueModel", "isTyped", "()Z"⟩, 134) := ⟨⟨by decide +kernel, by decide +kernel⟩, List.mem_of_getElem? (i := 2088) (by decide +kernel), List.mem_of_getElem? (i := 2675) (by decide +kernel), List.mem_of_getElem? (i := 2676) (by decide +kernel)⟩
theorem lw_p186 : lw_okq (⟨"JinjaTongueModel", "statement", "()I"⟩, 134) := ⟨⟨by decide +kernel, by decide +kernel⟩, List.mem_of_getElem? (i := 2088) (by decide +kernel), List.mem_of_getElem? (i := 2679) (by decide +kernel), List.mem_of_getElem? (i := 2680) (by decide +kernel)⟩
theorem lw_p187 : lw_okq (⟨"JinjaTongueModel", "isBegin", "()Z"⟩, 134) := ⟨⟨by decide +kernel, by decide +kernel⟩, List.mem_of_getElem? (i := 2088) (by decide +kernel), List.mem_of_getElem? (i := 2683) (by decide +kernel), List.mem_of_getElem? (i := 2684) (by decide +kernel)⟩
theorem lw_p188 : lw_okq (⟨"JinjaTongueModel", "isOperand", "()Z"⟩, 134) := ⟨⟨by decide +kernel, by decide +kernel⟩, List.mem_of_getElem? (i := 2088) (by decide +kernel), List.mem_of_getElem? (i := 2687) (by decide +kernel), List.mem_of_getElem? (i := 2688) (by decide +kernel)⟩
theorem lw_p189 : lw_okq (⟨"JinjaTongueModel", "deeper", "()V"⟩, 134) := ⟨⟨by decide +kernel, by decide +kernel⟩, List.mem_of_getElem? (i := 2088) (by decide +kernel), List.mem_of_getElem? (i := 2691) (by decide +kernel), List.mem_of_getElem? (i := 2692) (by decide +kernel)⟩
theorem lw_p190 : lw_okq (⟨"JinjaTongueModel", "statementOf", "()I"⟩, 134) := ⟨⟨by decide +kernel, by decide +kernel⟩, List.mem_of_getElem? (i := 2088) (by decide +kernel), List.mem_of_getElem? (i := 2695) (by decide +kernel), List.mem_of_getElem? (i := 2696) (by decide +kernel)⟩
theorem lw_p191 : lw_okq (⟨"JinjaTongueModel", "choice", "()I"⟩, 134) := ⟨⟨by decide +kernel, by decide +kernel⟩, List.mem_of_getElem? (i := 2088) (by decide +kernel), List.mem_of_getElem? (i := 2699) (by decide +kernel), List.mem_of_getElem? (i := 2700) (by decide +kernel)⟩
def lw_privs_12 : List (MethodName × Nat) := [(⟨"JinjaTongueModel", "is", "(I)Z"⟩, 134), (⟨"JinjaTongueModel", "listOfNames", "()I"⟩, 134), (⟨"JinjaTongueModel", "member", "(I)V"⟩, 134), (⟨"JinjaTongueModel", "typeHere", "()I"⟩, 134), (⟨"JinjaTongueModel", "isSort", "()Z"⟩, 134), (⟨"JinjaTongueModel", "method", "(III)V"⟩, 134), (⟨"JinjaTongueModel", "block", "()I"⟩, 134), (⟨"JinjaTongueModel", "node", "(IIIII)I"⟩, 134), (⟨"JinjaTongueModel", "part", "()I"⟩, 134), (⟨"JinjaTongueModel", "isTyped", "()Z"⟩, 134), (⟨"JinjaTongueModel", "statement", "()I"⟩, 134), (⟨"JinjaTongueModel", "isBegin", "()Z"⟩, 134), (⟨"JinjaTongueModel", "isOperand", "()Z"⟩, 134), (⟨"JinjaTongueModel", "deeper", "()V"⟩, 134), (⟨"JinjaTongueModel", "statementOf", "()I"⟩, 134), (⟨"JinjaTongueModel", "choice", "()I"⟩, 134)]
theorem lw_r12 : ∀ q ∈ lw_privs_12, lw_okq q := List.forall_mem_cons.mpr ⟨lw_p176, List.forall_mem_cons.mpr ⟨lw_p177, List.forall_mem_cons.mpr ⟨lw_p178, List.forall_mem_cons.mpr ⟨lw_p179, List.forall_mem_cons.mpr ⟨lw_p180, List.forall_mem_cons.mpr ⟨lw_p181, List.forall_mem_cons.mpr ⟨lw_p182, List.forall_mem_cons.mpr ⟨lw_p183, List.forall_mem_cons.mpr ⟨lw_p184, List.forall_mem_cons.mpr ⟨lw_p185, List.forall_mem_cons.mpr ⟨lw_p186, List.forall_mem_cons.mpr ⟨lw_p187, List.forall_mem_cons.mpr ⟨lw_p188, List.forall_mem_cons.mpr ⟨lw_p189, List.forall_mem_cons.mpr ⟨lw_p190, List.forall_mem_cons.mpr ⟨lw_p191, fun _ h => absurd h List.not_mem_nil⟩⟩⟩⟩⟩⟩⟩⟩⟩⟩⟩⟩⟩⟩⟩⟩
theorem lw_p192 : lw_okq (⟨"JinjaTongueModel", "level", "(I)I"⟩, 134) := ⟨⟨by decide +kernel, by decide +kernel⟩, List.mem_of_getElem? (i := 2088) (by decide +kernel), List.mem_of_getElem? (i := 2703) (by decide +kernel), List.mem_of_getElem? (i := 2704) (by decide +kernel)⟩
theorem lw_p193 : lw_okq (⟨"JinjaTongueModel", "front", "()I"⟩, 134) := ⟨⟨by decide +kernel, by decide +kernel⟩, List.mem_of_getElem? (i := 2088) (by decide +kernel), List.mem_of_getElem? (i := 2707) (by decide +kernel), List.mem_of_getElem? (i := 2708) (by decide +kernel)⟩
theorem lw_p194 : lw_okq (⟨"JinjaTongueModel", "chain", "()I"⟩, 134) := ⟨⟨by decide +kernel, by decide +kernel⟩, List.mem_of_getElem? (i := 2088) (by decide +kernel), List.mem_of_getElem? (i := 2711) (by decide +kernel), List.mem_of_getElem? (i := 2712) (by decide +kernel)⟩
theorem lw_p195 : lw_okq (⟨"JinjaTongueModel", "operand", "()I"⟩, 134) := ⟨⟨by decide +kernel, by decide +kernel⟩, List.mem_of_getElem? (i := 2088) (by decide +kernel), List.mem_of_getElem? (i := 2715) (by decide +kernel), List.mem_of_getElem? (i := 2716) (by decide +kernel)⟩
theorem lw_p196 : lw_okq (⟨"JinjaTongueModel", "arguments", "(I)V"⟩, 134) := ⟨⟨by decide +kernel, by decide +kernel⟩, List.mem_of_getElem? (i := 2088) (by decide +kernel), List.mem_of_getElem? (i := 2719) (by decide +kernel), List.mem_of_getElem? (i := 2720) (by decide +kernel)⟩
theorem lw_p197 : lw_okq (⟨"JinjaTongueModel", "newHere", "(I)I"⟩, 134) := ⟨⟨by decide +kernel, by decide +kernel⟩, List.mem_of_getElem? (i := 2088) (by decide +kernel), List.mem_of_getElem? (i := 2723) (by decide +kernel), List.mem_of_getElem? (i := 2724) (by decide +kernel)⟩
theorem lw_p198 : lw_okq (⟨"JinjaTongueModel", "linked", "()V"⟩, 134) := ⟨⟨by decide +kernel, by decide +kernel⟩, List.mem_of_getElem? (i := 2088) (by decide +kernel), List.mem_of_getElem? (i := 2727) (by decide +kernel), List.mem_of_getElem? (i := 2728) (by decide +kernel)⟩
theorem lw_p199 : lw_okq (⟨"JinjaTongueModel", "loop", "()I"⟩, 134) := ⟨⟨by decide +kernel, by decide +kernel⟩, List.mem_of_getElem? (i := 2088) (by decide +kernel), List.mem_of_getElem? (i := 2734) (by decide +kernel), List.mem_of_getElem? (i := 2735) (by decide +kernel)⟩
theorem lw_p200 : lw_okq (⟨"JinjaTongueModel", "simple", "(Z)I"⟩, 134) := ⟨⟨by decide +kernel, by decide +kernel⟩, List.mem_of_getElem? (i := 2088) (by decide +kernel), List.mem_of_getElem? (i := 2738) (by decide +kernel), List.mem_of_getElem? (i := 2739) (by decide +kernel)⟩
theorem lw_p201 : lw_okq (⟨"JinjaTongueModel", "attempt", "()I"⟩, 134) := ⟨⟨by decide +kernel, by decide +kernel⟩, List.mem_of_getElem? (i := 2088) (by decide +kernel), List.mem_of_getElem? (i := 2742) (by decide +kernel), List.mem_of_getElem? (i := 2743) (by decide +kernel)⟩
theorem lw_p202 : lw_okq (⟨"JinjaTongueModel", "local", "(I)I"⟩, 134) := ⟨⟨by decide +kernel, by decide +kernel⟩, List.mem_of_getElem? (i := 2088) (by decide +kernel), List.mem_of_getElem? (i := 2746) (by decide +kernel), List.mem_of_getElem? (i := 2747) (by decide +kernel)⟩
theorem lw_p203 : lw_okq (⟨"JinjaTongueModel", "firstRound", "()V"⟩, 134) := ⟨⟨by decide +kernel, by decide +kernel⟩, List.mem_of_getElem? (i := 2088) (by decide +kernel), List.mem_of_getElem? (i := 2750) (by decide +kernel), List.mem_of_getElem? (i := 2751) (by decide +kernel)⟩
theorem lw_p204 : lw_okq (⟨"JinjaTongueModel", "declOf", "(I)I"⟩, 134) := ⟨⟨by decide +kernel, by decide +kernel⟩, List.mem_of_getElem? (i := 2088) (by decide +kernel), List.mem_of_getElem? (i := 2754) (by decide +kernel), List.mem_of_getElem? (i := 2755) (by decide +kernel)⟩
theorem lw_p205 : lw_okq (⟨"JinjaTongueModel", "note", "(II)V"⟩, 134) := ⟨⟨by decide +kernel, by decide +kernel⟩, List.mem_of_getElem? (i := 2088) (by decide +kernel), List.mem_of_getElem? (i := 2758) (by decide +kernel), List.mem_of_getElem? (i := 2759) (by decide +kernel)⟩
theorem lw_p206 : lw_okq (⟨"JinjaTongueModel", "namesOf", "(IZ)V"⟩, 134) := ⟨⟨by decide +kernel, by decide +kernel⟩, List.mem_of_getElem? (i := 2088) (by decide +kernel), List.mem_of_getElem? (i := 2762) (by decide +kernel), List.mem_of_getElem? (i := 2763) (by decide +kernel)⟩
theorem lw_p207 : lw_okq (⟨"JinjaTongueModel", "known", "(I)I"⟩, 134) := ⟨⟨by decide +kernel, by decide +kernel⟩, List.mem_of_getElem? (i := 2088) (by decide +kernel), List.mem_of_getElem? (i := 2766) (by decide +kernel), List.mem_of_getElem? (i := 2767) (by decide +kernel)⟩
def lw_privs_13 : List (MethodName × Nat) := [(⟨"JinjaTongueModel", "level", "(I)I"⟩, 134), (⟨"JinjaTongueModel", "front", "()I"⟩, 134), (⟨"JinjaTongueModel", "chain", "()I"⟩, 134), (⟨"JinjaTongueModel", "operand", "()I"⟩, 134), (⟨"JinjaTongueModel", "arguments", "(I)V"⟩, 134), (⟨"JinjaTongueModel", "newHere", "(I)I"⟩, 134), (⟨"JinjaTongueModel", "linked", "()V"⟩, 134), (⟨"JinjaTongueModel", "loop", "()I"⟩, 134), (⟨"JinjaTongueModel", "simple", "(Z)I"⟩, 134), (⟨"JinjaTongueModel", "attempt", "()I"⟩, 134), (⟨"JinjaTongueModel", "local", "(I)I"⟩, 134), (⟨"JinjaTongueModel", "firstRound", "()V"⟩, 134), (⟨"JinjaTongueModel", "declOf", "(I)I"⟩, 134), (⟨"JinjaTongueModel", "note", "(II)V"⟩, 134), (⟨"JinjaTongueModel", "namesOf", "(IZ)V"⟩, 134), (⟨"JinjaTongueModel", "known", "(I)I"⟩, 134)]
theorem lw_r13 : ∀ q ∈ lw_privs_13, lw_okq q := List.forall_mem_cons.mpr ⟨lw_p192, List.forall_mem_cons.mpr ⟨lw_p193, List.forall_mem_cons.mpr ⟨lw_p194, List.forall_mem_cons.mpr ⟨lw_p195, List.forall_mem_cons.mpr ⟨lw_p196, List.forall_mem_cons.mpr ⟨lw_p197, List.forall_mem_cons.mpr ⟨lw_p198, List.forall_mem_cons.mpr ⟨lw_p199, List.forall_mem_cons.mpr ⟨lw_p200, List.forall_mem_cons.mpr ⟨lw_p201, List.forall_mem_cons.mpr ⟨lw_p202, List.forall_mem_cons.mpr ⟨lw_p203, List.forall_mem_cons.mpr ⟨lw_p204, List.forall_mem_cons.mpr ⟨lw_p205, List.forall_mem_cons.mpr ⟨lw_p206, List.forall_mem_cons.mpr ⟨lw_p207, fun _ h => absurd h List.not_mem_nil⟩⟩⟩⟩⟩⟩⟩⟩⟩⟩⟩⟩⟩⟩⟩⟩
theorem lw_p208 : lw_okq (⟨"JinjaTongueModel", "ends", "()Z"⟩, 134) := ⟨⟨by decide +kernel, by decide +kernel⟩, List.mem_of_getElem? (i := 2088) (by decide +kernel), List.mem_of_getElem? (i := 2770) (by decide +kernel), List.mem_of_getElem? (i := 2771) (by decide +kernel)⟩
theorem lw_p209 : lw_okq (⟨"JinjaTongueModel", "findAbove", "()V"⟩, 134) := ⟨⟨by decide +kernel, by decide +kernel⟩, List.mem_of_getElem? (i := 2088) (by decide +kernel), List.mem_of_getElem? (i := 2774) (by decide +kernel), List.mem_of_getElem? (i := 2775) (by decide +kernel)⟩
theorem lw_p210 : lw_okq (⟨"JinjaTongueModel", "isAbove", "(II)Z"⟩, 134) := ⟨⟨by decide +kernel, by decide +kernel⟩, List.mem_of_getElem? (i := 2088) (by decide +kernel), List.mem_of_getElem? (i := 2778) (by decide +kernel), List.mem_of_getElem? (i := 2779) (by decide +kernel)⟩
theorem lw_p211 : lw_okq (⟨"JinjaTongueModel", "thirdRound", "()V"⟩, 134) := ⟨⟨by decide +kernel, by decide +kernel⟩, List.mem_of_getElem? (i := 2088) (by decide +kernel), List.mem_of_getElem? (i := 2782) (by decide +kernel), List.mem_of_getElem? (i := 2783) (by decide +kernel)⟩
theorem lw_p212 : lw_okq (⟨"JinjaTongueModel", "isAlike", "(II)Z"⟩, 134) := ⟨⟨by decide +kernel, by decide +kernel⟩, List.mem_of_getElem? (i := 2088) (by decide +kernel), List.mem_of_getElem? (i := 2786) (by decide +kernel), List.mem_of_getElem? (i := 2787) (by decide +kernel)⟩
theorem lw_p213 : lw_okq (⟨"JinjaTongueModel", "resultOf", "(I)I"⟩, 134) := ⟨⟨by decide +kernel, by decide +kernel⟩, List.mem_of_getElem? (i := 2088) (by decide +kernel), List.mem_of_getElem? (i := 2790) (by decide +kernel), List.mem_of_getElem? (i := 2791) (by decide +kernel)⟩
theorem lw_p214 : lw_okq (⟨"JinjaTongueModel", "methodOf", "(II)I"⟩, 134) := ⟨⟨by decide +kernel, by decide +kernel⟩, List.mem_of_getElem? (i := 2088) (by decide +kernel), List.mem_of_getElem? (i := 2794) (by decide +kernel), List.mem_of_getElem? (i := 2795) (by decide +kernel)⟩
theorem lw_p215 : lw_okq (⟨"JinjaTongueModel", "lookBodies", "()V"⟩, 134) := ⟨⟨by decide +kernel, by decide +kernel⟩, List.mem_of_getElem? (i := 2088) (by decide +kernel), List.mem_of_getElem? (i := 2798) (by decide +kernel), List.mem_of_getElem? (i := 2799) (by decide +kernel)⟩
theorem lw_p216 : lw_okq (⟨"JinjaTongueModel", "comes", "(IIZ)I"⟩, 134) := ⟨⟨by decide +kernel, by decide +kernel⟩, List.mem_of_getElem? (i := 2088) (by decide +kernel), List.mem_of_getElem? (i := 2802) (by decide +kernel), List.mem_of_getElem? (i := 2803) (by decide +kernel)⟩
theorem lw_p217 : lw_okq (⟨"JinjaTongueModel", "judge", "(ZII)Z"⟩, 134) := ⟨⟨by decide +kernel, by decide +kernel⟩, List.mem_of_getElem? (i := 2088) (by decide +kernel), List.mem_of_getElem? (i := 2806) (by decide +kernel), List.mem_of_getElem? (i := 2807) (by decide +kernel)⟩
theorem lw_p218 : lw_okq (⟨"JinjaTongueModel", "lookStatement", "(I)V"⟩, 134) := ⟨⟨by decide +kernel, by decide +kernel⟩, List.mem_of_getElem? (i := 2088) (by decide +kernel), List.mem_of_getElem? (i := 2811) (by decide +kernel), List.mem_of_getElem? (i := 2812) (by decide +kernel)⟩
theorem lw_p219 : lw_okq (⟨"JinjaTongueModel", "lookLocal", "(I)V"⟩, 134) := ⟨⟨by decide +kernel, by decide +kernel⟩, List.mem_of_getElem? (i := 2088) (by decide +kernel), List.mem_of_getElem? (i := 2815) (by decide +kernel), List.mem_of_getElem? (i := 2816) (by decide +kernel)⟩
theorem lw_p220 : lw_okq (⟨"JinjaTongueModel", "look", "(I)I"⟩, 134) := ⟨⟨by decide +kernel, by decide +kernel⟩, List.mem_of_getElem? (i := 2088) (by decide +kernel), List.mem_of_getElem? (i := 2819) (by decide +kernel), List.mem_of_getElem? (i := 2820) (by decide +kernel)⟩
theorem lw_p221 : lw_okq (⟨"JinjaTongueModel", "lookAt", "(I)I"⟩, 134) := ⟨⟨by decide +kernel, by decide +kernel⟩, List.mem_of_getElem? (i := 2088) (by decide +kernel), List.mem_of_getElem? (i := 2823) (by decide +kernel), List.mem_of_getElem? (i := 2824) (by decide +kernel)⟩
theorem lw_p222 : lw_okq (⟨"JinjaTongueModel", "behind", "(I)I"⟩, 134) := ⟨⟨by decide +kernel, by decide +kernel⟩, List.mem_of_getElem? (i := 2088) (by decide +kernel), List.mem_of_getElem? (i := 2827) (by decide +kernel), List.mem_of_getElem? (i := 2828) (by decide +kernel)⟩
theorem lw_p223 : lw_okq (⟨"JinjaTongueModel", "named", "(IZ)I"⟩, 134) := ⟨⟨by decide +kernel, by decide +kernel⟩, List.mem_of_getElem? (i := 2088) (by decide +kernel), List.mem_of_getElem? (i := 2831) (by decide +kernel), List.mem_of_getElem? (i := 2832) (by decide +kernel)⟩
def lw_privs_14 : List (MethodName × Nat) := [(⟨"JinjaTongueModel", "ends", "()Z"⟩, 134), (⟨"JinjaTongueModel", "findAbove", "()V"⟩, 134), (⟨"JinjaTongueModel", "isAbove", "(II)Z"⟩, 134), (⟨"JinjaTongueModel", "thirdRound", "()V"⟩, 134), (⟨"JinjaTongueModel", "isAlike", "(II)Z"⟩, 134), (⟨"JinjaTongueModel", "resultOf", "(I)I"⟩, 134), (⟨"JinjaTongueModel", "methodOf", "(II)I"⟩, 134), (⟨"JinjaTongueModel", "lookBodies", "()V"⟩, 134), (⟨"JinjaTongueModel", "comes", "(IIZ)I"⟩, 134), (⟨"JinjaTongueModel", "judge", "(ZII)Z"⟩, 134), (⟨"JinjaTongueModel", "lookStatement", "(I)V"⟩, 134), (⟨"JinjaTongueModel", "lookLocal", "(I)V"⟩, 134), (⟨"JinjaTongueModel", "look", "(I)I"⟩, 134), (⟨"JinjaTongueModel", "lookAt", "(I)I"⟩, 134), (⟨"JinjaTongueModel", "behind", "(I)I"⟩, 134), (⟨"JinjaTongueModel", "named", "(IZ)I"⟩, 134)]
theorem lw_r14 : ∀ q ∈ lw_privs_14, lw_okq q := List.forall_mem_cons.mpr ⟨lw_p208, List.forall_mem_cons.mpr ⟨lw_p209, List.forall_mem_cons.mpr ⟨lw_p210, List.forall_mem_cons.mpr ⟨lw_p211, List.forall_mem_cons.mpr ⟨lw_p212, List.forall_mem_cons.mpr ⟨lw_p213, List.forall_mem_cons.mpr ⟨lw_p214, List.forall_mem_cons.mpr ⟨lw_p215, List.forall_mem_cons.mpr ⟨lw_p216, List.forall_mem_cons.mpr ⟨lw_p217, List.forall_mem_cons.mpr ⟨lw_p218, List.forall_mem_cons.mpr ⟨lw_p219, List.forall_mem_cons.mpr ⟨lw_p220, List.forall_mem_cons.mpr ⟨lw_p221, List.forall_mem_cons.mpr ⟨lw_p222, List.forall_mem_cons.mpr ⟨lw_p223, fun _ h => absurd h List.not_mem_nil⟩⟩⟩⟩⟩⟩⟩⟩⟩⟩⟩⟩⟩⟩⟩⟩
theorem lw_p224 : lw_okq (⟨"JinjaTongueModel", "variableOf", "(I)I"⟩, 134) := ⟨⟨by decide +kernel, by decide +kernel⟩, List.mem_of_getElem? (i := 2088) (by decide +kernel), List.mem_of_getElem? (i := 2835) (by decide +kernel), List.mem_of_getElem? (i := 2836) (by decide +kernel)⟩
theorem lw_p225 : lw_okq (⟨"JinjaTongueModel", "fieldOf", "(II)I"⟩, 134) := ⟨⟨by decide +kernel, by decide +kernel⟩, List.mem_of_getElem? (i := 2088) (by decide +kernel), List.mem_of_getElem? (i := 2839) (by decide +kernel), List.mem_of_getElem? (i := 2840) (by decide +kernel)⟩
theorem lw_p226 : lw_okq (⟨"JinjaTongueModel", "lookCall", "(II)I"⟩, 134) := ⟨⟨by decide +kernel, by decide +kernel⟩, List.mem_of_getElem? (i := 2088) (by decide +kernel), List.mem_of_getElem? (i := 2843) (by decide +kernel), List.mem_of_getElem? (i := 2844) (by decide +kernel)⟩
theorem lw_p227 : lw_okq (⟨"JinjaTongueModel", "anyMethod", "(II)I"⟩, 134) := ⟨⟨by decide +kernel, by decide +kernel⟩, List.mem_of_getElem? (i := 2088) (by decide +kernel), List.mem_of_getElem? (i := 2847) (by decide +kernel), List.mem_of_getElem? (i := 2848) (by decide +kernel)⟩
theorem lw_p228 : lw_okq (⟨"JinjaTongueModel", "fits", "(II)Z"⟩, 134) := ⟨⟨by decide +kernel, by decide +kernel⟩, List.mem_of_getElem? (i := 2088) (by decide +kernel), List.mem_of_getElem? (i := 2851) (by decide +kernel), List.mem_of_getElem? (i := 2852) (by decide +kernel)⟩
theorem lw_p229 : lw_okq (⟨"JinjaTongueModel", "isReference", "(I)Z"⟩, 134) := ⟨⟨by decide +kernel, by decide +kernel⟩, List.mem_of_getElem? (i := 2088) (by decide +kernel), List.mem_of_getElem? (i := 2855) (by decide +kernel), List.mem_of_getElem? (i := 2856) (by decide +kernel)⟩
theorem lw_p230 : lw_okq (⟨"JinjaTongueModel", "wants", "(II)V"⟩, 134) := ⟨⟨by decide +kernel, by decide +kernel⟩, List.mem_of_getElem? (i := 2088) (by decide +kernel), List.mem_of_getElem? (i := 2865) (by decide +kernel), List.mem_of_getElem? (i := 2866) (by decide +kernel)⟩
theorem lw_p231 : lw_okq (⟨"JinjaTongueModel", "fielded", "(I)I"⟩, 134) := ⟨⟨by decide +kernel, by decide +kernel⟩, List.mem_of_getElem? (i := 2088) (by decide +kernel), List.mem_of_getElem? (i := 2869) (by decide +kernel), List.mem_of_getElem? (i := 2870) (by decide +kernel)⟩
theorem lw_p232 : lw_okq (⟨"JinjaTongueModel", "indexed", "(I)I"⟩, 134) := ⟨⟨by decide +kernel, by decide +kernel⟩, List.mem_of_getElem? (i := 2088) (by decide +kernel), List.mem_of_getElem? (i := 2873) (by decide +kernel), List.mem_of_getElem? (i := 2874) (by decide +kernel)⟩
theorem lw_p233 : lw_okq (⟨"JinjaTongueModel", "lookFront", "(I)I"⟩, 134) := ⟨⟨by decide +kernel, by decide +kernel⟩, List.mem_of_getElem? (i := 2088) (by decide +kernel), List.mem_of_getElem? (i := 2877) (by decide +kernel), List.mem_of_getElem? (i := 2878) (by decide +kernel)⟩
theorem lw_p234 : lw_okq (⟨"JinjaTongueModel", "two", "(I)I"⟩, 134) := ⟨⟨by decide +kernel, by decide +kernel⟩, List.mem_of_getElem? (i := 2088) (by decide +kernel), List.mem_of_getElem? (i := 2881) (by decide +kernel), List.mem_of_getElem? (i := 2882) (by decide +kernel)⟩
theorem lw_p235 : lw_okq (⟨"JinjaTongueModel", "areSides", "(II)Z"⟩, 134) := ⟨⟨by decide +kernel, by decide +kernel⟩, List.mem_of_getElem? (i := 2088) (by decide +kernel), List.mem_of_getElem? (i := 2885) (by decide +kernel), List.mem_of_getElem? (i := 2886) (by decide +kernel)⟩
theorem lw_p236 : lw_okq (⟨"JinjaTongueModel", "joined", "(I)I"⟩, 134) := ⟨⟨by decide +kernel, by decide +kernel⟩, List.mem_of_getElem? (i := 2088) (by decide +kernel), List.mem_of_getElem? (i := 2889) (by decide +kernel), List.mem_of_getElem? (i := 2890) (by decide +kernel)⟩
theorem lw_p237 : lw_okq (⟨"JinjaTongueModel", "chosen", "(I)I"⟩, 134) := ⟨⟨by decide +kernel, by decide +kernel⟩, List.mem_of_getElem? (i := 2088) (by decide +kernel), List.mem_of_getElem? (i := 2893) (by decide +kernel), List.mem_of_getElem? (i := 2894) (by decide +kernel)⟩
theorem lw_p238 : lw_okq (⟨"JinjaTongueModel", "lookAtRow", "(I)V"⟩, 134) := ⟨⟨by decide +kernel, by decide +kernel⟩, List.mem_of_getElem? (i := 2088) (by decide +kernel), List.mem_of_getElem? (i := 2897) (by decide +kernel), List.mem_of_getElem? (i := 2898) (by decide +kernel)⟩
theorem lw_p239 : lw_okq (⟨"JinjaTongueModel", "lookSet", "(I)V"⟩, 134) := ⟨⟨by decide +kernel, by decide +kernel⟩, List.mem_of_getElem? (i := 2088) (by decide +kernel), List.mem_of_getElem? (i := 2901) (by decide +kernel), List.mem_of_getElem? (i := 2902) (by decide +kernel)⟩
def lw_privs_15 : List (MethodName × Nat) := [(⟨"JinjaTongueModel", "variableOf", "(I)I"⟩, 134), (⟨"JinjaTongueModel", "fieldOf", "(II)I"⟩, 134), (⟨"JinjaTongueModel", "lookCall", "(II)I"⟩, 134), (⟨"JinjaTongueModel", "anyMethod", "(II)I"⟩, 134), (⟨"JinjaTongueModel", "fits", "(II)Z"⟩, 134), (⟨"JinjaTongueModel", "isReference", "(I)Z"⟩, 134), (⟨"JinjaTongueModel", "wants", "(II)V"⟩, 134), (⟨"JinjaTongueModel", "fielded", "(I)I"⟩, 134), (⟨"JinjaTongueModel", "indexed", "(I)I"⟩, 134), (⟨"JinjaTongueModel", "lookFront", "(I)I"⟩, 134), (⟨"JinjaTongueModel", "two", "(I)I"⟩, 134), (⟨"JinjaTongueModel", "areSides", "(II)Z"⟩, 134), (⟨"JinjaTongueModel", "joined", "(I)I"⟩, 134), (⟨"JinjaTongueModel", "chosen", "(I)I"⟩, 134), (⟨"JinjaTongueModel", "lookAtRow", "(I)V"⟩, 134), (⟨"JinjaTongueModel", "lookSet", "(I)V"⟩, 134)]
theorem lw_r15 : ∀ q ∈ lw_privs_15, lw_okq q := List.forall_mem_cons.mpr ⟨lw_p224, List.forall_mem_cons.mpr ⟨lw_p225, List.forall_mem_cons.mpr ⟨lw_p226, List.forall_mem_cons.mpr ⟨lw_p227, List.forall_mem_cons.mpr ⟨lw_p228, List.forall_mem_cons.mpr ⟨lw_p229, List.forall_mem_cons.mpr ⟨lw_p230, List.forall_mem_cons.mpr ⟨lw_p231, List.forall_mem_cons.mpr ⟨lw_p232, List.forall_mem_cons.mpr ⟨lw_p233, List.forall_mem_cons.mpr ⟨lw_p234, List.forall_mem_cons.mpr ⟨lw_p235, List.forall_mem_cons.mpr ⟨lw_p236, List.forall_mem_cons.mpr ⟨lw_p237, List.forall_mem_cons.mpr ⟨lw_p238, List.forall_mem_cons.mpr ⟨lw_p239, fun _ h => absurd h List.not_mem_nil⟩⟩⟩⟩⟩⟩⟩⟩⟩⟩⟩⟩⟩⟩⟩⟩
theorem lw_p240 : lw_okq (⟨"JinjaTongueModel", "condition", "(I)V"⟩, 134) := ⟨⟨by decide +kernel, by decide +kernel⟩, List.mem_of_getElem? (i := 2088) (by decide +kernel), List.mem_of_getElem? (i := 2905) (by decide +kernel), List.mem_of_getElem? (i := 2906) (by decide +kernel)⟩
theorem lw_p241 : lw_okq (⟨"JinjaTongueModel", "lookWhile", "(I)V"⟩, 134) := ⟨⟨by decide +kernel, by decide +kernel⟩, List.mem_of_getElem? (i := 2088) (by decide +kernel), List.mem_of_getElem? (i := 2909) (by decide +kernel), List.mem_of_getElem? (i := 2910) (by decide +kernel)⟩
theorem lw_p242 : lw_okq (⟨"JinjaTongueModel", "lookFor", "(I)V"⟩, 134) := ⟨⟨by decide +kernel, by decide +kernel⟩, List.mem_of_getElem? (i := 2088) (by decide +kernel), List.mem_of_getElem? (i := 2913) (by decide +kernel), List.mem_of_getElem? (i := 2914) (by decide +kernel)⟩
theorem lw_p243 : lw_okq (⟨"JinjaTongueModel", "lookTry", "(I)V"⟩, 134) := ⟨⟨by decide +kernel, by decide +kernel⟩, List.mem_of_getElem? (i := 2088) (by decide +kernel), List.mem_of_getElem? (i := 2917) (by decide +kernel), List.mem_of_getElem? (i := 2918) (by decide +kernel)⟩
theorem lw_p244 : lw_okq (⟨"JinjaTongueModel", "comesAs", "(I)I"⟩, 134) := ⟨⟨by decide +kernel, by decide +kernel⟩, List.mem_of_getElem? (i := 2088) (by decide +kernel), List.mem_of_getElem? (i := 2921) (by decide +kernel), List.mem_of_getElem? (i := 2922) (by decide +kernel)⟩
theorem lw_p245 : lw_okq (⟨"JinjaTongueModel", "fieldsOf", "(I)I"⟩, 134) := ⟨⟨by decide +kernel, by decide +kernel⟩, List.mem_of_getElem? (i := 2088) (by decide +kernel), List.mem_of_getElem? (i := 2925) (by decide +kernel), List.mem_of_getElem? (i := 2926) (by decide +kernel)⟩
theorem lw_p246 : lw_okq (⟨"JinjaTongueModel", "parents", "(I)V"⟩, 134) := ⟨⟨by decide +kernel, by decide +kernel⟩, List.mem_of_getElem? (i := 2088) (by decide +kernel), List.mem_of_getElem? (i := 2929) (by decide +kernel), List.mem_of_getElem? (i := 2930) (by decide +kernel)⟩
theorem lw_p247 : lw_okq (⟨"JinjaTongueModel", "lieAll", "(II)V"⟩, 134) := ⟨⟨by decide +kernel, by decide +kernel⟩, List.mem_of_getElem? (i := 2088) (by decide +kernel), List.mem_of_getElem? (i := 2933) (by decide +kernel), List.mem_of_getElem? (i := 2934) (by decide +kernel)⟩
theorem lw_p248 : lw_okq (⟨"JinjaTongueModel", "lies", "(II)V"⟩, 134) := ⟨⟨by decide +kernel, by decide +kernel⟩, List.mem_of_getElem? (i := 2088) (by decide +kernel), List.mem_of_getElem? (i := 2937) (by decide +kernel), List.mem_of_getElem? (i := 2938) (by decide +kernel)⟩
theorem lw_p249 : lw_okq (⟨"JinjaTongueModel", "findReferences", "()V"⟩, 134) := ⟨⟨by decide +kernel, by decide +kernel⟩, List.mem_of_getElem? (i := 2088) (by decide +kernel), List.mem_of_getElem? (i := 2941) (by decide +kernel), List.mem_of_getElem? (i := 2942) (by decide +kernel)⟩
theorem lw_p250 : lw_okq (⟨"JinjaTongueModel", "make", "(III)I"⟩, 134) := ⟨⟨by decide +kernel, by decide +kernel⟩, List.mem_of_getElem? (i := 2088) (by decide +kernel), List.mem_of_getElem? (i := 2973) (by decide +kernel), List.mem_of_getElem? (i := 2974) (by decide +kernel)⟩
theorem lw_p251 : lw_okq (⟨"JinjaTongueModel", "sweep", "()V"⟩, 134) := ⟨⟨by decide +kernel, by decide +kernel⟩, List.mem_of_getElem? (i := 2088) (by decide +kernel), List.mem_of_getElem? (i := 2978) (by decide +kernel), List.mem_of_getElem? (i := 2979) (by decide +kernel)⟩
theorem lw_p252 : lw_okq (⟨"JinjaTongueModel", "findReachable", "()V"⟩, 134) := ⟨⟨by decide +kernel, by decide +kernel⟩, List.mem_of_getElem? (i := 2088) (by decide +kernel), List.mem_of_getElem? (i := 2982) (by decide +kernel), List.mem_of_getElem? (i := 2983) (by decide +kernel)⟩
theorem lw_p253 : lw_okq (⟨"JinjaTongueModel", "see", "(I)V"⟩, 134) := ⟨⟨by decide +kernel, by decide +kernel⟩, List.mem_of_getElem? (i := 2088) (by decide +kernel), List.mem_of_getElem? (i := 2986) (by decide +kernel), List.mem_of_getElem? (i := 2987) (by decide +kernel)⟩
theorem lw_p254 : lw_okq (⟨"JinjaTongueModel", "cellsOf", "(I)I"⟩, 134) := ⟨⟨by decide +kernel, by decide +kernel⟩, List.mem_of_getElem? (i := 2088) (by decide +kernel), List.mem_of_getElem? (i := 2990) (by decide +kernel), List.mem_of_getElem? (i := 2991) (by decide +kernel)⟩
theorem lw_p255 : lw_okq (⟨"JinjaTongueModel", "pays", "()Z"⟩, 134) := ⟨⟨by decide +kernel, by decide +kernel⟩, List.mem_of_getElem? (i := 2088) (by decide +kernel), List.mem_of_getElem? (i := 2994) (by decide +kernel), List.mem_of_getElem? (i := 2995) (by decide +kernel)⟩
def lw_privs_16 : List (MethodName × Nat) := [(⟨"JinjaTongueModel", "condition", "(I)V"⟩, 134), (⟨"JinjaTongueModel", "lookWhile", "(I)V"⟩, 134), (⟨"JinjaTongueModel", "lookFor", "(I)V"⟩, 134), (⟨"JinjaTongueModel", "lookTry", "(I)V"⟩, 134), (⟨"JinjaTongueModel", "comesAs", "(I)I"⟩, 134), (⟨"JinjaTongueModel", "fieldsOf", "(I)I"⟩, 134), (⟨"JinjaTongueModel", "parents", "(I)V"⟩, 134), (⟨"JinjaTongueModel", "lieAll", "(II)V"⟩, 134), (⟨"JinjaTongueModel", "lies", "(II)V"⟩, 134), (⟨"JinjaTongueModel", "findReferences", "()V"⟩, 134), (⟨"JinjaTongueModel", "make", "(III)I"⟩, 134), (⟨"JinjaTongueModel", "sweep", "()V"⟩, 134), (⟨"JinjaTongueModel", "findReachable", "()V"⟩, 134), (⟨"JinjaTongueModel", "see", "(I)V"⟩, 134), (⟨"JinjaTongueModel", "cellsOf", "(I)I"⟩, 134), (⟨"JinjaTongueModel", "pays", "()Z"⟩, 134)]
theorem lw_r16 : ∀ q ∈ lw_privs_16, lw_okq q := List.forall_mem_cons.mpr ⟨lw_p240, List.forall_mem_cons.mpr ⟨lw_p241, List.forall_mem_cons.mpr ⟨lw_p242, List.forall_mem_cons.mpr ⟨lw_p243, List.forall_mem_cons.mpr ⟨lw_p244, List.forall_mem_cons.mpr ⟨lw_p245, List.forall_mem_cons.mpr ⟨lw_p246, List.forall_mem_cons.mpr ⟨lw_p247, List.forall_mem_cons.mpr ⟨lw_p248, List.forall_mem_cons.mpr ⟨lw_p249, List.forall_mem_cons.mpr ⟨lw_p250, List.forall_mem_cons.mpr ⟨lw_p251, List.forall_mem_cons.mpr ⟨lw_p252, List.forall_mem_cons.mpr ⟨lw_p253, List.forall_mem_cons.mpr ⟨lw_p254, List.forall_mem_cons.mpr ⟨lw_p255, fun _ h => absurd h List.not_mem_nil⟩⟩⟩⟩⟩⟩⟩⟩⟩⟩⟩⟩⟩⟩⟩⟩
theorem lw_p256 : lw_okq (⟨"JinjaTongueModel", "opens", "(III)V"⟩, 134) := ⟨⟨by decide +kernel, by decide +kernel⟩, List.mem_of_getElem? (i := 2088) (by decide +kernel), List.mem_of_getElem? (i := 2998) (by decide +kernel), List.mem_of_getElem? (i := 2999) (by decide +kernel)⟩
theorem lw_p257 : lw_okq (⟨"JinjaTongueModel", "begin", "(I)V"⟩, 134) := ⟨⟨by decide +kernel, by decide +kernel⟩, List.mem_of_getElem? (i := 2088) (by decide +kernel), List.mem_of_getElem? (i := 3002) (by decide +kernel), List.mem_of_getElem? (i := 3003) (by decide +kernel)⟩
theorem lw_p258 : lw_okq (⟨"JinjaTongueModel", "beginsNow", "(I)V"⟩, 134) := ⟨⟨by decide +kernel, by decide +kernel⟩, List.mem_of_getElem? (i := 2088) (by decide +kernel), List.mem_of_getElem? (i := 3006) (by decide +kernel), List.mem_of_getElem? (i := 3007) (by decide +kernel)⟩
theorem lw_p259 : lw_okq (⟨"JinjaTongueModel", "isFirst", "(I)Z"⟩, 134) := ⟨⟨by decide +kernel, by decide +kernel⟩, List.mem_of_getElem? (i := 2088) (by decide +kernel), List.mem_of_getElem? (i := 3010) (by decide +kernel), List.mem_of_getElem? (i := 3011) (by decide +kernel)⟩
theorem lw_p260 : lw_okq (⟨"JinjaTongueModel", "gives", "(II)V"⟩, 134) := ⟨⟨by decide +kernel, by decide +kernel⟩, List.mem_of_getElem? (i := 2088) (by decide +kernel), List.mem_of_getElem? (i := 3014) (by decide +kernel), List.mem_of_getElem? (i := 3015) (by decide +kernel)⟩
theorem lw_p261 : lw_okq (⟨"JinjaTongueModel", "push", "(IZ)V"⟩, 134) := ⟨⟨by decide +kernel, by decide +kernel⟩, List.mem_of_getElem? (i := 2088) (by decide +kernel), List.mem_of_getElem? (i := 3018) (by decide +kernel), List.mem_of_getElem? (i := 3019) (by decide +kernel)⟩
theorem lw_p262 : lw_okq (⟨"JinjaTongueModel", "comesToEnd", "(I)V"⟩, 134) := ⟨⟨by decide +kernel, by decide +kernel⟩, List.mem_of_getElem? (i := 2088) (by decide +kernel), List.mem_of_getElem? (i := 3022) (by decide +kernel), List.mem_of_getElem? (i := 3023) (by decide +kernel)⟩
theorem lw_p263 : lw_okq (⟨"JinjaTongueModel", "at32", "(I)I"⟩, 134) := ⟨⟨by decide +kernel, by decide +kernel⟩, List.mem_of_getElem? (i := 2088) (by decide +kernel), List.mem_of_getElem? (i := 3026) (by decide +kernel), List.mem_of_getElem? (i := 3027) (by decide +kernel)⟩
theorem lw_p264 : lw_okq (⟨"JinjaTongueModel", "invokes", "(I)V"⟩, 134) := ⟨⟨by decide +kernel, by decide +kernel⟩, List.mem_of_getElem? (i := 2088) (by decide +kernel), List.mem_of_getElem? (i := 3030) (by decide +kernel), List.mem_of_getElem? (i := 3031) (by decide +kernel)⟩
theorem lw_p265 : lw_okq (⟨"JinjaTongueModel", "raises", "(II)V"⟩, 134) := ⟨⟨by decide +kernel, by decide +kernel⟩, List.mem_of_getElem? (i := 2088) (by decide +kernel), List.mem_of_getElem? (i := 3034) (by decide +kernel), List.mem_of_getElem? (i := 3035) (by decide +kernel)⟩
theorem lw_p266 : lw_okq (⟨"JinjaTongueModel", "leaves", "(IIIZ)V"⟩, 134) := ⟨⟨by decide +kernel, by decide +kernel⟩, List.mem_of_getElem? (i := 2088) (by decide +kernel), List.mem_of_getElem? (i := 3038) (by decide +kernel), List.mem_of_getElem? (i := 3039) (by decide +kernel)⟩
theorem lw_p267 : lw_okq (⟨"JinjaTongueModel", "returns", "(IZ)V"⟩, 134) := ⟨⟨by decide +kernel, by decide +kernel⟩, List.mem_of_getElem? (i := 2088) (by decide +kernel), List.mem_of_getElem? (i := 3042) (by decide +kernel), List.mem_of_getElem? (i := 3043) (by decide +kernel)⟩
theorem lw_p268 : lw_okq (⟨"JinjaTongueModel", "catcher", "(II)I"⟩, 134) := ⟨⟨by decide +kernel, by decide +kernel⟩, List.mem_of_getElem? (i := 2088) (by decide +kernel), List.mem_of_getElem? (i := 3046) (by decide +kernel), List.mem_of_getElem? (i := 3047) (by decide +kernel)⟩
theorem lw_p269 : lw_okq (⟨"JinjaTongueModel", "classOf", "(I)I"⟩, 134) := ⟨⟨by decide +kernel, by decide +kernel⟩, List.mem_of_getElem? (i := 2088) (by decide +kernel), List.mem_of_getElem? (i := 3050) (by decide +kernel), List.mem_of_getElem? (i := 3051) (by decide +kernel)⟩
theorem lw_p270 : lw_okq (⟨"JinjaTongueModel", "waitsFor", "(IIIZ)V"⟩, 134) := ⟨⟨by decide +kernel, by decide +kernel⟩, List.mem_of_getElem? (i := 2088) (by decide +kernel), List.mem_of_getElem? (i := 3054) (by decide +kernel), List.mem_of_getElem? (i := 3055) (by decide +kernel)⟩
theorem lw_p271 : lw_okq (⟨"JinjaTongueModel", "loops", "(II)V"⟩, 134) := ⟨⟨by decide +kernel, by decide +kernel⟩, List.mem_of_getElem? (i := 2088) (by decide +kernel), List.mem_of_getElem? (i := 3058) (by decide +kernel), List.mem_of_getElem? (i := 3059) (by decide +kernel)⟩
def lw_privs_17 : List (MethodName × Nat) := [(⟨"JinjaTongueModel", "opens", "(III)V"⟩, 134), (⟨"JinjaTongueModel", "begin", "(I)V"⟩, 134), (⟨"JinjaTongueModel", "beginsNow", "(I)V"⟩, 134), (⟨"JinjaTongueModel", "isFirst", "(I)Z"⟩, 134), (⟨"JinjaTongueModel", "gives", "(II)V"⟩, 134), (⟨"JinjaTongueModel", "push", "(IZ)V"⟩, 134), (⟨"JinjaTongueModel", "comesToEnd", "(I)V"⟩, 134), (⟨"JinjaTongueModel", "at32", "(I)I"⟩, 134), (⟨"JinjaTongueModel", "invokes", "(I)V"⟩, 134), (⟨"JinjaTongueModel", "raises", "(II)V"⟩, 134), (⟨"JinjaTongueModel", "leaves", "(IIIZ)V"⟩, 134), (⟨"JinjaTongueModel", "returns", "(IZ)V"⟩, 134), (⟨"JinjaTongueModel", "catcher", "(II)I"⟩, 134), (⟨"JinjaTongueModel", "classOf", "(I)I"⟩, 134), (⟨"JinjaTongueModel", "waitsFor", "(IIIZ)V"⟩, 134), (⟨"JinjaTongueModel", "loops", "(II)V"⟩, 134)]
theorem lw_r17 : ∀ q ∈ lw_privs_17, lw_okq q := List.forall_mem_cons.mpr ⟨lw_p256, List.forall_mem_cons.mpr ⟨lw_p257, List.forall_mem_cons.mpr ⟨lw_p258, List.forall_mem_cons.mpr ⟨lw_p259, List.forall_mem_cons.mpr ⟨lw_p260, List.forall_mem_cons.mpr ⟨lw_p261, List.forall_mem_cons.mpr ⟨lw_p262, List.forall_mem_cons.mpr ⟨lw_p263, List.forall_mem_cons.mpr ⟨lw_p264, List.forall_mem_cons.mpr ⟨lw_p265, List.forall_mem_cons.mpr ⟨lw_p266, List.forall_mem_cons.mpr ⟨lw_p267, List.forall_mem_cons.mpr ⟨lw_p268, List.forall_mem_cons.mpr ⟨lw_p269, List.forall_mem_cons.mpr ⟨lw_p270, List.forall_mem_cons.mpr ⟨lw_p271, fun _ h => absurd h List.not_mem_nil⟩⟩⟩⟩⟩⟩⟩⟩⟩⟩⟩⟩⟩⟩⟩⟩
theorem lw_p272 : lw_okq (⟨"JinjaTongueModel", "looksAt", "(I)V"⟩, 134) := ⟨⟨by decide +kernel, by decide +kernel⟩, List.mem_of_getElem? (i := 2088) (by decide +kernel), List.mem_of_getElem? (i := 3062) (by decide +kernel), List.mem_of_getElem? (i := 3063) (by decide +kernel)⟩
theorem lw_p273 : lw_okq (⟨"JinjaTongueModel", "chosenOf", "(II)I"⟩, 134) := ⟨⟨by decide +kernel, by decide +kernel⟩, List.mem_of_getElem? (i := 2088) (by decide +kernel), List.mem_of_getElem? (i := 3066) (by decide +kernel), List.mem_of_getElem? (i := 3067) (by decide +kernel)⟩
theorem lw_p274 : lw_okq (⟨"JinjaTongueModel", "goesInto", "(II)V"⟩, 134) := ⟨⟨by decide +kernel, by decide +kernel⟩, List.mem_of_getElem? (i := 2088) (by decide +kernel), List.mem_of_getElem? (i := 3070) (by decide +kernel), List.mem_of_getElem? (i := 3071) (by decide +kernel)⟩
theorem lw_p275 : lw_okq (⟨"JinjaTongueModel", "isOver", "(I)V"⟩, 134) := ⟨⟨by decide +kernel, by decide +kernel⟩, List.mem_of_getElem? (i := 2088) (by decide +kernel), List.mem_of_getElem? (i := 3074) (by decide +kernel), List.mem_of_getElem? (i := 3075) (by decide +kernel)⟩
theorem lw_p276 : lw_okq (⟨"JinjaTongueModel", "goesOn", "(II)V"⟩, 134) := ⟨⟨by decide +kernel, by decide +kernel⟩, List.mem_of_getElem? (i := 2088) (by decide +kernel), List.mem_of_getElem? (i := 3078) (by decide +kernel), List.mem_of_getElem? (i := 3079) (by decide +kernel)⟩
theorem lw_p277 : lw_okq (⟨"JinjaTongueModel", "rows", "(I)V"⟩, 134) := ⟨⟨by decide +kernel, by decide +kernel⟩, List.mem_of_getElem? (i := 2088) (by decide +kernel), List.mem_of_getElem? (i := 3082) (by decide +kernel), List.mem_of_getElem? (i := 3083) (by decide +kernel)⟩
theorem lw_p278 : lw_okq (⟨"JinjaTongueModel", "pop", "()I"⟩, 134) := ⟨⟨by decide +kernel, by decide +kernel⟩, List.mem_of_getElem? (i := 2088) (by decide +kernel), List.mem_of_getElem? (i := 3086) (by decide +kernel), List.mem_of_getElem? (i := 3087) (by decide +kernel)⟩
theorem lw_p279 : lw_okq (⟨"JinjaTongueModel", "isPlace", "(I)Z"⟩, 134) := ⟨⟨by decide +kernel, by decide +kernel⟩, List.mem_of_getElem? (i := 2088) (by decide +kernel), List.mem_of_getElem? (i := 3090) (by decide +kernel), List.mem_of_getElem? (i := 3091) (by decide +kernel)⟩
theorem lw_p280 : lw_okq (⟨"JinjaTongueModel", "field", "(I)V"⟩, 134) := ⟨⟨by decide +kernel, by decide +kernel⟩, List.mem_of_getElem? (i := 2088) (by decide +kernel), List.mem_of_getElem? (i := 3094) (by decide +kernel), List.mem_of_getElem? (i := 3095) (by decide +kernel)⟩
theorem lw_p281 : lw_okq (⟨"JinjaTongueModel", "element", "(I)V"⟩, 134) := ⟨⟨by decide +kernel, by decide +kernel⟩, List.mem_of_getElem? (i := 2088) (by decide +kernel), List.mem_of_getElem? (i := 3098) (by decide +kernel), List.mem_of_getElem? (i := 3099) (by decide +kernel)⟩
theorem lw_p282 : lw_okq (⟨"JinjaTongueModel", "works", "(I)V"⟩, 134) := ⟨⟨by decide +kernel, by decide +kernel⟩, List.mem_of_getElem? (i := 2088) (by decide +kernel), List.mem_of_getElem? (i := 3102) (by decide +kernel), List.mem_of_getElem? (i := 3103) (by decide +kernel)⟩
theorem lw_p283 : lw_okq (⟨"JinjaTongueModel", "isOf", "(II)Z"⟩, 134) := ⟨⟨by decide +kernel, by decide +kernel⟩, List.mem_of_getElem? (i := 2088) (by decide +kernel), List.mem_of_getElem? (i := 3109) (by decide +kernel), List.mem_of_getElem? (i := 3110) (by decide +kernel)⟩
theorem lw_p284 : lw_okq (⟨"JinjaTongueModel", "goesOnIn", "(II)V"⟩, 134) := ⟨⟨by decide +kernel, by decide +kernel⟩, List.mem_of_getElem? (i := 2088) (by decide +kernel), List.mem_of_getElem? (i := 3113) (by decide +kernel), List.mem_of_getElem? (i := 3114) (by decide +kernel)⟩
theorem lw_p285 : lw_okq (⟨"JinjaTongueModel", "sets", "(I)V"⟩, 134) := ⟨⟨by decide +kernel, by decide +kernel⟩, List.mem_of_getElem? (i := 2088) (by decide +kernel), List.mem_of_getElem? (i := 3117) (by decide +kernel), List.mem_of_getElem? (i := 3118) (by decide +kernel)⟩
theorem lw_p286 : lw_okq (⟨"JinjaTongueModel", "forGoesOn", "(II)V"⟩, 134) := ⟨⟨by decide +kernel, by decide +kernel⟩, List.mem_of_getElem? (i := 2088) (by decide +kernel), List.mem_of_getElem? (i := 3121) (by decide +kernel), List.mem_of_getElem? (i := 3122) (by decide +kernel)⟩
theorem lw_p287 : lw_okq (⟨"JinjaTongueModel", "tryGoesOn", "(II)V"⟩, 134) := ⟨⟨by decide +kernel, by decide +kernel⟩, List.mem_of_getElem? (i := 2088) (by decide +kernel), List.mem_of_getElem? (i := 3125) (by decide +kernel), List.mem_of_getElem? (i := 3126) (by decide +kernel)⟩
def lw_privs_18 : List (MethodName × Nat) := [(⟨"JinjaTongueModel", "looksAt", "(I)V"⟩, 134), (⟨"JinjaTongueModel", "chosenOf", "(II)I"⟩, 134), (⟨"JinjaTongueModel", "goesInto", "(II)V"⟩, 134), (⟨"JinjaTongueModel", "isOver", "(I)V"⟩, 134), (⟨"JinjaTongueModel", "goesOn", "(II)V"⟩, 134), (⟨"JinjaTongueModel", "rows", "(I)V"⟩, 134), (⟨"JinjaTongueModel", "pop", "()I"⟩, 134), (⟨"JinjaTongueModel", "isPlace", "(I)Z"⟩, 134), (⟨"JinjaTongueModel", "field", "(I)V"⟩, 134), (⟨"JinjaTongueModel", "element", "(I)V"⟩, 134), (⟨"JinjaTongueModel", "works", "(I)V"⟩, 134), (⟨"JinjaTongueModel", "isOf", "(II)Z"⟩, 134), (⟨"JinjaTongueModel", "goesOnIn", "(II)V"⟩, 134), (⟨"JinjaTongueModel", "sets", "(I)V"⟩, 134), (⟨"JinjaTongueModel", "forGoesOn", "(II)V"⟩, 134), (⟨"JinjaTongueModel", "tryGoesOn", "(II)V"⟩, 134)]
theorem lw_r18 : ∀ q ∈ lw_privs_18, lw_okq q := List.forall_mem_cons.mpr ⟨lw_p272, List.forall_mem_cons.mpr ⟨lw_p273, List.forall_mem_cons.mpr ⟨lw_p274, List.forall_mem_cons.mpr ⟨lw_p275, List.forall_mem_cons.mpr ⟨lw_p276, List.forall_mem_cons.mpr ⟨lw_p277, List.forall_mem_cons.mpr ⟨lw_p278, List.forall_mem_cons.mpr ⟨lw_p279, List.forall_mem_cons.mpr ⟨lw_p280, List.forall_mem_cons.mpr ⟨lw_p281, List.forall_mem_cons.mpr ⟨lw_p282, List.forall_mem_cons.mpr ⟨lw_p283, List.forall_mem_cons.mpr ⟨lw_p284, List.forall_mem_cons.mpr ⟨lw_p285, List.forall_mem_cons.mpr ⟨lw_p286, List.forall_mem_cons.mpr ⟨lw_p287, fun _ h => absurd h List.not_mem_nil⟩⟩⟩⟩⟩⟩⟩⟩⟩⟩⟩⟩⟩⟩⟩⟩
def lw_privs : List (MethodName × Nat) := lw_privs_1 ++ (lw_privs_2 ++ (lw_privs_3 ++ (lw_privs_4 ++ (lw_privs_5 ++ (lw_privs_6 ++ (lw_privs_7 ++ (lw_privs_8 ++ (lw_privs_9 ++ (lw_privs_10 ++ (lw_privs_11 ++ (lw_privs_12 ++ (lw_privs_13 ++ (lw_privs_14 ++ (lw_privs_15 ++ (lw_privs_16 ++ (lw_privs_17 ++ (lw_privs_18)))))))))))))))))
def lw_tbl : List Cond := k2_sels lw_privs ++ tables_1
theorem lw_privs_ok : ∀ q ∈ lw_privs, lw_okq q := by
  show ∀ q ∈ lw_privs_1 ++ (lw_privs_2 ++ (lw_privs_3 ++ (lw_privs_4 ++ (lw_privs_5 ++ (lw_privs_6 ++ (lw_privs_7 ++ (lw_privs_8 ++ (lw_privs_9 ++ (lw_privs_10 ++ (lw_privs_11 ++ (lw_privs_12 ++ (lw_privs_13 ++ (lw_privs_14 ++ (lw_privs_15 ++ (lw_privs_16 ++ (lw_privs_17 ++ (lw_privs_18))))))))))))))))), lw_okq q
  exact List.forall_mem_append.mpr ⟨lw_r1, List.forall_mem_append.mpr ⟨lw_r2, List.forall_mem_append.mpr ⟨lw_r3, List.forall_mem_append.mpr ⟨lw_r4, List.forall_mem_append.mpr ⟨lw_r5, List.forall_mem_append.mpr ⟨lw_r6, List.forall_mem_append.mpr ⟨lw_r7, List.forall_mem_append.mpr ⟨lw_r8, List.forall_mem_append.mpr ⟨lw_r9, List.forall_mem_append.mpr ⟨lw_r10, List.forall_mem_append.mpr ⟨lw_r11, List.forall_mem_append.mpr ⟨lw_r12, List.forall_mem_append.mpr ⟨lw_r13, List.forall_mem_append.mpr ⟨lw_r14, List.forall_mem_append.mpr ⟨lw_r15, List.forall_mem_append.mpr ⟨lw_r16, List.forall_mem_append.mpr ⟨lw_r17, lw_r18⟩⟩⟩⟩⟩⟩⟩⟩⟩⟩⟩⟩⟩⟩⟩⟩⟩
end
section
/-! names of the classes, fields and methods that are reached (out of the claim's printed names) -/
def RX0 : String := "JinjaTongue$Bodies"
def RX1 : String := "JinjaTongue$Code"
def RX2 : String := "JinjaTongue$Decl"
def RX3 : String := "JinjaTongue$Heap"
def RX4 : String := "JinjaTongue$Loop"
def RX5 : String := "JinjaTongue$Machine"
def RX6 : String := "JinjaTongue$Method"
def RX7 : String := "JinjaTongue$Node"
def RX8 : String := "JinjaTongue$Parser"
def RX9 : String := "JinjaTongue$Program"
def RX10 : String := "JinjaTongue$Text"
def RX11 : String := "JinjaTongue"
def RX12 : String := "JinjaTongueModel"
def RJx145de : String := "java/io/Serializable"
def RJ5 : String := "java/lang/AbstractStringBuilder"
def RJ11 : String := "java/lang/Character"
def RJx8e188 : String := "java/lang/Cloneable"
def RJ6 : String := "java/lang/Integer"
def RJxab1ab : String := "java/lang/Iterable"
def RJ13 : String := "java/lang/Long"
def RJ9 : String := "java/lang/Math"
def RJ0 : String := "java/lang/String"
def RJ4 : String := "java/lang/StringBuilder"
def RJ1 : String := "java/lang/StringLatin1"
def RJ2 : String := "java/lang/StringUTF16"
def RJ10 : String := "java/lang/System"
def RJxa1e45 : String := "java/util/AbstractCollection"
def RJxc12de : String := "java/util/AbstractList"
def RJx4a65c : String := "java/util/ArrayList"
def RJ7 : String := "java/util/Arrays"
def RJx5ef63 : String := "java/util/Collection"
def RJxbd725 : String := "java/util/List"
def RJ15 : String := "java/util/Objects"
def RJxf0a74 : String := "java/util/RandomAccess"
def RJxa66e6 : String := "java/util/SequencedCollection"
def RJ8 : String := "jdk/internal/util/ArraysSupport"
def RJ3 : String := "jdk/internal/util/Preconditions"
def RL : String := "JinjaTongueLaw"
def TX0 : u_T := fun k => match k with
  | 0 => ("JinjaTongue$Bodies", "text", "LJinjaTongue$Text;", true)
  | 1 => ("JinjaTongue$Bodies", "code", "LJinjaTongue$Code;", true)
  | 2 => ("JinjaTongue$Bodies", "names", "[I", true)
  | 3 => ("JinjaTongue$Bodies", "types", "[I", true)
  | 4 => ("JinjaTongue$Bodies", "slots", "[I", true)
  | 5 => ("JinjaTongue$Bodies", "variables", "I", false)
  | 6 => ("JinjaTongue$Bodies", "program", "LJinjaTongue$Program;", false)
  | 7 => ("JinjaTongue$Bodies", "method", "LJinjaTongue$Method;", false)
  | 8 => ("JinjaTongue$Bodies", "assigned", "I", false)
  | 9 => ("JinjaTongue$Bodies", "whenTrue", "I", false)
  | 10 => ("JinjaTongue$Bodies", "whenFalse", "I", false)
  | 11 => ("JinjaTongue$Bodies", "loop", "LJinjaTongue$Loop;", false)
  | _ => ("JinjaTongue$Bodies", "lasts", "I", false)
def tyX0 : Nat → FieldType := fun k => match k with
  | 0 => .object "JinjaTongue$Text"
  | 1 => .object "JinjaTongue$Code"
  | 2 => .array .int
  | 3 => .array .int
  | 4 => .array .int
  | 5 => .int
  | 6 => .object "JinjaTongue$Program"
  | 7 => .object "JinjaTongue$Method"
  | 8 => .int
  | 9 => .int
  | 10 => .int
  | 11 => .object "JinjaTongue$Loop"
  | _ => .int
abbrev wsX00 : List Cond := u_ws RX0 TX0 13
theorem nmX0 : ∀ a, a < 13 → ∀ b, b < 13 → a ≠ b → (TX0 a).2.1 ≠ (TX0 b).2.1 := by decide +kernel
theorem tyX0_ok : ∀ k, k < 13 → parseFieldDescriptor (TX0 k).2.2.1 = some (tyX0 k) := by decide +kernel
def TX1 : u_T := fun k => match k with
  | 0 => ("JinjaTongue$Code", "operations", "[I", true)
  | 1 => ("JinjaTongue$Code", "lefts", "[I", true)
  | 2 => ("JinjaTongue$Code", "rights", "[I", true)
  | 3 => ("JinjaTongue$Code", "helds", "[I", true)
  | 4 => ("JinjaTongue$Code", "size", "I", false)
  | 5 => ("JinjaTongue$Code", "starts", "[I", true)
  | 6 => ("JinjaTongue$Code", "ends", "[I", true)
  | 7 => ("JinjaTongue$Code", "handlers", "[I", true)
  | 8 => ("JinjaTongue$Code", "classes", "[I", true)
  | 9 => ("JinjaTongue$Code", "slots", "[I", true)
  | 10 => ("JinjaTongue$Code", "regions", "I", false)
  | 11 => ("JinjaTongue$Code", "held", "I", false)
  | _ => ("JinjaTongue$Code", "deepest", "I", false)
def tyX1 : Nat → FieldType := fun k => match k with
  | 0 => .array .int
  | 1 => .array .int
  | 2 => .array .int
  | 3 => .array .int
  | 4 => .int
  | 5 => .array .int
  | 6 => .array .int
  | 7 => .array .int
  | 8 => .array .int
  | 9 => .array .int
  | 10 => .int
  | 11 => .int
  | _ => .int
abbrev wsX10 : List Cond := u_ws RX1 TX1 13
theorem nmX1 : ∀ a, a < 13 → ∀ b, b < 13 → a ≠ b → (TX1 a).2.1 ≠ (TX1 b).2.1 := by decide +kernel
theorem tyX1_ok : ∀ k, k < 13 → parseFieldDescriptor (TX1 k).2.2.1 = some (tyX1 k) := by decide +kernel
def TX2 : u_T := fun k => match k with
  | 0 => ("JinjaTongue$Decl", "number", "I", true)
  | 1 => ("JinjaTongue$Decl", "name", "I", true)
  | 2 => ("JinjaTongue$Decl", "token", "I", true)
  | 3 => ("JinjaTongue$Decl", "isInterface", "Z", true)
  | 4 => ("JinjaTongue$Decl", "extended", "I", false)
  | 5 => ("JinjaTongue$Decl", "listed", "I", false)
  | 6 => ("JinjaTongue$Decl", "listSize", "I", false)
  | 7 => ("JinjaTongue$Decl", "fields", "Ljava/util/ArrayList;", true)
  | 8 => ("JinjaTongue$Decl", "methods", "Ljava/util/ArrayList;", true)
  | 9 => ("JinjaTongue$Decl", "parent", "LJinjaTongue$Decl;", false)
  | 10 => ("JinjaTongue$Decl", "above", "J", false)
  | 11 => ("JinjaTongue$Decl", "layout", "Ljava/util/ArrayList;", true)
  | _ => ("JinjaTongue$Decl", "known", "Ljava/util/ArrayList;", true)
def tyX2 : Nat → FieldType := fun k => match k with
  | 0 => .int
  | 1 => .int
  | 2 => .int
  | 3 => .boolean
  | 4 => .int
  | 5 => .int
  | 6 => .int
  | 7 => .object "java/util/ArrayList"
  | 8 => .object "java/util/ArrayList"
  | 9 => .object "JinjaTongue$Decl"
  | 10 => .long
  | 11 => .object "java/util/ArrayList"
  | _ => .object "java/util/ArrayList"
abbrev wsX20 : List Cond := u_ws RX2 TX2 13
theorem nmX2 : ∀ a, a < 13 → ∀ b, b < 13 → a ≠ b → (TX2 a).2.1 ≠ (TX2 b).2.1 := by decide +kernel
theorem tyX2_ok : ∀ k, k < 13 → parseFieldDescriptor (TX2 k).2.2.1 = some (tyX2 k) := by decide +kernel
def TX3 : u_T := fun k => match k with
  | 0 => ("JinjaTongue$Heap", "space", "[J", false)
  | 1 => ("JinjaTongue$Heap", "other", "[J", false)
  | 2 => ("JinjaTongue$Heap", "top", "I", false)
  | 3 => ("JinjaTongue$Heap", "otherTop", "I", false)
  | _ => ("JinjaTongue$Heap", "limit", "I", false)
def tyX3 : Nat → FieldType := fun k => match k with
  | 0 => .array .long
  | 1 => .array .long
  | 2 => .int
  | 3 => .int
  | _ => .int
abbrev wsX30 : List Cond := u_ws RX3 TX3 5
theorem nmX3 : ∀ a, a < 5 → ∀ b, b < 5 → a ≠ b → (TX3 a).2.1 ≠ (TX3 b).2.1 := by decide +kernel
theorem tyX3_ok : ∀ k, k < 5 → parseFieldDescriptor (TX3 k).2.2.1 = some (tyX3 k) := by decide +kernel
def TX5 : u_T := fun k => match k with
  | 0 => ("JinjaTongue$Machine", "code", "LJinjaTongue$Code;", true)
  | 1 => ("JinjaTongue$Machine", "heap", "LJinjaTongue$Heap;", true)
  | 2 => ("JinjaTongue$Machine", "stack", "[J", true)
  | 3 => ("JinjaTongue$Machine", "frames", "[I", true)
  | 4 => ("JinjaTongue$Machine", "input", "[I", true)
  | 5 => ("JinjaTongue$Machine", "inputs", "I", false)
  | 6 => ("JinjaTongue$Machine", "output", "[I", true)
  | 7 => ("JinjaTongue$Machine", "tally", "[I", true)
  | 8 => ("JinjaTongue$Machine", "program", "LJinjaTongue$Program;", false)
  | 9 => ("JinjaTongue$Machine", "method", "LJinjaTongue$Method;", false)
  | 10 => ("JinjaTongue$Machine", "base", "I", false)
  | 11 => ("JinjaTongue$Machine", "top", "I", false)
  | 12 => ("JinjaTongue$Machine", "pc", "I", false)
  | 13 => ("JinjaTongue$Machine", "next", "I", false)
  | 14 => ("JinjaTongue$Machine", "raised", "J", false)
  | 15 => ("JinjaTongue$Machine", "open", "I", false)
  | 16 => ("JinjaTongue$Machine", "end", "I", false)
  | 17 => ("JinjaTongue$Machine", "result", "I", false)
  | _ => ("JinjaTongue$Machine", "refusals", "I", false)
def tyX5 : Nat → FieldType := fun k => match k with
  | 0 => .object "JinjaTongue$Code"
  | 1 => .object "JinjaTongue$Heap"
  | 2 => .array .long
  | 3 => .array .int
  | 4 => .array .int
  | 5 => .int
  | 6 => .array .int
  | 7 => .array .int
  | 8 => .object "JinjaTongue$Program"
  | 9 => .object "JinjaTongue$Method"
  | 10 => .int
  | 11 => .int
  | 12 => .int
  | 13 => .int
  | 14 => .long
  | 15 => .int
  | 16 => .int
  | 17 => .int
  | _ => .int
abbrev wsX50 : List Cond := u_ws RX5 TX5 19
theorem nmX5 : ∀ a, a < 19 → ∀ b, b < 19 → a ≠ b → (TX5 a).2.1 ≠ (TX5 b).2.1 := by decide +kernel
theorem tyX5_ok : ∀ k, k < 19 → parseFieldDescriptor (TX5 k).2.2.1 = some (tyX5 k) := by decide +kernel
def TX8 : u_T := fun k => match k with
  | 0 => ("JinjaTongue$Parser", "text", "LJinjaTongue$Text;", true)
  | 1 => ("JinjaTongue$Parser", "program", "LJinjaTongue$Program;", false)
  | 2 => ("JinjaTongue$Parser", "at", "I", false)
  | 3 => ("JinjaTongue$Parser", "depth", "I", false)
  | _ => ("JinjaTongue$Parser", "signs", "I", false)
def tyX8 : Nat → FieldType := fun k => match k with
  | 0 => .object "JinjaTongue$Text"
  | 1 => .object "JinjaTongue$Program"
  | 2 => .int
  | 3 => .int
  | _ => .int
abbrev wsX80 : List Cond := u_ws RX8 TX8 5
theorem nmX8 : ∀ a, a < 5 → ∀ b, b < 5 → a ≠ b → (TX8 a).2.1 ≠ (TX8 b).2.1 := by decide +kernel
theorem tyX8_ok : ∀ k, k < 5 → parseFieldDescriptor (TX8 k).2.2.1 = some (tyX8 k) := by decide +kernel
def TX9 : u_T := fun k => match k with
  | 0 => ("JinjaTongue$Program", "text", "LJinjaTongue$Text;", true)
  | 1 => ("JinjaTongue$Program", "decls", "[LJinjaTongue$Decl;", true)
  | 2 => ("JinjaTongue$Program", "size", "I", false)
  | 3 => ("JinjaTongue$Program", "methods", "Ljava/util/ArrayList;", true)
  | _ => ("JinjaTongue$Program", "least", "I", false)
def tyX9 : Nat → FieldType := fun k => match k with
  | 0 => .object "JinjaTongue$Text"
  | 1 => .array (.object "JinjaTongue$Decl")
  | 2 => .int
  | 3 => .object "java/util/ArrayList"
  | _ => .int
abbrev wsX90 : List Cond := u_ws RX9 TX9 5
theorem nmX9 : ∀ a, a < 5 → ∀ b, b < 5 → a ≠ b → (TX9 a).2.1 ≠ (TX9 b).2.1 := by decide +kernel
theorem tyX9_ok : ∀ k, k < 5 → parseFieldDescriptor (TX9 k).2.2.1 = some (tyX9 k) := by decide +kernel
def TX10 : u_T := fun k => match k with
  | 0 => ("JinjaTongue$Text", "bytes", "[B", true)
  | 1 => ("JinjaTongue$Text", "spelled", "I", true)
  | 2 => ("JinjaTongue$Text", "length", "I", false)
  | 3 => ("JinjaTongue$Text", "kinds", "[I", true)
  | 4 => ("JinjaTongue$Text", "places", "[I", true)
  | 5 => ("JinjaTongue$Text", "values", "[I", true)
  | 6 => ("JinjaTongue$Text", "roles", "[B", true)
  | 7 => ("JinjaTongue$Text", "types", "[I", true)
  | 8 => ("JinjaTongue$Text", "size", "I", false)
  | 9 => ("JinjaTongue$Text", "nameStarts", "[I", true)
  | 10 => ("JinjaTongue$Text", "nameLengths", "[I", true)
  | 11 => ("JinjaTongue$Text", "nameNexts", "[I", true)
  | 12 => ("JinjaTongue$Text", "buckets", "[I", true)
  | 13 => ("JinjaTongue$Text", "names", "I", false)
  | _ => ("JinjaTongue$Text", "fault", "I", false)
def tyX10 : Nat → FieldType := fun k => match k with
  | 0 => .array .byte
  | 1 => .int
  | 2 => .int
  | 3 => .array .int
  | 4 => .array .int
  | 5 => .array .int
  | 6 => .array .byte
  | 7 => .array .int
  | 8 => .int
  | 9 => .array .int
  | 10 => .array .int
  | 11 => .array .int
  | 12 => .array .int
  | 13 => .int
  | _ => .int
abbrev wsX100 : List Cond := u_ws RX10 TX10 15
theorem nmX10 : ∀ a, a < 15 → ∀ b, b < 15 → a ≠ b → (TX10 a).2.1 ≠ (TX10 b).2.1 := by decide +kernel
theorem tyX10_ok : ∀ k, k < 15 → parseFieldDescriptor (TX10 k).2.2.1 = some (tyX10 k) := by decide +kernel
def TX11 : u_T := fun k => match k with
  | 0 => ("JinjaTongue", "tape", "[B", true)
  | 1 => ("JinjaTongue", "tapeLength", "I", false)
  | 2 => ("JinjaTongue", "text", "LJinjaTongue$Text;", true)
  | 3 => ("JinjaTongue", "code", "LJinjaTongue$Code;", true)
  | 4 => ("JinjaTongue", "parser", "LJinjaTongue$Parser;", true)
  | 5 => ("JinjaTongue", "bodies", "LJinjaTongue$Bodies;", true)
  | 6 => ("JinjaTongue", "machine", "LJinjaTongue$Machine;", true)
  | _ => ("JinjaTongue", "program", "LJinjaTongue$Program;", false)
def tyX11 : Nat → FieldType := fun k => match k with
  | 0 => .array .byte
  | 1 => .int
  | 2 => .object "JinjaTongue$Text"
  | 3 => .object "JinjaTongue$Code"
  | 4 => .object "JinjaTongue$Parser"
  | 5 => .object "JinjaTongue$Bodies"
  | 6 => .object "JinjaTongue$Machine"
  | _ => .object "JinjaTongue$Program"
abbrev wsX110 : List Cond := u_ws RX11 TX11 8
theorem nmX11 : ∀ a, a < 8 → ∀ b, b < 8 → a ≠ b → (TX11 a).2.1 ≠ (TX11 b).2.1 := by decide +kernel
theorem tyX11_ok : ∀ k, k < 8 → parseFieldDescriptor (TX11 k).2.2.1 = some (tyX11 k) := by decide +kernel
def TX12 : u_T := fun k => match k with
  | 0 => ("JinjaTongueModel", "thrown", "I", false)
  | 1 => ("JinjaTongueModel", "tape", "[I", true)
  | 2 => ("JinjaTongueModel", "taped", "I", false)
  | 3 => ("JinjaTongueModel", "text", "[I", true)
  | 4 => ("JinjaTongueModel", "size", "I", false)
  | 5 => ("JinjaTongueModel", "tKind", "[I", true)
  | 6 => ("JinjaTongueModel", "tFrom", "[I", true)
  | 7 => ("JinjaTongueModel", "tTo", "[I", true)
  | 8 => ("JinjaTongueModel", "tValue", "[I", true)
  | 9 => ("JinjaTongueModel", "tokens", "I", false)
  | 10 => ("JinjaTongueModel", "nameAt", "[I", true)
  | 11 => ("JinjaTongueModel", "nameSize", "[I", true)
  | 12 => ("JinjaTongueModel", "nameBytes", "[B", true)
  | 13 => ("JinjaTongueModel", "nameUsed", "I", false)
  | 14 => ("JinjaTongueModel", "names", "I", false)
  | 15 => ("JinjaTongueModel", "fault", "I", false)
  | 16 => ("JinjaTongueModel", "faultPlace", "I", false)
  | 17 => ("JinjaTongueModel", "nKind", "[I", true)
  | 18 => ("JinjaTongueModel", "nFirst", "[I", true)
  | 19 => ("JinjaTongueModel", "nToken", "[I", true)
  | 20 => ("JinjaTongueModel", "nA", "[I", true)
  | 21 => ("JinjaTongueModel", "nB", "[I", true)
  | 22 => ("JinjaTongueModel", "nC", "[I", true)
  | 23 => ("JinjaTongueModel", "nD", "[I", true)
  | 24 => ("JinjaTongueModel", "nNext", "[I", true)
  | 25 => ("JinjaTongueModel", "nType", "[I", true)
  | 26 => ("JinjaTongueModel", "nMeans", "[I", true)
  | 27 => ("JinjaTongueModel", "nodes", "I", false)
  | 28 => ("JinjaTongueModel", "yToken", "[I", true)
  | 29 => ("JinjaTongueModel", "yRow", "[Z", true)
  | 30 => ("JinjaTongueModel", "yCode", "[I", true)
  | 31 => ("JinjaTongueModel", "written", "I", false)
  | 32 => ("JinjaTongueModel", "lToken", "[I", true)
  | 33 => ("JinjaTongueModel", "lNext", "[I", true)
  | 34 => ("JinjaTongueModel", "listed", "I", false)
  | 35 => ("JinjaTongueModel", "decls", "I", false)
  | 36 => ("JinjaTongueModel", "dName", "[I", true)
  | 37 => ("JinjaTongueModel", "dToken", "[I", true)
  | 38 => ("JinjaTongueModel", "dIsInterface", "[Z", true)
  | 39 => ("JinjaTongueModel", "dExtends", "[I", true)
  | 40 => ("JinjaTongueModel", "dImplements", "[I", true)
  | 41 => ("JinjaTongueModel", "dSuper", "[I", true)
  | 42 => ("JinjaTongueModel", "dCells", "[I", true)
  | 43 => ("JinjaTongueModel", "dAbove", "[Z", true)
  | 44 => ("JinjaTongueModel", "fields", "I", false)
  | 45 => ("JinjaTongueModel", "fOf", "[I", true)
  | 46 => ("JinjaTongueModel", "fName", "[I", true)
  | 47 => ("JinjaTongueModel", "fToken", "[I", true)
  | 48 => ("JinjaTongueModel", "fType", "[I", true)
  | 49 => ("JinjaTongueModel", "methods", "I", false)
  | 50 => ("JinjaTongueModel", "mOf", "[I", true)
  | 51 => ("JinjaTongueModel", "mName", "[I", true)
  | 52 => ("JinjaTongueModel", "mToken", "[I", true)
  | 53 => ("JinjaTongueModel", "mResult", "[I", true)
  | 54 => ("JinjaTongueModel", "mFirst", "[I", true)
  | 55 => ("JinjaTongueModel", "mMany", "[I", true)
  | 56 => ("JinjaTongueModel", "mBlock", "[I", true)
  | 57 => ("JinjaTongueModel", "mEnd", "[I", true)
  | 58 => ("JinjaTongueModel", "mNumber", "[I", true)
  | 59 => ("JinjaTongueModel", "blocks", "I", false)
  | 60 => ("JinjaTongueModel", "parameters", "I", false)
  | 61 => ("JinjaTongueModel", "pName", "[I", true)
  | 62 => ("JinjaTongueModel", "pToken", "[I", true)
  | 63 => ("JinjaTongueModel", "pType", "[I", true)
  | 64 => ("JinjaTongueModel", "at", "I", false)
  | 65 => ("JinjaTongueModel", "nest", "I", false)
  | 66 => ("JinjaTongueModel", "links", "I", false)
  | 67 => ("JinjaTongueModel", "manyFields", "I", false)
  | 68 => ("JinjaTongueModel", "manyMethods", "I", false)
  | 69 => ("JinjaTongueModel", "roundAt", "I", false)
  | 70 => ("JinjaTongueModel", "roundWhat", "I", false)
  | 71 => ("JinjaTongueModel", "vName", "[I", true)
  | 72 => ("JinjaTongueModel", "vType", "[I", true)
  | 73 => ("JinjaTongueModel", "scope", "I", false)
  | 74 => ("JinjaTongueModel", "bodyOf", "I", false)
  | 75 => ("JinjaTongueModel", "bodyResult", "I", false)
  | 76 => ("JinjaTongueModel", "inLoops", "I", false)
  | 77 => ("JinjaTongueModel", "done", "I", false)
  | 78 => ("JinjaTongueModel", "whenTrue", "I", false)
  | 79 => ("JinjaTongueModel", "whenFalse", "I", false)
  | 80 => ("JinjaTongueModel", "atBreaks", "I", false)
  | 81 => ("JinjaTongueModel", "atContinues", "I", false)
  | 82 => ("JinjaTongueModel", "hasProgram", "Z", false)
  | 83 => ("JinjaTongueModel", "hasRun", "Z", false)
  | 84 => ("JinjaTongueModel", "inputs", "[I", true)
  | 85 => ("JinjaTongueModel", "inputMany", "I", false)
  | 86 => ("JinjaTongueModel", "output", "[I", true)
  | 87 => ("JinjaTongueModel", "outputs", "I", false)
  | 88 => ("JinjaTongueModel", "nUp", "[I", true)
  | 89 => ("JinjaTongueModel", "fPlace", "[I", true)
  | 90 => ("JinjaTongueModel", "choiceOf", "[I", true)
  | 91 => ("JinjaTongueModel", "oClass", "[I", true)
  | 92 => ("JinjaTongueModel", "oSort", "[I", true)
  | 93 => ("JinjaTongueModel", "oMany", "[I", true)
  | 94 => ("JinjaTongueModel", "oAt", "[I", true)
  | 95 => ("JinjaTongueModel", "oSeen", "[Z", true)
  | 96 => ("JinjaTongueModel", "cells", "[I", true)
  | 97 => ("JinjaTongueModel", "cellTop", "I", false)
  | 98 => ("JinjaTongueModel", "filled", "I", false)
  | 99 => ("JinjaTongueModel", "room", "I", false)
  | 100 => ("JinjaTongueModel", "todo", "[I", true)
  | 101 => ("JinjaTongueModel", "todos", "I", false)
  | 102 => ("JinjaTongueModel", "open", "I", false)
  | 103 => ("JinjaTongueModel", "cThis", "[I", true)
  | 104 => ("JinjaTongueModel", "cScope", "[I", true)
  | 105 => ("JinjaTongueModel", "cValues", "[I", true)
  | 106 => ("JinjaTongueModel", "cNode", "[I", true)
  | 107 => ("JinjaTongueModel", "variable", "[I", true)
  | 108 => ("JinjaTongueModel", "variableRefers", "[Z", true)
  | 109 => ("JinjaTongueModel", "stack", "[I", true)
  | 110 => ("JinjaTongueModel", "refers", "[Z", true)
  | 111 => ("JinjaTongueModel", "top", "I", false)
  | 112 => ("JinjaTongueModel", "waitKind", "[I", true)
  | 113 => ("JinjaTongueModel", "waitValue", "[I", true)
  | 114 => ("JinjaTongueModel", "waitRefers", "[Z", true)
  | 115 => ("JinjaTongueModel", "waits", "I", false)
  | 116 => ("JinjaTongueModel", "ended", "I", false)
  | 117 => ("JinjaTongueModel", "fuel", "I", false)
  | 118 => ("JinjaTongueModel", "result", "I", false)
  | 119 => ("JinjaTongueModel", "uncaught", "I", false)
  | 120 => ("JinjaTongueModel", "readMany", "I", false)
  | 121 => ("JinjaTongueModel", "made", "I", false)
  | 122 => ("JinjaTongueModel", "madeCells", "I", false)
  | 123 => ("JinjaTongueModel", "calls", "I", false)
  | 124 => ("JinjaTongueModel", "mostOpen", "I", false)
  | 125 => ("JinjaTongueModel", "now", "I", false)
  | 126 => ("JinjaTongueModel", "isNew", "Z", false)
  | 127 => ("JinjaTongueModel", "order", "[I", true)
  | 128 => ("JinjaTongueModel", "orders", "I", false)
  | 129 => ("JinjaTongueModel", "idle", "[I", true)
  | 130 => ("JinjaTongueModel", "idles", "I", false)
  | 131 => ("JinjaTongueModel", "refFrom", "[I", true)
  | 132 => ("JinjaTongueModel", "refMany", "[I", true)
  | _ => ("JinjaTongueModel", "refPlace", "[I", true)
def tyX12 : Nat → FieldType := fun k => match k with
  | 0 => .int
  | 1 => .array .int
  | 2 => .int
  | 3 => .array .int
  | 4 => .int
  | 5 => .array .int
  | 6 => .array .int
  | 7 => .array .int
  | 8 => .array .int
  | 9 => .int
  | 10 => .array .int
  | 11 => .array .int
  | 12 => .array .byte
  | 13 => .int
  | 14 => .int
  | 15 => .int
  | 16 => .int
  | 17 => .array .int
  | 18 => .array .int
  | 19 => .array .int
  | 20 => .array .int
  | 21 => .array .int
  | 22 => .array .int
  | 23 => .array .int
  | 24 => .array .int
  | 25 => .array .int
  | 26 => .array .int
  | 27 => .int
  | 28 => .array .int
  | 29 => .array .boolean
  | 30 => .array .int
  | 31 => .int
  | 32 => .array .int
  | 33 => .array .int
  | 34 => .int
  | 35 => .int
  | 36 => .array .int
  | 37 => .array .int
  | 38 => .array .boolean
  | 39 => .array .int
  | 40 => .array .int
  | 41 => .array .int
  | 42 => .array .int
  | 43 => .array .boolean
  | 44 => .int
  | 45 => .array .int
  | 46 => .array .int
  | 47 => .array .int
  | 48 => .array .int
  | 49 => .int
  | 50 => .array .int
  | 51 => .array .int
  | 52 => .array .int
  | 53 => .array .int
  | 54 => .array .int
  | 55 => .array .int
  | 56 => .array .int
  | 57 => .array .int
  | 58 => .array .int
  | 59 => .int
  | 60 => .int
  | 61 => .array .int
  | 62 => .array .int
  | 63 => .array .int
  | 64 => .int
  | 65 => .int
  | 66 => .int
  | 67 => .int
  | 68 => .int
  | 69 => .int
  | 70 => .int
  | 71 => .array .int
  | 72 => .array .int
  | 73 => .int
  | 74 => .int
  | 75 => .int
  | 76 => .int
  | 77 => .int
  | 78 => .int
  | 79 => .int
  | 80 => .int
  | 81 => .int
  | 82 => .boolean
  | 83 => .boolean
  | 84 => .array .int
  | 85 => .int
  | 86 => .array .int
  | 87 => .int
  | 88 => .array .int
  | 89 => .array .int
  | 90 => .array .int
  | 91 => .array .int
  | 92 => .array .int
  | 93 => .array .int
  | 94 => .array .int
  | 95 => .array .boolean
  | 96 => .array .int
  | 97 => .int
  | 98 => .int
  | 99 => .int
  | 100 => .array .int
  | 101 => .int
  | 102 => .int
  | 103 => .array .int
  | 104 => .array .int
  | 105 => .array .int
  | 106 => .array .int
  | 107 => .array .int
  | 108 => .array .boolean
  | 109 => .array .int
  | 110 => .array .boolean
  | 111 => .int
  | 112 => .array .int
  | 113 => .array .int
  | 114 => .array .boolean
  | 115 => .int
  | 116 => .int
  | 117 => .int
  | 118 => .int
  | 119 => .int
  | 120 => .int
  | 121 => .int
  | 122 => .int
  | 123 => .int
  | 124 => .int
  | 125 => .int
  | 126 => .boolean
  | 127 => .array .int
  | 128 => .int
  | 129 => .array .int
  | 130 => .int
  | 131 => .array .int
  | 132 => .array .int
  | _ => .array .int
abbrev wsX120 : List Cond := u_ws RX12 TX12 134
theorem nmX12 : ∀ a, a < 134 → ∀ b, b < 134 → a ≠ b → (TX12 a).2.1 ≠ (TX12 b).2.1 := by decide +kernel
theorem tyX12_ok : ∀ k, k < 134 → parseFieldDescriptor (TX12 k).2.2.1 = some (tyX12 k) := by decide +kernel
def TJx4a65c : u_T := fun k => match k with
  | 0 => ("java/util/AbstractList", "modCount", "I", false)
  | 1 => ("java/util/ArrayList", "elementData", "[Ljava/lang/Object;", false)
  | _ => ("java/util/ArrayList", "size", "I", false)
def tyJx4a65c : Nat → FieldType := fun k => match k with
  | 0 => .int
  | 1 => .array (.object "java/lang/Object")
  | _ => .int
abbrev wsJx4a65c0 : List Cond := u_ws RJx4a65c TJx4a65c 3
theorem nmJx4a65c : ∀ a, a < 3 → ∀ b, b < 3 → a ≠ b → (TJx4a65c a).2.1 ≠ (TJx4a65c b).2.1 := by decide +kernel
theorem tyJx4a65c_ok : ∀ k, k < 3 → parseFieldDescriptor (TJx4a65c k).2.2.1 = some (tyJx4a65c k) := by decide +kernel
abbrev cX11_init : ByteArray := prog_1_method_1_code
def yX11_init : MethodName := ⟨RX11, "<init>", "()V"⟩
abbrev cX11_feed : ByteArray := prog_1_method_2_code
def yX11_feed : MethodName := ⟨RX11, "feed", "(IIIII)I"⟩
abbrev cX11_append : ByteArray := prog_1_method_3_code
def yX11_append : MethodName := ⟨RX11, "append", "(I)V"⟩
abbrev cX11_back : ByteArray := prog_1_method_4_code
def yX11_back : MethodName := ⟨RX11, "back", "(I)I"⟩
abbrev cX11_read : ByteArray := prog_1_method_5_code
def yX11_read : MethodName := ⟨RX11, "read", "()I"⟩
abbrev cX11_declared : ByteArray := prog_1_method_6_code
def yX11_declared : MethodName := ⟨RX11, "declared", "(I)LJinjaTongue$Decl;"⟩
abbrev cX11_type : ByteArray := prog_1_method_7_code
def yX11_type : MethodName := ⟨RX11, "type", "(II)I"⟩
abbrev cX11_above : ByteArray := prog_1_method_8_code
def yX11_above : MethodName := ⟨RX11, "above", "(II)I"⟩
abbrev cX11_letter : ByteArray := prog_1_method_9_code
def yX11_letter : MethodName := ⟨RX11, "letter", "(II)I"⟩
abbrev cX11_called : ByteArray := prog_1_method_10_code
def yX11_called : MethodName := ⟨RX11, "called", "(II)I"⟩
abbrev cX11_input : ByteArray := prog_1_method_11_code
def yX11_input : MethodName := ⟨RX11, "input", "(I)I"⟩
abbrev cX11_forget : ByteArray := prog_1_method_12_code
def yX11_forget : MethodName := ⟨RX11, "forget", "()V"⟩
abbrev cX11_run : ByteArray := prog_1_method_13_code
def yX11_run : MethodName := ⟨RX11, "run", "(II)I"⟩
abbrev cX11_result : ByteArray := prog_1_method_14_code
def yX11_result : MethodName := ⟨RX11, "result", "()I"⟩
abbrev cX11_output : ByteArray := prog_1_method_15_code
def yX11_output : MethodName := ⟨RX11, "output", "(I)I"⟩
abbrev cX11_thrown : ByteArray := prog_1_method_16_code
def yX11_thrown : MethodName := ⟨RX11, "thrown", "(I)I"⟩
abbrev cX11_count : ByteArray := prog_1_method_17_code
def yX11_count : MethodName := ⟨RX11, "count", "(I)I"⟩
abbrev cX11_refusals : ByteArray := prog_1_method_18_code
def yX11_refusals : MethodName := ⟨RX11, "refusals", "()I"⟩
abbrev cX10_init : ByteArray := prog_12_method_1_code
def yX10_init : MethodName := ⟨RX10, "<init>", "()V"⟩
abbrev cX10_spell : ByteArray := prog_12_method_2_code
def yX10_spell : MethodName := ⟨RX10, "spell", "(Ljava/lang/String;I)V"⟩
abbrev cX10_split : ByteArray := prog_12_method_3_code
def yX10_split : MethodName := ⟨RX10, "split", "([BI)V"⟩
abbrev cX10_learnBuiltIn : ByteArray := prog_12_method_4_code
def yX10_learnBuiltIn : MethodName := ⟨RX10, "learnBuiltIn", "()V"⟩
abbrev cX10_pastBlanks : ByteArray := prog_12_method_6_code
def yX10_pastBlanks : MethodName := ⟨RX10, "pastBlanks", "(I)I"⟩
abbrev cX10_nameOf : ByteArray := prog_12_method_13_code
def yX10_nameOf : MethodName := ⟨RX10, "nameOf", "(II)I"⟩
abbrev cX10_isSpelledAlike : ByteArray := prog_12_method_14_code
def yX10_isSpelledAlike : MethodName := ⟨RX10, "isSpelledAlike", "(III)Z"⟩
abbrev cX10_placeAt : ByteArray := prog_12_method_17_code
def yX10_placeAt : MethodName := ⟨RX10, "placeAt", "(I)I"⟩
abbrev cX1_init : ByteArray := prog_3_method_1_code
def yX1_init : MethodName := ⟨RX1, "<init>", "()V"⟩
abbrev cX8_init : ByteArray := prog_10_method_1_code
def yX8_init : MethodName := ⟨RX8, "<init>", "(LJinjaTongue$Text;)V"⟩
abbrev cX8_parse : ByteArray := prog_10_method_2_code
def yX8_parse : MethodName := ⟨RX8, "parse", "(LJinjaTongue$Program;)V"⟩
abbrev cX0_init : ByteArray := prog_2_method_1_code
def yX0_init : MethodName := ⟨RX0, "<init>", "(LJinjaTongue$Text;LJinjaTongue$Code;)V"⟩
abbrev cX3_init : ByteArray := prog_5_method_1_code
def yX3_init : MethodName := ⟨RX3, "<init>", "()V"⟩
abbrev cX5_init : ByteArray := prog_7_method_1_code
def yX5_init : MethodName := ⟨RX5, "<init>", "(LJinjaTongue$Code;)V"⟩
abbrev cX5_takeInput : ByteArray := prog_7_method_2_code
def yX5_takeInput : MethodName := ⟨RX5, "takeInput", "(I)I"⟩
abbrev cX5_printed : ByteArray := prog_7_method_3_code
def yX5_printed : MethodName := ⟨RX5, "printed", "(I)I"⟩
abbrev cX5_told : ByteArray := prog_7_method_4_code
def yX5_told : MethodName := ⟨RX5, "told", "(I)I"⟩
abbrev cX5_uncaught : ByteArray := prog_7_method_5_code
def yX5_uncaught : MethodName := ⟨RX5, "uncaught", "(I)I"⟩
abbrev cX5_clear : ByteArray := prog_7_method_6_code
def yX5_clear : MethodName := ⟨RX5, "clear", "()V"⟩
abbrev cX9_init : ByteArray := prog_11_method_1_code
def yX9_init : MethodName := ⟨RX9, "<init>", "(LJinjaTongue$Text;)V"⟩
abbrev cX9_judgeNames : ByteArray := prog_11_method_11_code
def yX9_judgeNames : MethodName := ⟨RX9, "judgeNames", "()V"⟩
abbrev cX9_firstRound : ByteArray := prog_11_method_14_code
def yX9_firstRound : MethodName := ⟨RX9, "firstRound", "()V"⟩
abbrev cX9_settle : ByteArray := prog_11_method_13_code
def yX9_settle : MethodName := ⟨RX9, "settle", "()V"⟩
abbrev cX9_resolveTypes : ByteArray := prog_11_method_19_code
def yX9_resolveTypes : MethodName := ⟨RX9, "resolveTypes", "()V"⟩
abbrev cX9_link : ByteArray := prog_11_method_20_code
def yX9_link : MethodName := ⟨RX9, "link", "()V"⟩
abbrev cX9_isAbove : ByteArray := prog_11_method_8_code
def yX9_isAbove : MethodName := ⟨RX9, "isAbove", "(II)Z"⟩
abbrev cX9_thirdRound : ByteArray := prog_11_method_21_code
def yX9_thirdRound : MethodName := ⟨RX9, "thirdRound", "()V"⟩
abbrev cX9_find : ByteArray := prog_11_method_6_code
def yX9_find : MethodName := ⟨RX9, "find", "(I)I"⟩
abbrev cX9_decl : ByteArray := prog_11_method_4_code
def yX9_decl : MethodName := ⟨RX9, "decl", "(I)LJinjaTongue$Decl;"⟩
abbrev cX9_report : ByteArray := prog_11_method_12_code
def yX9_report : MethodName := ⟨RX9, "report", "(II)V"⟩
abbrev cX2_init : ByteArray := prog_4_method_1_code
def yX2_init : MethodName := ⟨RX2, "<init>", "(IIIZ)V"⟩
abbrev cX12_init : ByteArray := prog_14_method_1_code
def yX12_init : MethodName := ⟨RX12, "<init>", "()V"⟩
abbrev cX12_thrown : ByteArray := prog_14_method_2_code
def yX12_thrown : MethodName := ⟨RX12, "thrown", "()I"⟩
abbrev cX12_in : ByteArray := prog_14_method_3_code
def yX12_in : MethodName := ⟨RX12, "in", "(III)Z"⟩
abbrev cX12_feed : ByteArray := prog_14_method_4_code
def yX12_feed : MethodName := ⟨RX12, "feed", "(IIIII)I"⟩
abbrev cX12_back : ByteArray := prog_14_method_5_code
def yX12_back : MethodName := ⟨RX12, "back", "(I)I"⟩
abbrev cX12_ch : ByteArray := prog_14_method_6_code
def yX12_ch : MethodName := ⟨RX12, "ch", "(I)I"⟩
abbrev cX12_built : ByteArray := prog_14_method_11_code
def yX12_built : MethodName := ⟨RX12, "built", "(Ljava/lang/String;)V"⟩
abbrev cX12_cut : ByteArray := prog_14_method_13_code
def yX12_cut : MethodName := ⟨RX12, "cut", "()V"⟩
abbrev cX12_kind : ByteArray := prog_14_method_15_code
def yX12_kind : MethodName := ⟨RX12, "kind", "()I"⟩
abbrev cX12_note : ByteArray := prog_14_method_49_code
def yX12_note : MethodName := ⟨RX12, "note", "(II)V"⟩
abbrev cX12_ends : ByteArray := prog_14_method_50_code
def yX12_ends : MethodName := ⟨RX12, "ends", "()Z"⟩
abbrev cX12_declOf : ByteArray := prog_14_method_51_code
def yX12_declOf : MethodName := ⟨RX12, "declOf", "(I)I"⟩
abbrev cX12_findAbove : ByteArray := prog_14_method_56_code
def yX12_findAbove : MethodName := ⟨RX12, "findAbove", "()V"⟩
abbrev cX12_firstRound : ByteArray := prog_14_method_54_code
def yX12_firstRound : MethodName := ⟨RX12, "firstRound", "()V"⟩
abbrev cX12_thirdRound : ByteArray := prog_14_method_61_code
def yX12_thirdRound : MethodName := ⟨RX12, "thirdRound", "()V"⟩
abbrev cX12_read : ByteArray := prog_14_method_93_code
def yX12_read : MethodName := ⟨RX12, "read", "()I"⟩
abbrev cX12_type : ByteArray := prog_14_method_95_code
def yX12_type : MethodName := ⟨RX12, "type", "(II)I"⟩
abbrev cX12_above : ByteArray := prog_14_method_96_code
def yX12_above : MethodName := ⟨RX12, "above", "(II)I"⟩
abbrev cX12_letter : ByteArray := prog_14_method_97_code
def yX12_letter : MethodName := ⟨RX12, "letter", "(II)I"⟩
abbrev cX12_called : ByteArray := prog_14_method_98_code
def yX12_called : MethodName := ⟨RX12, "called", "(II)I"⟩
abbrev cX12_input : ByteArray := prog_14_method_99_code
def yX12_input : MethodName := ⟨RX12, "input", "(I)I"⟩
abbrev cX12_forget : ByteArray := prog_14_method_100_code
def yX12_forget : MethodName := ⟨RX12, "forget", "()V"⟩
abbrev cX12_run : ByteArray := prog_14_method_120_code
def yX12_run : MethodName := ⟨RX12, "run", "(II)I"⟩
abbrev cX12_result : ByteArray := prog_14_method_145_code
def yX12_result : MethodName := ⟨RX12, "result", "()I"⟩
abbrev cX12_output : ByteArray := prog_14_method_146_code
def yX12_output : MethodName := ⟨RX12, "output", "(I)I"⟩
abbrev cX12_thrown_ : ByteArray := prog_14_method_147_code
def yX12_thrown_ : MethodName := ⟨RX12, "thrown", "(I)I"⟩
abbrev cX12_count : ByteArray := prog_14_method_148_code
def yX12_count : MethodName := ⟨RX12, "count", "(I)I"⟩
abbrev cX12_refusals : ByteArray := prog_14_method_149_code
def yX12_refusals : MethodName := ⟨RX12, "refusals", "()I"⟩
abbrev cJ0_length_8abf5 : ByteArray := prog_27_method_54_code
def yJ0_length_8abf5 : MethodName := ⟨RJ0, "length", "()I"⟩
abbrev cJ0_coder_7d493 : ByteArray := prog_27_method_152_code
def yJ0_coder_7d493 : MethodName := ⟨RJ0, "coder", "()B"⟩
abbrev cJ0_charAt_5068e : ByteArray := prog_27_method_56_code
def yJ0_charAt_5068e : MethodName := ⟨RJ0, "charAt", "(I)C"⟩
abbrev cJ0_isLatin1_aae02 : ByteArray := prog_27_method_154_code
def yJ0_isLatin1_aae02 : MethodName := ⟨RJ0, "isLatin1", "()Z"⟩
abbrev cJ0_checkIndex_df160 : ByteArray := prog_27_method_155_code
def yJ0_checkIndex_df160 : MethodName := ⟨RJ0, "checkIndex", "(II)V"⟩
abbrev cJ1_charAt_3b067 : ByteArray := prog_29_method_2_code
def yJ1_charAt_3b067 : MethodName := ⟨RJ1, "charAt", "([BI)C"⟩
abbrev cJ3_checkIndex_8e157 : ByteArray := prog_43_method_11_code
def yJ3_checkIndex_8e157 : MethodName := ⟨RJ3, "checkIndex", "(IILjava/util/function/BiFunction;)I"⟩
abbrev cJx4a65c_init_da8c8 : ByteArray := prog_35_method_2_code
def yJx4a65c_init_da8c8 : MethodName := ⟨RJx4a65c, "<init>", "()V"⟩
abbrev cJxc12de_init_da8c8 : ByteArray := prog_34_method_1_code
def yJxc12de_init_da8c8 : MethodName := ⟨RJxc12de, "<init>", "()V"⟩
abbrev cJxa1e45_init_da8c8 : ByteArray := prog_33_method_1_code
def yJxa1e45_init_da8c8 : MethodName := ⟨RJxa1e45, "<init>", "()V"⟩
abbrev cJ7_fill_53178 : ByteArray := prog_36_method_103_code
def yJ7_fill_53178 : MethodName := ⟨RJ7, "fill", "([II)V"⟩
abbrev cL_run : ByteArray := method_3_code
def yL_run : MethodName := ⟨RL, "run", "(LJinjaTongue;II[J)I"⟩
abbrev cL_law : ByteArray := code
def yL_law : MethodName := ⟨RL, "law", "([I)Z"⟩
end
section
/-! the words of the tables that the methods reached need: one list for all -/
def pwc_0 : List Cond := [Cond.methodLink RX11 1 objectInit, Cond.fieldLink RX11 9 "JinjaTongue" "tape" "[B", Cond.classLink RX11 13 RX10, Cond.methodLink RX11 15 yX10_init, Cond.fieldLink RX11 16 "JinjaTongue" "text" "LJinjaTongue$Text;", Cond.classLink RX11 20 RX1, Cond.methodLink RX11 22 yX1_init, Cond.fieldLink RX11 23 "JinjaTongue" "code" "LJinjaTongue$Code;", Cond.classLink RX11 27 RX8, Cond.methodLink RX11 29 yX8_init, Cond.fieldLink RX11 32 "JinjaTongue" "parser" "LJinjaTongue$Parser;", Cond.classLink RX11 36 RX0, Cond.methodLink RX11 38 yX0_init, Cond.fieldLink RX11 41 "JinjaTongue" "bodies" "LJinjaTongue$Bodies;", Cond.classLink RX11 45 RX5, Cond.methodLink RX11 47 yX5_init, Cond.fieldLink RX11 50 "JinjaTongue" "machine" "LJinjaTongue$Machine;", Cond.fieldLink RX11 54 "JinjaTongue" "tapeLength" "I", Cond.methodLink RX11 58 yX11_append, Cond.methodLink RX11 62 yX10_split, Cond.methodLink RX11 66 yX5_clear, Cond.fieldLink RX11 69 "JinjaTongue" "program" "LJinjaTongue$Program;", Cond.classLink RX11 73 RX9, Cond.methodLink RX11 75 yX9_init, Cond.methodLink RX11 76 yX8_parse, Cond.methodLink RX11 80 yX9_judgeNames, Cond.fieldLink RX11 88 "JinjaTongue$Text" "fault" "I", Cond.methodLink RX11 91 yX9_decl, Cond.methodLink RX11 95 yX11_declared, Cond.fieldLink RX11 98 "JinjaTongue$Decl" "parent" "LJinjaTongue$Decl;", Cond.fieldLink RX11 104 "JinjaTongue$Decl" "number" "I", Cond.fieldLink RX11 107 "JinjaTongue$Decl" "layout" "Ljava/util/ArrayList;", Cond.fieldLink RX11 117 "JinjaTongue$Decl" "known" "Ljava/util/ArrayList;", Cond.fieldLink RX11 120 "JinjaTongue$Decl" "isInterface" "Z", Cond.fieldLink RX11 124 "JinjaTongue$Decl" "above" "J", Cond.methodLink RX11 137 yX9_isAbove, Cond.fieldLink RX11 141 "JinjaTongue$Decl" "name" "I", Cond.fieldLink RX11 152 "JinjaTongue$Method" "name" "I", Cond.fieldLink RX11 158 "JinjaTongue$Method" "number" "I", Cond.methodLink RX11 159 yX5_takeInput]
def pwc_1 : List Cond := [Cond.fieldLink RX11 163 "JinjaTongue$Machine" "inputs" "I", Cond.classLink RX11 166 "java/lang/IllegalArgumentException", Cond.classLink RX11 86 "java/lang/IllegalStateException", Cond.fieldLink RX11 183 "JinjaTongue$Machine" "result" "I", Cond.methodLink RX11 186 yX5_printed, Cond.methodLink RX11 189 yX5_uncaught, Cond.fieldLink RX11 192 "JinjaTongue$Text" "size" "I", Cond.fieldLink RX11 194 "JinjaTongue$Program" "size" "I", Cond.fieldLink RX11 195 "JinjaTongue$Program" "methods" "Ljava/util/ArrayList;", Cond.methodLink RX11 198 yX5_told, Cond.fieldLink RX11 201 "JinjaTongue$Machine" "refusals" "I", Cond.methodLink RX10 5 objectInit, Cond.methodLink RX10 17 yJ0_length_8abf5, Cond.fieldLink RX10 23 "JinjaTongue$Text" "spelled" "I", Cond.fieldLink RX10 27 "JinjaTongue$Text" "bytes" "[B", Cond.methodLink RX10 31 yX10_spell, Cond.fieldLink RX10 35 "JinjaTongue$Text" "kinds" "[I", Cond.fieldLink RX10 39 "JinjaTongue$Text" "places" "[I", Cond.fieldLink RX10 42 "JinjaTongue$Text" "values" "[I", Cond.fieldLink RX10 45 "JinjaTongue$Text" "roles" "[B", Cond.fieldLink RX10 48 "JinjaTongue$Text" "types" "[I", Cond.fieldLink RX10 51 "JinjaTongue$Text" "nameStarts" "[I", Cond.fieldLink RX10 54 "JinjaTongue$Text" "nameLengths" "[I", Cond.fieldLink RX10 57 "JinjaTongue$Text" "nameNexts" "[I", Cond.fieldLink RX10 60 "JinjaTongue$Text" "buckets" "[I", Cond.methodLink RX10 63 yJ0_charAt_5068e, Cond.methodLink RX10 67 Lib.Math.min.name, Cond.methodLink RX10 73 Lib.Math.max.name, Cond.fieldLink RX10 76 "JinjaTongue$Text" "length" "I", Cond.methodLink RX10 78 arraycopyName, Cond.fieldLink RX10 84 "JinjaTongue$Text" "size" "I", Cond.fieldLink RX10 87 "JinjaTongue$Text" "fault" "I", Cond.methodLink RX10 90 yX10_learnBuiltIn, Cond.methodLink RX10 93 yX10_pastBlanks, Cond.fieldLink RX10 100 "JinjaTongue$Text" "names" "I", Cond.methodLink RX10 103 yJ7_fill_53178, Cond.methodLink RX10 109 yX10_nameOf, Cond.methodLink RX10 144 yX10_isSpelledAlike, Cond.methodLink RX1 3 objectInit, Cond.fieldLink RX1 11 "JinjaTongue$Code" "operations" "[I"]
def pwc_2 : List Cond := [Cond.fieldLink RX1 15 "JinjaTongue$Code" "lefts" "[I", Cond.fieldLink RX1 18 "JinjaTongue$Code" "rights" "[I", Cond.fieldLink RX1 21 "JinjaTongue$Code" "helds" "[I", Cond.fieldLink RX1 24 "JinjaTongue$Code" "starts" "[I", Cond.fieldLink RX1 27 "JinjaTongue$Code" "ends" "[I", Cond.fieldLink RX1 30 "JinjaTongue$Code" "handlers" "[I", Cond.fieldLink RX1 33 "JinjaTongue$Code" "classes" "[I", Cond.fieldLink RX1 36 "JinjaTongue$Code" "slots" "[I", Cond.methodLink RX8 1 objectInit, Cond.fieldLink RX8 7 "JinjaTongue$Parser" "text" "LJinjaTongue$Text;", Cond.fieldLink RX8 13 "JinjaTongue$Parser" "program" "LJinjaTongue$Program;", Cond.fieldLink RX8 17 "JinjaTongue$Parser" "at" "I", Cond.fieldLink RX8 21 "JinjaTongue$Parser" "depth" "I", Cond.fieldLink RX8 24 "JinjaTongue$Parser" "signs" "I", Cond.fieldLink RX8 27 "JinjaTongue$Text" "size" "I", Cond.fieldLink RX8 40 "JinjaTongue$Decl" "isInterface" "Z", Cond.methodLink RX0 3 objectInit, Cond.fieldLink RX0 9 "JinjaTongue$Bodies" "text" "LJinjaTongue$Text;", Cond.fieldLink RX0 15 "JinjaTongue$Bodies" "code" "LJinjaTongue$Code;", Cond.fieldLink RX0 19 "JinjaTongue$Bodies" "names" "[I", Cond.fieldLink RX0 23 "JinjaTongue$Bodies" "types" "[I", Cond.fieldLink RX0 26 "JinjaTongue$Bodies" "slots" "[I", Cond.methodLink RX3 7 objectInit, Cond.fieldLink RX3 13 "JinjaTongue$Heap" "space" "[J", Cond.fieldLink RX3 17 "JinjaTongue$Heap" "other" "[J", Cond.fieldLink RX3 20 "JinjaTongue$Heap" "top" "I", Cond.methodLink RX5 5 objectInit, Cond.fieldLink RX5 11 "JinjaTongue$Machine" "code" "LJinjaTongue$Code;", Cond.classLink RX5 15 RX3, Cond.methodLink RX5 17 yX3_init, Cond.fieldLink RX5 18 "JinjaTongue$Machine" "heap" "LJinjaTongue$Heap;", Cond.fieldLink RX5 22 "JinjaTongue$Machine" "stack" "[J", Cond.fieldLink RX5 26 "JinjaTongue$Machine" "frames" "[I", Cond.fieldLink RX5 30 "JinjaTongue$Machine" "input" "[I", Cond.fieldLink RX5 33 "JinjaTongue$Machine" "output" "[I", Cond.fieldLink RX5 36 "JinjaTongue$Machine" "tally" "[I", Cond.fieldLink RX5 39 "JinjaTongue$Machine" "inputs" "I", Cond.fieldLink RX5 43 "JinjaTongue$Machine" "raised" "J", Cond.fieldLink RX5 47 "JinjaTongue$Machine" "program" "LJinjaTongue$Program;", Cond.methodLink RX5 55 yX9_decl]
def pwc_3 : List Cond := [Cond.fieldLink RX5 61 "JinjaTongue$Decl" "layout" "Ljava/util/ArrayList;", Cond.fieldLink RX5 73 "JinjaTongue$Decl" "number" "I", Cond.methodLink RX5 84 yJ7_fill_53178, Cond.fieldLink RX5 90 "JinjaTongue$Machine" "result" "I", Cond.fieldLink RX5 93 "JinjaTongue$Machine" "open" "I", Cond.fieldLink RX5 96 "JinjaTongue$Machine" "method" "LJinjaTongue$Method;", Cond.fieldLink RX5 100 "JinjaTongue$Machine" "base" "I", Cond.fieldLink RX5 103 "JinjaTongue$Machine" "top" "I", Cond.fieldLink RX5 106 "JinjaTongue$Machine" "pc" "I", Cond.methodLink RX9 3 objectInit, Cond.fieldLink RX9 9 "JinjaTongue$Program" "text" "LJinjaTongue$Text;", Cond.classLink RX9 15 RX2, Cond.fieldLink RX9 17 "JinjaTongue$Program" "decls" "[LJinjaTongue$Decl;", Cond.classLink RX9 21 RJx4a65c, Cond.methodLink RX9 23 yJx4a65c_init_da8c8, Cond.fieldLink RX9 24 "JinjaTongue$Program" "methods" "Ljava/util/ArrayList;", Cond.methodLink RX9 30 yX2_init, Cond.fieldLink RX9 33 "JinjaTongue$Program" "size" "I", Cond.constant RX9 37 (2147483647), Cond.fieldLink RX9 38 "JinjaTongue$Program" "least" "I", Cond.methodLink RX9 72 yX9_firstRound, Cond.methodLink RX9 75 yX9_settle, Cond.methodLink RX9 78 yX9_resolveTypes, Cond.methodLink RX9 81 yX9_link, Cond.methodLink RX9 65 yX9_isAbove, Cond.fieldLink RX9 84 "JinjaTongue$Decl" "token" "I", Cond.methodLink RX9 87 yX9_report, Cond.methodLink RX9 91 yX9_thirdRound, Cond.fieldLink RX9 54 "JinjaTongue$Decl" "name" "I", Cond.methodLink RX9 116 yX9_find, Cond.fieldLink RX9 126 "JinjaTongue$Text" "size" "I", Cond.fieldLink RX9 106 "JinjaTongue$Text" "fault" "I", Cond.classLink RX9 109 "java/lang/IllegalStateException", Cond.fieldLink RX9 57 "JinjaTongue$Decl" "above" "J", Cond.fieldLink RX9 164 "JinjaTongue$Decl" "isInterface" "Z", Cond.fieldLink RX9 148 "JinjaTongue$Decl" "extended" "I", Cond.methodLink RX9 160 yX9_decl, Cond.fieldLink RX9 174 "JinjaTongue$Decl" "parent" "LJinjaTongue$Decl;", Cond.fieldLink RX9 178 "JinjaTongue$Decl" "number" "I", Cond.fieldLink RX9 154 "JinjaTongue$Decl" "listSize" "I"]
def pwc_4 : List Cond := [Cond.fieldLink RX9 157 "JinjaTongue$Decl" "listed" "I", Cond.fieldLink RX9 191 "JinjaTongue$Method" "first" "I", Cond.fieldLink RX9 197 "JinjaTongue$Method" "parameters" "Ljava/util/ArrayList;", Cond.methodLink RX9 97 yX10_placeAt, Cond.methodLink RX9 100 Lib.Math.min.name, Cond.methodLink RX2 3 objectInit, Cond.fieldLink RX2 9 "JinjaTongue$Decl" "number" "I", Cond.fieldLink RX2 15 "JinjaTongue$Decl" "name" "I", Cond.fieldLink RX2 18 "JinjaTongue$Decl" "token" "I", Cond.fieldLink RX2 21 "JinjaTongue$Decl" "isInterface" "Z", Cond.fieldLink RX2 25 "JinjaTongue$Decl" "extended" "I", Cond.classLink RX2 28 RJx4a65c, Cond.methodLink RX2 30 yJx4a65c_init_da8c8, Cond.fieldLink RX2 31 "JinjaTongue$Decl" "fields" "Ljava/util/ArrayList;", Cond.fieldLink RX2 35 "JinjaTongue$Decl" "methods" "Ljava/util/ArrayList;", Cond.fieldLink RX2 38 "JinjaTongue$Decl" "layout" "Ljava/util/ArrayList;", Cond.fieldLink RX2 41 "JinjaTongue$Decl" "known" "Ljava/util/ArrayList;", Cond.methodLink RX12 1 objectInit, Cond.fieldLink RX12 7 "JinjaTongueModel" "tape" "[I", Cond.fieldLink RX12 13 "JinjaTongueModel" "text" "[I", Cond.fieldLink RX12 16 "JinjaTongueModel" "tKind" "[I", Cond.fieldLink RX12 19 "JinjaTongueModel" "tFrom" "[I", Cond.fieldLink RX12 22 "JinjaTongueModel" "tTo" "[I", Cond.fieldLink RX12 25 "JinjaTongueModel" "tValue" "[I", Cond.fieldLink RX12 28 "JinjaTongueModel" "nameAt" "[I", Cond.fieldLink RX12 31 "JinjaTongueModel" "nameSize" "[I", Cond.fieldLink RX12 34 "JinjaTongueModel" "nameBytes" "[B", Cond.fieldLink RX12 38 "JinjaTongueModel" "nKind" "[I", Cond.fieldLink RX12 41 "JinjaTongueModel" "nFirst" "[I", Cond.fieldLink RX12 44 "JinjaTongueModel" "nToken" "[I", Cond.fieldLink RX12 47 "JinjaTongueModel" "nA" "[I", Cond.fieldLink RX12 50 "JinjaTongueModel" "nB" "[I", Cond.fieldLink RX12 53 "JinjaTongueModel" "nC" "[I", Cond.fieldLink RX12 56 "JinjaTongueModel" "nD" "[I", Cond.fieldLink RX12 59 "JinjaTongueModel" "nNext" "[I", Cond.fieldLink RX12 62 "JinjaTongueModel" "nType" "[I", Cond.fieldLink RX12 65 "JinjaTongueModel" "nMeans" "[I", Cond.fieldLink RX12 68 "JinjaTongueModel" "yToken" "[I", Cond.fieldLink RX12 71 "JinjaTongueModel" "yRow" "[Z", Cond.fieldLink RX12 75 "JinjaTongueModel" "yCode" "[I"]
def pwc_5 : List Cond := [Cond.fieldLink RX12 78 "JinjaTongueModel" "lToken" "[I", Cond.fieldLink RX12 81 "JinjaTongueModel" "lNext" "[I", Cond.fieldLink RX12 84 "JinjaTongueModel" "dName" "[I", Cond.fieldLink RX12 87 "JinjaTongueModel" "dToken" "[I", Cond.fieldLink RX12 90 "JinjaTongueModel" "dIsInterface" "[Z", Cond.fieldLink RX12 93 "JinjaTongueModel" "dExtends" "[I", Cond.fieldLink RX12 96 "JinjaTongueModel" "dImplements" "[I", Cond.fieldLink RX12 99 "JinjaTongueModel" "dSuper" "[I", Cond.fieldLink RX12 102 "JinjaTongueModel" "dCells" "[I", Cond.fieldLink RX12 105 "JinjaTongueModel" "dAbove" "[Z", Cond.fieldLink RX12 108 "JinjaTongueModel" "fOf" "[I", Cond.fieldLink RX12 111 "JinjaTongueModel" "fName" "[I", Cond.fieldLink RX12 114 "JinjaTongueModel" "fToken" "[I", Cond.fieldLink RX12 117 "JinjaTongueModel" "fType" "[I", Cond.fieldLink RX12 120 "JinjaTongueModel" "mOf" "[I", Cond.fieldLink RX12 123 "JinjaTongueModel" "mName" "[I", Cond.fieldLink RX12 126 "JinjaTongueModel" "mToken" "[I", Cond.fieldLink RX12 129 "JinjaTongueModel" "mResult" "[I", Cond.fieldLink RX12 132 "JinjaTongueModel" "mFirst" "[I", Cond.fieldLink RX12 135 "JinjaTongueModel" "mMany" "[I", Cond.fieldLink RX12 138 "JinjaTongueModel" "mBlock" "[I", Cond.fieldLink RX12 141 "JinjaTongueModel" "mEnd" "[I", Cond.fieldLink RX12 144 "JinjaTongueModel" "mNumber" "[I", Cond.fieldLink RX12 147 "JinjaTongueModel" "pName" "[I", Cond.fieldLink RX12 150 "JinjaTongueModel" "pToken" "[I", Cond.fieldLink RX12 153 "JinjaTongueModel" "pType" "[I", Cond.fieldLink RX12 156 "JinjaTongueModel" "vName" "[I", Cond.fieldLink RX12 159 "JinjaTongueModel" "vType" "[I", Cond.fieldLink RX12 162 "JinjaTongueModel" "inputs" "[I", Cond.fieldLink RX12 165 "JinjaTongueModel" "output" "[I", Cond.fieldLink RX12 168 "JinjaTongueModel" "nUp" "[I", Cond.fieldLink RX12 171 "JinjaTongueModel" "fPlace" "[I", Cond.constant RX12 174 (204000), Cond.fieldLink RX12 175 "JinjaTongueModel" "choiceOf" "[I", Cond.fieldLink RX12 178 "JinjaTongueModel" "oClass" "[I", Cond.fieldLink RX12 181 "JinjaTongueModel" "oSort" "[I", Cond.fieldLink RX12 184 "JinjaTongueModel" "oMany" "[I", Cond.fieldLink RX12 187 "JinjaTongueModel" "oAt" "[I", Cond.fieldLink RX12 190 "JinjaTongueModel" "oSeen" "[Z", Cond.fieldLink RX12 193 "JinjaTongueModel" "cells" "[I"]
def pwc_6 : List Cond := [Cond.fieldLink RX12 196 "JinjaTongueModel" "todo" "[I", Cond.fieldLink RX12 199 "JinjaTongueModel" "cThis" "[I", Cond.fieldLink RX12 202 "JinjaTongueModel" "cScope" "[I", Cond.fieldLink RX12 205 "JinjaTongueModel" "cValues" "[I", Cond.fieldLink RX12 208 "JinjaTongueModel" "cNode" "[I", Cond.fieldLink RX12 211 "JinjaTongueModel" "variable" "[I", Cond.fieldLink RX12 214 "JinjaTongueModel" "variableRefers" "[Z", Cond.constant RX12 217 (40000), Cond.fieldLink RX12 218 "JinjaTongueModel" "stack" "[I", Cond.fieldLink RX12 221 "JinjaTongueModel" "refers" "[Z", Cond.fieldLink RX12 224 "JinjaTongueModel" "waitKind" "[I", Cond.fieldLink RX12 227 "JinjaTongueModel" "waitValue" "[I", Cond.fieldLink RX12 230 "JinjaTongueModel" "waitRefers" "[Z", Cond.fieldLink RX12 233 "JinjaTongueModel" "ended" "I", Cond.fieldLink RX12 237 "JinjaTongueModel" "order" "[I", Cond.fieldLink RX12 240 "JinjaTongueModel" "idle" "[I", Cond.fieldLink RX12 243 "JinjaTongueModel" "refFrom" "[I", Cond.fieldLink RX12 246 "JinjaTongueModel" "refMany" "[I", Cond.fieldLink RX12 249 "JinjaTongueModel" "refPlace" "[I", Cond.fieldLink RX12 252 "JinjaTongueModel" "thrown" "I", Cond.fieldLink RX12 255 "JinjaTongueModel" "taped" "I", Cond.fieldLink RX12 258 "JinjaTongueModel" "size" "I", Cond.fieldLink RX12 277 "JinjaTongueModel" "names" "I", Cond.fieldLink RX12 280 "JinjaTongueModel" "nameUsed" "I", Cond.methodLink RX12 267 yJ0_length_8abf5, Cond.methodLink RX12 273 yJ0_charAt_5068e, Cond.methodLink RX12 294 yX12_built, Cond.fieldLink RX12 314 "JinjaTongueModel" "tokens" "I", Cond.methodLink RX12 283 yX12_ch, Cond.constantLong RX12 331 (10), Cond.constantLong RX12 333 (48), Cond.constantLong RX12 335 (2147483647), Cond.fieldLink RX12 343 "JinjaTongueModel" "at" "I", Cond.fieldLink RX12 493 "JinjaTongueModel" "roundWhat" "I", Cond.fieldLink RX12 496 "JinjaTongueModel" "roundAt" "I", Cond.fieldLink RX12 350 "JinjaTongueModel" "fault" "I", Cond.fieldLink RX12 353 "JinjaTongueModel" "faultPlace" "I", Cond.fieldLink RX12 384 "JinjaTongueModel" "decls" "I", Cond.methodLink RX12 499 yX12_declOf, Cond.methodLink RX12 502 yX12_note]
def pwc_7 : List Cond := [Cond.fieldLink RX12 413 "JinjaTongueModel" "fields" "I", Cond.fieldLink RX12 416 "JinjaTongueModel" "methods" "I", Cond.fieldLink RX12 399 "JinjaTongueModel" "written" "I", Cond.fieldLink RX12 340 "JinjaTongueModel" "nodes" "I", Cond.fieldLink RX12 649 "JinjaTongueModel" "hasProgram" "Z", Cond.fieldLink RX12 653 "JinjaTongueModel" "hasRun" "Z", Cond.fieldLink RX12 656 "JinjaTongueModel" "outputs" "I", Cond.methodLink RX12 659 yX12_cut, Cond.fieldLink RX12 372 "JinjaTongueModel" "listed" "I", Cond.fieldLink RX12 419 "JinjaTongueModel" "parameters" "I", Cond.fieldLink RX12 422 "JinjaTongueModel" "blocks" "I", Cond.fieldLink RX12 366 "JinjaTongueModel" "nest" "I", Cond.methodLink RX12 381 yX12_kind, Cond.methodLink RX12 665 yX12_firstRound, Cond.methodLink RX12 668 yX12_ends, Cond.methodLink RX12 671 yX12_findAbove, Cond.methodLink RX12 674 yX12_thirdRound, Cond.methodLink RX12 261 yX12_in, Cond.fieldLink RX12 689 "JinjaTongueModel" "inputMany" "I", Cond.fieldLink RX12 748 "JinjaTongueModel" "fuel" "I", Cond.fieldLink RX12 733 "JinjaTongueModel" "room" "I", Cond.fieldLink RX12 763 "JinjaTongueModel" "result" "I", Cond.fieldLink RX12 766 "JinjaTongueModel" "uncaught" "I", Cond.fieldLink RX12 769 "JinjaTongueModel" "readMany" "I", Cond.fieldLink RX12 739 "JinjaTongueModel" "made" "I", Cond.fieldLink RX12 742 "JinjaTongueModel" "madeCells" "I", Cond.fieldLink RX12 772 "JinjaTongueModel" "calls" "I", Cond.fieldLink RX12 775 "JinjaTongueModel" "mostOpen" "I", Cond.fieldLink RX12 707 "JinjaTongueModel" "open" "I", Cond.fieldLink RX12 698 "JinjaTongueModel" "top" "I", Cond.fieldLink RX12 713 "JinjaTongueModel" "waits" "I", Cond.fieldLink RX12 719 "JinjaTongueModel" "filled" "I", Cond.fieldLink RX12 722 "JinjaTongueModel" "cellTop" "I", Cond.fieldLink RX12 704 "JinjaTongueModel" "orders" "I", Cond.fieldLink RX12 725 "JinjaTongueModel" "idles" "I", Cond.fieldLink RX12 754 "JinjaTongueModel" "isNew" "Z", Cond.fieldLink RX12 751 "JinjaTongueModel" "now" "I", Cond.fieldLink RJ0 9 "java/lang/String" "value" "[B", Cond.methodLink RJ0 335 yJ0_coder_7d493, Cond.fieldLink RJ0 38 "java/lang/String" "COMPACT_STRINGS" "Z"]
def pwc_8 : List Cond := [Cond.fieldLink RJ0 15 "java/lang/String" "coder" "B", Cond.methodLink RJ0 492 yJ0_isLatin1_aae02, Cond.methodLink RJ0 495 yJ1_charAt_3b067, Cond.fieldLink RJ0 1053 "jdk/internal/util/Preconditions" "SIOOBE_FORMATTER" "Ljava/util/function/BiFunction;", Cond.methodLink RJ0 1059 yJ3_checkIndex_8e157, Cond.methodLink RJ1 9 yJ0_checkIndex_df160, Cond.methodLink RJx4a65c 1 yJxc12de_init_da8c8, Cond.fieldLink RJx4a65c 39 "java/util/ArrayList" "DEFAULTCAPACITY_EMPTY_ELEMENTDATA" "[Ljava/lang/Object;", Cond.fieldLink RJx4a65c 9 "java/util/ArrayList" "elementData" "[Ljava/lang/Object;", Cond.methodLink RJxc12de 1 yJxa1e45_init_da8c8, Cond.fieldLink RJxc12de 7 "java/util/AbstractList" "modCount" "I", Cond.methodLink RJxa1e45 1 objectInit, Cond.methodLink RL 7 yX11_run, Cond.classLink RL 8 RX11, Cond.methodLink RL 17 yX11_init, Cond.classLink RL 18 RX12, Cond.methodLink RL 20 yX12_init, Cond.methodLink RL 21 yX11_feed, Cond.methodLink RL 25 yX12_feed, Cond.methodLink RL 26 yX11_back, Cond.methodLink RL 30 yX12_back, Cond.methodLink RL 31 yX11_read, Cond.methodLink RL 35 yX12_read, Cond.methodLink RL 36 yX11_type, Cond.methodLink RL 39 yX12_type, Cond.methodLink RL 40 yX11_above, Cond.methodLink RL 43 yX12_above, Cond.methodLink RL 44 yX11_letter, Cond.methodLink RL 47 yX12_letter, Cond.methodLink RL 48 yX11_called, Cond.methodLink RL 51 yX12_called, Cond.methodLink RL 52 yX11_input, Cond.methodLink RL 55 yX12_input, Cond.methodLink RL 56 yX11_forget, Cond.methodLink RL 59 yX12_forget, Cond.methodLink RL 60 yL_run, Cond.methodLink RL 65 yX12_run, Cond.methodLink RL 66 yX12_thrown, Cond.methodLink RL 69 yX11_result, Cond.methodLink RL 72 yX12_result]
def pwc_9 : List Cond := [Cond.methodLink RL 73 yX11_output, Cond.methodLink RL 76 yX12_output, Cond.methodLink RL 77 yX11_thrown, Cond.methodLink RL 79 yX12_thrown_, Cond.methodLink RL 80 yX11_count, Cond.methodLink RL 83 yX12_count, Cond.methodLink RL 84 yX11_refusals, Cond.methodLink RL 87 yX12_refusals, Cond.code yX11_init cX11_init 1 none, Cond.instanceMethod yX11_init, Cond.initialized RX11, Cond.code yX11_feed cX11_feed 6 (some .int), Cond.instanceMethod yX11_feed, Cond.selects RX11 yX11_feed yX11_feed, Cond.code yX11_append cX11_append 3 none, Cond.instanceMethod yX11_append, Cond.selects RX11 yX11_append yX11_append, Cond.code yX11_back cX11_back 2 (some .int), Cond.instanceMethod yX11_back, Cond.selects RX11 yX11_back yX11_back, Cond.codeWith yX11_read cX11_read 3 (some .int) [(44, 64, 67, 86)], Cond.instanceMethod yX11_read, Cond.selects RX11 yX11_read yX11_read, Cond.code yX11_declared cX11_declared 2 (some (.object "JinjaTongue$Decl")), Cond.instanceMethod yX11_declared, Cond.selects RX11 yX11_declared yX11_declared, Cond.code yX11_type cX11_type 4 (some .int), Cond.instanceMethod yX11_type, Cond.selects RX11 yX11_type yX11_type, Cond.code yX11_above cX11_above 3 (some .int), Cond.instanceMethod yX11_above, Cond.selects RX11 yX11_above yX11_above, Cond.code yX11_letter cX11_letter 4 (some .int), Cond.instanceMethod yX11_letter, Cond.selects RX11 yX11_letter yX11_letter, Cond.code yX11_called cX11_called 6 (some .int), Cond.instanceMethod yX11_called, Cond.selects RX11 yX11_called yX11_called, Cond.code yX11_input cX11_input 2 (some .int), Cond.instanceMethod yX11_input]
def pwc_10 : List Cond := [Cond.selects RX11 yX11_input yX11_input, Cond.code yX11_forget cX11_forget 1 none, Cond.instanceMethod yX11_forget, Cond.selects RX11 yX11_forget yX11_forget, Cond.code yX11_run cX11_run 3 (some .int), Cond.instanceMethod yX11_run, Cond.selects RX11 yX11_run yX11_run, Cond.code yX11_result cX11_result 1 (some .int), Cond.instanceMethod yX11_result, Cond.selects RX11 yX11_result yX11_result, Cond.code yX11_output cX11_output 2 (some .int), Cond.instanceMethod yX11_output, Cond.selects RX11 yX11_output yX11_output, Cond.code yX11_thrown cX11_thrown 2 (some .int), Cond.instanceMethod yX11_thrown, Cond.selects RX11 yX11_thrown yX11_thrown, Cond.code yX11_count cX11_count 2 (some .int), Cond.instanceMethod yX11_count, Cond.selects RX11 yX11_count yX11_count, Cond.code yX11_refusals cX11_refusals 1 (some .int), Cond.instanceMethod yX11_refusals, Cond.selects RX11 yX11_refusals yX11_refusals, Cond.code yX10_init cX10_init 4 none, Cond.instanceMethod yX10_init, Cond.initialized RX10, Cond.code yX10_spell cX10_spell 4 none, Cond.instanceMethod yX10_spell, Cond.selects RX10 yX10_spell yX10_spell, Cond.code yX10_split cX10_split 6 none, Cond.instanceMethod yX10_split, Cond.selects RX10 yX10_split yX10_split, Cond.code yX10_learnBuiltIn cX10_learnBuiltIn 3 none, Cond.instanceMethod yX10_learnBuiltIn, Cond.selects RX10 yX10_learnBuiltIn yX10_learnBuiltIn, Cond.code yX10_pastBlanks cX10_pastBlanks 5 (some .int), Cond.instanceMethod yX10_pastBlanks, Cond.selects RX10 yX10_pastBlanks yX10_pastBlanks, Cond.code yX10_nameOf cX10_nameOf 7 (some .int), Cond.instanceMethod yX10_nameOf, Cond.selects RX10 yX10_nameOf yX10_nameOf]
def pwc_11 : List Cond := [Cond.code yX10_isSpelledAlike cX10_isSpelledAlike 5 (some .boolean), Cond.instanceMethod yX10_isSpelledAlike, Cond.selects RX10 yX10_isSpelledAlike yX10_isSpelledAlike, Cond.code yX10_placeAt cX10_placeAt 2 (some .int), Cond.instanceMethod yX10_placeAt, Cond.selects RX10 yX10_placeAt yX10_placeAt, Cond.code yX1_init cX1_init 1 none, Cond.instanceMethod yX1_init, Cond.initialized RX1, Cond.code yX8_init cX8_init 2 none, Cond.instanceMethod yX8_init, Cond.initialized RX8, Cond.code yX8_parse cX8_parse 5 none, Cond.instanceMethod yX8_parse, Cond.selects RX8 yX8_parse yX8_parse, Cond.code yX0_init cX0_init 3 none, Cond.instanceMethod yX0_init, Cond.initialized RX0, Cond.code yX3_init cX3_init 2 none, Cond.instanceMethod yX3_init, Cond.initialized RX3, Cond.code yX5_init cX5_init 2 none, Cond.instanceMethod yX5_init, Cond.initialized RX5, Cond.code yX5_takeInput cX5_takeInput 2 (some .int), Cond.instanceMethod yX5_takeInput, Cond.selects RX5 yX5_takeInput yX5_takeInput, Cond.code yX5_printed cX5_printed 2 (some .int), Cond.instanceMethod yX5_printed, Cond.selects RX5 yX5_printed yX5_printed, Cond.code yX5_told cX5_told 2 (some .int), Cond.instanceMethod yX5_told, Cond.selects RX5 yX5_told yX5_told, Cond.code yX5_uncaught cX5_uncaught 5 (some .int), Cond.instanceMethod yX5_uncaught, Cond.selects RX5 yX5_uncaught yX5_uncaught, Cond.code yX5_clear cX5_clear 1 none, Cond.instanceMethod yX5_clear, Cond.selects RX5 yX5_clear yX5_clear, Cond.code yX9_init cX9_init 3 none]
def pwc_12 : List Cond := [Cond.instanceMethod yX9_init, Cond.initialized RX9, Cond.code yX9_judgeNames cX9_judgeNames 2 none, Cond.instanceMethod yX9_judgeNames, Cond.selects RX9 yX9_judgeNames yX9_judgeNames, Cond.code yX9_firstRound cX9_firstRound 3 none, Cond.instanceMethod yX9_firstRound, Cond.selects RX9 yX9_firstRound yX9_firstRound, Cond.code yX9_settle cX9_settle 1 none, Cond.instanceMethod yX9_settle, Cond.selects RX9 yX9_settle yX9_settle, Cond.code yX9_resolveTypes cX9_resolveTypes 4 none, Cond.instanceMethod yX9_resolveTypes, Cond.selects RX9 yX9_resolveTypes yX9_resolveTypes, Cond.code yX9_link cX9_link 4 none, Cond.instanceMethod yX9_link, Cond.selects RX9 yX9_link yX9_link, Cond.code yX9_isAbove cX9_isAbove 3 (some .boolean), Cond.instanceMethod yX9_isAbove, Cond.selects RX9 yX9_isAbove yX9_isAbove, Cond.code yX9_thirdRound cX9_thirdRound 4 none, Cond.instanceMethod yX9_thirdRound, Cond.selects RX9 yX9_thirdRound yX9_thirdRound, Cond.code yX9_find cX9_find 3 (some .int), Cond.instanceMethod yX9_find, Cond.selects RX9 yX9_find yX9_find, Cond.code yX9_decl cX9_decl 2 (some (.object "JinjaTongue$Decl")), Cond.instanceMethod yX9_decl, Cond.selects RX9 yX9_decl yX9_decl, Cond.code yX9_report cX9_report 3 none, Cond.instanceMethod yX9_report, Cond.selects RX9 yX9_report yX9_report, Cond.code yX2_init cX2_init 5 none, Cond.instanceMethod yX2_init, Cond.initialized RX2, Cond.code yX12_init cX12_init 1 none, Cond.instanceMethod yX12_init, Cond.initialized RX12, Cond.code yX12_thrown cX12_thrown 1 (some .int), Cond.instanceMethod yX12_thrown]
def pwc_13 : List Cond := [Cond.selects RX12 yX12_thrown yX12_thrown, Cond.code yX12_in cX12_in 3 (some .boolean), Cond.static yX12_in, Cond.code yX12_feed cX12_feed 8 (some .int), Cond.instanceMethod yX12_feed, Cond.selects RX12 yX12_feed yX12_feed, Cond.code yX12_back cX12_back 2 (some .int), Cond.instanceMethod yX12_back, Cond.selects RX12 yX12_back yX12_back, Cond.code yX12_ch cX12_ch 2 (some .int), Cond.instanceMethod yX12_ch, Cond.selects RX12 yX12_ch yX12_ch, Cond.code yX12_built cX12_built 3 none, Cond.instanceMethod yX12_built, Cond.selects RX12 yX12_built yX12_built, Cond.code yX12_cut cX12_cut 9 none, Cond.instanceMethod yX12_cut, Cond.selects RX12 yX12_cut yX12_cut, Cond.code yX12_kind cX12_kind 1 (some .int), Cond.instanceMethod yX12_kind, Cond.selects RX12 yX12_kind yX12_kind, Cond.code yX12_note cX12_note 4 none, Cond.instanceMethod yX12_note, Cond.selects RX12 yX12_note yX12_note, Cond.code yX12_ends cX12_ends 1 (some .boolean), Cond.instanceMethod yX12_ends, Cond.selects RX12 yX12_ends yX12_ends, Cond.code yX12_declOf cX12_declOf 3 (some .int), Cond.instanceMethod yX12_declOf, Cond.selects RX12 yX12_declOf yX12_declOf, Cond.code yX12_findAbove cX12_findAbove 4 none, Cond.instanceMethod yX12_findAbove, Cond.selects RX12 yX12_findAbove yX12_findAbove, Cond.code yX12_firstRound cX12_firstRound 4 none, Cond.instanceMethod yX12_firstRound, Cond.selects RX12 yX12_firstRound yX12_firstRound, Cond.code yX12_thirdRound cX12_thirdRound 5 none, Cond.instanceMethod yX12_thirdRound, Cond.selects RX12 yX12_thirdRound yX12_thirdRound, Cond.code yX12_read cX12_read 3 (some .int)]
def pwc_14 : List Cond := [Cond.instanceMethod yX12_read, Cond.selects RX12 yX12_read yX12_read, Cond.code yX12_type cX12_type 7 (some .int), Cond.instanceMethod yX12_type, Cond.selects RX12 yX12_type yX12_type, Cond.code yX12_above cX12_above 3 (some .int), Cond.instanceMethod yX12_above, Cond.selects RX12 yX12_above yX12_above, Cond.code yX12_letter cX12_letter 3 (some .int), Cond.instanceMethod yX12_letter, Cond.selects RX12 yX12_letter yX12_letter, Cond.code yX12_called cX12_called 5 (some .int), Cond.instanceMethod yX12_called, Cond.selects RX12 yX12_called yX12_called, Cond.code yX12_input cX12_input 2 (some .int), Cond.instanceMethod yX12_input, Cond.selects RX12 yX12_input yX12_input, Cond.code yX12_forget cX12_forget 1 none, Cond.instanceMethod yX12_forget, Cond.selects RX12 yX12_forget yX12_forget, Cond.code yX12_run cX12_run 5 (some .int), Cond.instanceMethod yX12_run, Cond.selects RX12 yX12_run yX12_run, Cond.code yX12_result cX12_result 1 (some .int), Cond.instanceMethod yX12_result, Cond.selects RX12 yX12_result yX12_result, Cond.code yX12_output cX12_output 2 (some .int), Cond.instanceMethod yX12_output, Cond.selects RX12 yX12_output yX12_output, Cond.code yX12_thrown_ cX12_thrown_ 6 (some .int), Cond.instanceMethod yX12_thrown_, Cond.selects RX12 yX12_thrown_ yX12_thrown_, Cond.code yX12_count cX12_count 2 (some .int), Cond.instanceMethod yX12_count, Cond.selects RX12 yX12_count yX12_count, Cond.code yX12_refusals cX12_refusals 1 (some .int), Cond.instanceMethod yX12_refusals, Cond.selects RX12 yX12_refusals yX12_refusals, Cond.code yJ0_length_8abf5 cJ0_length_8abf5 1 (some .int), Cond.instanceMethod yJ0_length_8abf5]
def pwc_15 : List Cond := [Cond.selects RJ0 yJ0_length_8abf5 yJ0_length_8abf5, Cond.initialized RJ0, Cond.code yJ0_coder_7d493 cJ0_coder_7d493 1 (some .byte), Cond.instanceMethod yJ0_coder_7d493, Cond.selects RJ0 yJ0_coder_7d493 yJ0_coder_7d493, Cond.code yJ0_charAt_5068e cJ0_charAt_5068e 2 (some .char), Cond.instanceMethod yJ0_charAt_5068e, Cond.selects RJ0 yJ0_charAt_5068e yJ0_charAt_5068e, Cond.code yJ0_isLatin1_aae02 cJ0_isLatin1_aae02 1 (some .boolean), Cond.instanceMethod yJ0_isLatin1_aae02, Cond.selects RJ0 yJ0_isLatin1_aae02 yJ0_isLatin1_aae02, Cond.code yJ0_checkIndex_df160 cJ0_checkIndex_df160 2 none, Cond.static yJ0_checkIndex_df160, Cond.code yJ1_charAt_3b067 cJ1_charAt_3b067 2 (some .char), Cond.static yJ1_charAt_3b067, Cond.initialized RJ1, Cond.code yJ3_checkIndex_8e157 cJ3_checkIndex_8e157 3 (some .int), Cond.static yJ3_checkIndex_8e157, Cond.initialized RJ3, Cond.code yJx4a65c_init_da8c8 cJx4a65c_init_da8c8 1 none, Cond.instanceMethod yJx4a65c_init_da8c8, Cond.initialized RJx4a65c, Cond.code yJxc12de_init_da8c8 cJxc12de_init_da8c8 1 none, Cond.instanceMethod yJxc12de_init_da8c8, Cond.initialized RJxc12de, Cond.code yJxa1e45_init_da8c8 cJxa1e45_init_da8c8 1 none, Cond.instanceMethod yJxa1e45_init_da8c8, Cond.initialized RJxa1e45, Cond.code yJ7_fill_53178 cJ7_fill_53178 4 none, Cond.static yJ7_fill_53178, Cond.initialized RJ7, Cond.codeWith yL_run cL_run 5 (some .int) [(0, 10, 13, 13), (0, 10, 17, 15)], Cond.static yL_run, Cond.initialized RL, Cond.instanceMethod objectInit, Cond.code objectInit ⟨#[0xb1]⟩ 1 none, Cond.arrayClass .int, Cond.initialized RJ15, Cond.initialized "java/lang/IllegalStateException", Cond.static Lib.Math.max.name]
def pwc_16 : List Cond := [Cond.initialized "java/lang/Math", Cond.code Lib.Math.max.name Lib.Math.max.code 2 (some .int), Cond.instantiable RX4 6, Cond.initialized RX4, Cond.instantiable RJx4a65c 3, Cond.arrayClass .long, Cond.static Lib.Math.min.name, Cond.code Lib.Math.min.name Lib.Math.min.code 2 (some .int), Cond.initialized RJ4, Cond.native arraycopyName, Cond.static arraycopyName, Cond.initialized "java/lang/System", Cond.instantiable RX3 5, Cond.instantiable RX2 13, Cond.initialized RJ8, Cond.sameField "java/util/ArrayList" "java/util/AbstractList" "modCount" "I", Cond.instantiable RX7 11, Cond.initialized RX7, Cond.instantiable RX6 12, Cond.initialized RX6, Cond.initialized RJ2, Cond.arrayClass .byte, Cond.instantiable RX10 15, Cond.instantiable RX1 13, Cond.instantiable RX8 5, Cond.instantiable RX0 13, Cond.instantiable RX5 19, Cond.instantiable RX9 5, Cond.initialized RJ13, Cond.initialized "java/lang/IllegalArgumentException", Cond.arrayClass .boolean, Cond.initialized RJ11, Cond.initialized RJ5, Cond.initialized RJ6, Cond.instantiable RX11 8, Cond.instantiable RX12 134]
def pw : List Cond := pwc_0 ++ (pwc_1 ++ (pwc_2 ++ (pwc_3 ++ (pwc_4 ++ (pwc_5 ++ (pwc_6 ++ (pwc_7 ++ (pwc_8 ++ (pwc_9 ++ (pwc_10 ++ (pwc_11 ++ (pwc_12 ++ (pwc_13 ++ (pwc_14 ++ (pwc_15 ++ (pwc_16 ++ (wsX00 ++ (wsX10 ++ (wsX20 ++ (wsX30 ++ (wsX50 ++ (wsX80 ++ (wsX90 ++ (wsX100 ++ (wsX110 ++ (wsX120 ++ (wsJx4a65c0)))))))))))))))))))))))))))
theorem pin_0 : ∀ w ∈ pwc_0, w ∈ pw := fun w h => List.mem_append_left _ h
theorem pin_1 : ∀ w ∈ pwc_1, w ∈ pw := fun w h => List.mem_append_right _ (List.mem_append_left _ h)
theorem pin_2 : ∀ w ∈ pwc_2, w ∈ pw := fun w h => List.mem_append_right _ (List.mem_append_right _ (List.mem_append_left _ h))
theorem pin_3 : ∀ w ∈ pwc_3, w ∈ pw := fun w h => List.mem_append_right _ (List.mem_append_right _ (List.mem_append_right _ (List.mem_append_left _ h)))
theorem pin_4 : ∀ w ∈ pwc_4, w ∈ pw := fun w h => List.mem_append_right _ (List.mem_append_right _ (List.mem_append_right _ (List.mem_append_right _ (List.mem_append_left _ h))))
theorem pin_5 : ∀ w ∈ pwc_5, w ∈ pw := fun w h => List.mem_append_right _ (List.mem_append_right _ (List.mem_append_right _ (List.mem_append_right _ (List.mem_append_right _ (List.mem_append_left _ h)))))
theorem pin_6 : ∀ w ∈ pwc_6, w ∈ pw := fun w h => List.mem_append_right _ (List.mem_append_right _ (List.mem_append_right _ (List.mem_append_right _ (List.mem_append_right _ (List.mem_append_right _ (List.mem_append_left _ h))))))
theorem pin_7 : ∀ w ∈ pwc_7, w ∈ pw := fun w h => List.mem_append_right _ (List.mem_append_right _ (List.mem_append_right _ (List.mem_append_right _ (List.mem_append_right _ (List.mem_append_right _ (List.mem_append_right _ (List.mem_append_left _ h)))))))
theorem pin_8 : ∀ w ∈ pwc_8, w ∈ pw := fun w h => List.mem_append_right _ (List.mem_append_right _ (List.mem_append_right _ (List.mem_append_right _ (List.mem_append_right _ (List.mem_append_right _ (List.mem_append_right _ (List.mem_append_right _ (List.mem_append_left _ h))))))))
theorem pin_9 : ∀ w ∈ pwc_9, w ∈ pw := fun w h => List.mem_append_right _ (List.mem_append_right _ (List.mem_append_right _ (List.mem_append_right _ (List.mem_append_right _ (List.mem_append_right _ (List.mem_append_right _ (List.mem_append_right _ (List.mem_append_right _ (List.mem_append_left _ h)))))))))
theorem pin_10 : ∀ w ∈ pwc_10, w ∈ pw := fun w h => List.mem_append_right _ (List.mem_append_right _ (List.mem_append_right _ (List.mem_append_right _ (List.mem_append_right _ (List.mem_append_right _ (List.mem_append_right _ (List.mem_append_right _ (List.mem_append_right _ (List.mem_append_right _ (List.mem_append_left _ h))))))))))
theorem pin_11 : ∀ w ∈ pwc_11, w ∈ pw := fun w h => List.mem_append_right _ (List.mem_append_right _ (List.mem_append_right _ (List.mem_append_right _ (List.mem_append_right _ (List.mem_append_right _ (List.mem_append_right _ (List.mem_append_right _ (List.mem_append_right _ (List.mem_append_right _ (List.mem_append_right _ (List.mem_append_left _ h)))))))))))
theorem pin_12 : ∀ w ∈ pwc_12, w ∈ pw := fun w h => List.mem_append_right _ (List.mem_append_right _ (List.mem_append_right _ (List.mem_append_right _ (List.mem_append_right _ (List.mem_append_right _ (List.mem_append_right _ (List.mem_append_right _ (List.mem_append_right _ (List.mem_append_right _ (List.mem_append_right _ (List.mem_append_right _ (List.mem_append_left _ h))))))))))))
theorem pin_13 : ∀ w ∈ pwc_13, w ∈ pw := fun w h => List.mem_append_right _ (List.mem_append_right _ (List.mem_append_right _ (List.mem_append_right _ (List.mem_append_right _ (List.mem_append_right _ (List.mem_append_right _ (List.mem_append_right _ (List.mem_append_right _ (List.mem_append_right _ (List.mem_append_right _ (List.mem_append_right _ (List.mem_append_right _ (List.mem_append_left _ h)))))))))))))
theorem pin_14 : ∀ w ∈ pwc_14, w ∈ pw := fun w h => List.mem_append_right _ (List.mem_append_right _ (List.mem_append_right _ (List.mem_append_right _ (List.mem_append_right _ (List.mem_append_right _ (List.mem_append_right _ (List.mem_append_right _ (List.mem_append_right _ (List.mem_append_right _ (List.mem_append_right _ (List.mem_append_right _ (List.mem_append_right _ (List.mem_append_right _ (List.mem_append_left _ h))))))))))))))
theorem pin_15 : ∀ w ∈ pwc_15, w ∈ pw := fun w h => List.mem_append_right _ (List.mem_append_right _ (List.mem_append_right _ (List.mem_append_right _ (List.mem_append_right _ (List.mem_append_right _ (List.mem_append_right _ (List.mem_append_right _ (List.mem_append_right _ (List.mem_append_right _ (List.mem_append_right _ (List.mem_append_right _ (List.mem_append_right _ (List.mem_append_right _ (List.mem_append_right _ (List.mem_append_left _ h)))))))))))))))
theorem pin_16 : ∀ w ∈ pwc_16, w ∈ pw := fun w h => List.mem_append_right _ (List.mem_append_right _ (List.mem_append_right _ (List.mem_append_right _ (List.mem_append_right _ (List.mem_append_right _ (List.mem_append_right _ (List.mem_append_right _ (List.mem_append_right _ (List.mem_append_right _ (List.mem_append_right _ (List.mem_append_right _ (List.mem_append_right _ (List.mem_append_right _ (List.mem_append_right _ (List.mem_append_right _ (List.mem_append_left _ h))))))))))))))))
theorem pin_wsX00 : ∀ w ∈ wsX00, w ∈ pw := fun w h => List.mem_append_right _ (List.mem_append_right _ (List.mem_append_right _ (List.mem_append_right _ (List.mem_append_right _ (List.mem_append_right _ (List.mem_append_right _ (List.mem_append_right _ (List.mem_append_right _ (List.mem_append_right _ (List.mem_append_right _ (List.mem_append_right _ (List.mem_append_right _ (List.mem_append_right _ (List.mem_append_right _ (List.mem_append_right _ (List.mem_append_right _ (List.mem_append_left _ h)))))))))))))))))
theorem pin_wsX10 : ∀ w ∈ wsX10, w ∈ pw := fun w h => List.mem_append_right _ (List.mem_append_right _ (List.mem_append_right _ (List.mem_append_right _ (List.mem_append_right _ (List.mem_append_right _ (List.mem_append_right _ (List.mem_append_right _ (List.mem_append_right _ (List.mem_append_right _ (List.mem_append_right _ (List.mem_append_right _ (List.mem_append_right _ (List.mem_append_right _ (List.mem_append_right _ (List.mem_append_right _ (List.mem_append_right _ (List.mem_append_right _ (List.mem_append_left _ h))))))))))))))))))
theorem pin_wsX20 : ∀ w ∈ wsX20, w ∈ pw := fun w h => List.mem_append_right _ (List.mem_append_right _ (List.mem_append_right _ (List.mem_append_right _ (List.mem_append_right _ (List.mem_append_right _ (List.mem_append_right _ (List.mem_append_right _ (List.mem_append_right _ (List.mem_append_right _ (List.mem_append_right _ (List.mem_append_right _ (List.mem_append_right _ (List.mem_append_right _ (List.mem_append_right _ (List.mem_append_right _ (List.mem_append_right _ (List.mem_append_right _ (List.mem_append_right _ (List.mem_append_left _ h)))))))))))))))))))
theorem pin_wsX30 : ∀ w ∈ wsX30, w ∈ pw := fun w h => List.mem_append_right _ (List.mem_append_right _ (List.mem_append_right _ (List.mem_append_right _ (List.mem_append_right _ (List.mem_append_right _ (List.mem_append_right _ (List.mem_append_right _ (List.mem_append_right _ (List.mem_append_right _ (List.mem_append_right _ (List.mem_append_right _ (List.mem_append_right _ (List.mem_append_right _ (List.mem_append_right _ (List.mem_append_right _ (List.mem_append_right _ (List.mem_append_right _ (List.mem_append_right _ (List.mem_append_right _ (List.mem_append_left _ h))))))))))))))))))))
theorem pin_wsX50 : ∀ w ∈ wsX50, w ∈ pw := fun w h => List.mem_append_right _ (List.mem_append_right _ (List.mem_append_right _ (List.mem_append_right _ (List.mem_append_right _ (List.mem_append_right _ (List.mem_append_right _ (List.mem_append_right _ (List.mem_append_right _ (List.mem_append_right _ (List.mem_append_right _ (List.mem_append_right _ (List.mem_append_right _ (List.mem_append_right _ (List.mem_append_right _ (List.mem_append_right _ (List.mem_append_right _ (List.mem_append_right _ (List.mem_append_right _ (List.mem_append_right _ (List.mem_append_right _ (List.mem_append_left _ h)))))))))))))))))))))
theorem pin_wsX80 : ∀ w ∈ wsX80, w ∈ pw := fun w h => List.mem_append_right _ (List.mem_append_right _ (List.mem_append_right _ (List.mem_append_right _ (List.mem_append_right _ (List.mem_append_right _ (List.mem_append_right _ (List.mem_append_right _ (List.mem_append_right _ (List.mem_append_right _ (List.mem_append_right _ (List.mem_append_right _ (List.mem_append_right _ (List.mem_append_right _ (List.mem_append_right _ (List.mem_append_right _ (List.mem_append_right _ (List.mem_append_right _ (List.mem_append_right _ (List.mem_append_right _ (List.mem_append_right _ (List.mem_append_right _ (List.mem_append_left _ h))))))))))))))))))))))
theorem pin_wsX90 : ∀ w ∈ wsX90, w ∈ pw := fun w h => List.mem_append_right _ (List.mem_append_right _ (List.mem_append_right _ (List.mem_append_right _ (List.mem_append_right _ (List.mem_append_right _ (List.mem_append_right _ (List.mem_append_right _ (List.mem_append_right _ (List.mem_append_right _ (List.mem_append_right _ (List.mem_append_right _ (List.mem_append_right _ (List.mem_append_right _ (List.mem_append_right _ (List.mem_append_right _ (List.mem_append_right _ (List.mem_append_right _ (List.mem_append_right _ (List.mem_append_right _ (List.mem_append_right _ (List.mem_append_right _ (List.mem_append_right _ (List.mem_append_left _ h)))))))))))))))))))))))
theorem pin_wsX100 : ∀ w ∈ wsX100, w ∈ pw := fun w h => List.mem_append_right _ (List.mem_append_right _ (List.mem_append_right _ (List.mem_append_right _ (List.mem_append_right _ (List.mem_append_right _ (List.mem_append_right _ (List.mem_append_right _ (List.mem_append_right _ (List.mem_append_right _ (List.mem_append_right _ (List.mem_append_right _ (List.mem_append_right _ (List.mem_append_right _ (List.mem_append_right _ (List.mem_append_right _ (List.mem_append_right _ (List.mem_append_right _ (List.mem_append_right _ (List.mem_append_right _ (List.mem_append_right _ (List.mem_append_right _ (List.mem_append_right _ (List.mem_append_right _ (List.mem_append_left _ h))))))))))))))))))))))))
theorem pin_wsX110 : ∀ w ∈ wsX110, w ∈ pw := fun w h => List.mem_append_right _ (List.mem_append_right _ (List.mem_append_right _ (List.mem_append_right _ (List.mem_append_right _ (List.mem_append_right _ (List.mem_append_right _ (List.mem_append_right _ (List.mem_append_right _ (List.mem_append_right _ (List.mem_append_right _ (List.mem_append_right _ (List.mem_append_right _ (List.mem_append_right _ (List.mem_append_right _ (List.mem_append_right _ (List.mem_append_right _ (List.mem_append_right _ (List.mem_append_right _ (List.mem_append_right _ (List.mem_append_right _ (List.mem_append_right _ (List.mem_append_right _ (List.mem_append_right _ (List.mem_append_right _ (List.mem_append_left _ h)))))))))))))))))))))))))
theorem pin_wsX120 : ∀ w ∈ wsX120, w ∈ pw := fun w h => List.mem_append_right _ (List.mem_append_right _ (List.mem_append_right _ (List.mem_append_right _ (List.mem_append_right _ (List.mem_append_right _ (List.mem_append_right _ (List.mem_append_right _ (List.mem_append_right _ (List.mem_append_right _ (List.mem_append_right _ (List.mem_append_right _ (List.mem_append_right _ (List.mem_append_right _ (List.mem_append_right _ (List.mem_append_right _ (List.mem_append_right _ (List.mem_append_right _ (List.mem_append_right _ (List.mem_append_right _ (List.mem_append_right _ (List.mem_append_right _ (List.mem_append_right _ (List.mem_append_right _ (List.mem_append_right _ (List.mem_append_right _ (List.mem_append_left _ h))))))))))))))))))))))))))
theorem pin_wsJx4a65c0 : ∀ w ∈ wsJx4a65c0, w ∈ pw := fun w h => List.mem_append_right _ (List.mem_append_right _ (List.mem_append_right _ (List.mem_append_right _ (List.mem_append_right _ (List.mem_append_right _ (List.mem_append_right _ (List.mem_append_right _ (List.mem_append_right _ (List.mem_append_right _ (List.mem_append_right _ (List.mem_append_right _ (List.mem_append_right _ (List.mem_append_right _ (List.mem_append_right _ (List.mem_append_right _ (List.mem_append_right _ (List.mem_append_right _ (List.mem_append_right _ (List.mem_append_right _ (List.mem_append_right _ (List.mem_append_right _ (List.mem_append_right _ (List.mem_append_right _ (List.mem_append_right _ (List.mem_append_right _ (List.mem_append_right _ (h)))))))))))))))))))))))))))
theorem pgd_0 : pwc_0.all goodWord = true := by decide +kernel
theorem pgd_1 : pwc_1.all goodWord = true := by decide +kernel
theorem pgd_2 : pwc_2.all goodWord = true := by decide +kernel
theorem pgd_3 : pwc_3.all goodWord = true := by decide +kernel
theorem pgd_4 : pwc_4.all goodWord = true := by decide +kernel
theorem pgd_5 : pwc_5.all goodWord = true := by decide +kernel
theorem pgd_6 : pwc_6.all goodWord = true := by decide +kernel
theorem pgd_7 : pwc_7.all goodWord = true := by decide +kernel
theorem pgd_8 : pwc_8.all goodWord = true := by decide +kernel
theorem pgd_9 : pwc_9.all goodWord = true := by decide +kernel
theorem pgd_10 : pwc_10.all goodWord = true := by decide +kernel
theorem pgd_11 : pwc_11.all goodWord = true := by decide +kernel
theorem pgd_12 : pwc_12.all goodWord = true := by decide +kernel
theorem pgd_13 : pwc_13.all goodWord = true := by decide +kernel
theorem pgd_14 : pwc_14.all goodWord = true := by decide +kernel
theorem pgd_15 : pwc_15.all goodWord = true := by decide +kernel
theorem pgd_16 : pwc_16.all goodWord = true := by decide +kernel
theorem pgd_wsX00 : wsX00.all goodWord = true := by decide +kernel
theorem pgd_wsX10 : wsX10.all goodWord = true := by decide +kernel
theorem pgd_wsX20 : wsX20.all goodWord = true := by decide +kernel
theorem pgd_wsX30 : wsX30.all goodWord = true := by decide +kernel
theorem pgd_wsX50 : wsX50.all goodWord = true := by decide +kernel
theorem pgd_wsX80 : wsX80.all goodWord = true := by decide +kernel
theorem pgd_wsX90 : wsX90.all goodWord = true := by decide +kernel
theorem pgd_wsX100 : wsX100.all goodWord = true := by decide +kernel
theorem pgd_wsX110 : wsX110.all goodWord = true := by decide +kernel
theorem pgd_wsX120 : wsX120.all goodWord = true := by decide +kernel
theorem pgd_wsJx4a65c0 : wsJx4a65c0.all goodWord = true := by decide +kernel
theorem pw_good : pw.all goodWord = true := by
  unfold pw
  simp only [List.all_append, Bool.and_eq_true]
  exact ⟨pgd_0, ⟨pgd_1, ⟨pgd_2, ⟨pgd_3, ⟨pgd_4, ⟨pgd_5, ⟨pgd_6, ⟨pgd_7, ⟨pgd_8, ⟨pgd_9, ⟨pgd_10, ⟨pgd_11, ⟨pgd_12, ⟨pgd_13, ⟨pgd_14, ⟨pgd_15, ⟨pgd_16, ⟨pgd_wsX00, ⟨pgd_wsX10, ⟨pgd_wsX20, ⟨pgd_wsX30, ⟨pgd_wsX50, ⟨pgd_wsX80, ⟨pgd_wsX90, ⟨pgd_wsX100, ⟨pgd_wsX110, ⟨pgd_wsX120, pgd_wsJx4a65c0⟩⟩⟩⟩⟩⟩⟩⟩⟩⟩⟩⟩⟩⟩⟩⟩⟩⟩⟩⟩⟩⟩⟩⟩⟩⟩⟩
theorem pw_0 : Cond.methodLink RX11 1 objectInit ∈ pw := pin_0 _ (List.mem_of_getElem? (i := 0) rfl)
theorem pw_1 : Cond.fieldLink RX11 9 "JinjaTongue" "tape" "[B" ∈ pw := pin_0 _ (List.mem_of_getElem? (i := 1) rfl)
theorem pw_2 : Cond.classLink RX11 13 RX10 ∈ pw := pin_0 _ (List.mem_of_getElem? (i := 2) rfl)
theorem pw_3 : Cond.methodLink RX11 15 yX10_init ∈ pw := pin_0 _ (List.mem_of_getElem? (i := 3) rfl)
theorem pw_4 : Cond.fieldLink RX11 16 "JinjaTongue" "text" "LJinjaTongue$Text;" ∈ pw := pin_0 _ (List.mem_of_getElem? (i := 4) rfl)
theorem pw_5 : Cond.classLink RX11 20 RX1 ∈ pw := pin_0 _ (List.mem_of_getElem? (i := 5) rfl)
theorem pw_6 : Cond.methodLink RX11 22 yX1_init ∈ pw := pin_0 _ (List.mem_of_getElem? (i := 6) rfl)
theorem pw_7 : Cond.fieldLink RX11 23 "JinjaTongue" "code" "LJinjaTongue$Code;" ∈ pw := pin_0 _ (List.mem_of_getElem? (i := 7) rfl)
theorem pw_8 : Cond.classLink RX11 27 RX8 ∈ pw := pin_0 _ (List.mem_of_getElem? (i := 8) rfl)
theorem pw_9 : Cond.methodLink RX11 29 yX8_init ∈ pw := pin_0 _ (List.mem_of_getElem? (i := 9) rfl)
theorem pw_10 : Cond.fieldLink RX11 32 "JinjaTongue" "parser" "LJinjaTongue$Parser;" ∈ pw := pin_0 _ (List.mem_of_getElem? (i := 10) rfl)
theorem pw_11 : Cond.classLink RX11 36 RX0 ∈ pw := pin_0 _ (List.mem_of_getElem? (i := 11) rfl)
theorem pw_12 : Cond.methodLink RX11 38 yX0_init ∈ pw := pin_0 _ (List.mem_of_getElem? (i := 12) rfl)
theorem pw_13 : Cond.fieldLink RX11 41 "JinjaTongue" "bodies" "LJinjaTongue$Bodies;" ∈ pw := pin_0 _ (List.mem_of_getElem? (i := 13) rfl)
theorem pw_14 : Cond.classLink RX11 45 RX5 ∈ pw := pin_0 _ (List.mem_of_getElem? (i := 14) rfl)
theorem pw_15 : Cond.methodLink RX11 47 yX5_init ∈ pw := pin_0 _ (List.mem_of_getElem? (i := 15) rfl)
theorem pw_16 : Cond.fieldLink RX11 50 "JinjaTongue" "machine" "LJinjaTongue$Machine;" ∈ pw := pin_0 _ (List.mem_of_getElem? (i := 16) rfl)
theorem pw_17 : Cond.fieldLink RX11 54 "JinjaTongue" "tapeLength" "I" ∈ pw := pin_0 _ (List.mem_of_getElem? (i := 17) rfl)
theorem pw_18 : Cond.methodLink RX11 58 yX11_append ∈ pw := pin_0 _ (List.mem_of_getElem? (i := 18) rfl)
theorem pw_19 : Cond.methodLink RX11 62 yX10_split ∈ pw := pin_0 _ (List.mem_of_getElem? (i := 19) rfl)
theorem pw_20 : Cond.methodLink RX11 66 yX5_clear ∈ pw := pin_0 _ (List.mem_of_getElem? (i := 20) rfl)
theorem pw_21 : Cond.fieldLink RX11 69 "JinjaTongue" "program" "LJinjaTongue$Program;" ∈ pw := pin_0 _ (List.mem_of_getElem? (i := 21) rfl)
theorem pw_22 : Cond.classLink RX11 73 RX9 ∈ pw := pin_0 _ (List.mem_of_getElem? (i := 22) rfl)
theorem pw_23 : Cond.methodLink RX11 75 yX9_init ∈ pw := pin_0 _ (List.mem_of_getElem? (i := 23) rfl)
theorem pw_24 : Cond.methodLink RX11 76 yX8_parse ∈ pw := pin_0 _ (List.mem_of_getElem? (i := 24) rfl)
theorem pw_25 : Cond.methodLink RX11 80 yX9_judgeNames ∈ pw := pin_0 _ (List.mem_of_getElem? (i := 25) rfl)
theorem pw_26 : Cond.fieldLink RX11 88 "JinjaTongue$Text" "fault" "I" ∈ pw := pin_0 _ (List.mem_of_getElem? (i := 26) rfl)
theorem pw_27 : Cond.methodLink RX11 91 yX9_decl ∈ pw := pin_0 _ (List.mem_of_getElem? (i := 27) rfl)
theorem pw_28 : Cond.methodLink RX11 95 yX11_declared ∈ pw := pin_0 _ (List.mem_of_getElem? (i := 28) rfl)
theorem pw_29 : Cond.fieldLink RX11 98 "JinjaTongue$Decl" "parent" "LJinjaTongue$Decl;" ∈ pw := pin_0 _ (List.mem_of_getElem? (i := 29) rfl)
theorem pw_30 : Cond.fieldLink RX11 104 "JinjaTongue$Decl" "number" "I" ∈ pw := pin_0 _ (List.mem_of_getElem? (i := 30) rfl)
theorem pw_31 : Cond.fieldLink RX11 107 "JinjaTongue$Decl" "layout" "Ljava/util/ArrayList;" ∈ pw := pin_0 _ (List.mem_of_getElem? (i := 31) rfl)
theorem pw_32 : Cond.fieldLink RX11 117 "JinjaTongue$Decl" "known" "Ljava/util/ArrayList;" ∈ pw := pin_0 _ (List.mem_of_getElem? (i := 32) rfl)
theorem pw_33 : Cond.fieldLink RX11 120 "JinjaTongue$Decl" "isInterface" "Z" ∈ pw := pin_0 _ (List.mem_of_getElem? (i := 33) rfl)
theorem pw_34 : Cond.fieldLink RX11 124 "JinjaTongue$Decl" "above" "J" ∈ pw := pin_0 _ (List.mem_of_getElem? (i := 34) rfl)
theorem pw_35 : Cond.methodLink RX11 137 yX9_isAbove ∈ pw := pin_0 _ (List.mem_of_getElem? (i := 35) rfl)
theorem pw_36 : Cond.fieldLink RX11 141 "JinjaTongue$Decl" "name" "I" ∈ pw := pin_0 _ (List.mem_of_getElem? (i := 36) rfl)
theorem pw_37 : Cond.fieldLink RX11 152 "JinjaTongue$Method" "name" "I" ∈ pw := pin_0 _ (List.mem_of_getElem? (i := 37) rfl)
theorem pw_38 : Cond.fieldLink RX11 158 "JinjaTongue$Method" "number" "I" ∈ pw := pin_0 _ (List.mem_of_getElem? (i := 38) rfl)
theorem pw_39 : Cond.methodLink RX11 159 yX5_takeInput ∈ pw := pin_0 _ (List.mem_of_getElem? (i := 39) rfl)
theorem pw_40 : Cond.fieldLink RX11 163 "JinjaTongue$Machine" "inputs" "I" ∈ pw := pin_1 _ (List.mem_of_getElem? (i := 0) rfl)
theorem pw_41 : Cond.classLink RX11 166 "java/lang/IllegalArgumentException" ∈ pw := pin_1 _ (List.mem_of_getElem? (i := 1) rfl)
theorem pw_42 : Cond.classLink RX11 86 "java/lang/IllegalStateException" ∈ pw := pin_1 _ (List.mem_of_getElem? (i := 2) rfl)
theorem pw_43 : Cond.fieldLink RX11 183 "JinjaTongue$Machine" "result" "I" ∈ pw := pin_1 _ (List.mem_of_getElem? (i := 3) rfl)
theorem pw_44 : Cond.methodLink RX11 186 yX5_printed ∈ pw := pin_1 _ (List.mem_of_getElem? (i := 4) rfl)
theorem pw_45 : Cond.methodLink RX11 189 yX5_uncaught ∈ pw := pin_1 _ (List.mem_of_getElem? (i := 5) rfl)
theorem pw_46 : Cond.fieldLink RX11 192 "JinjaTongue$Text" "size" "I" ∈ pw := pin_1 _ (List.mem_of_getElem? (i := 6) rfl)
theorem pw_47 : Cond.fieldLink RX11 194 "JinjaTongue$Program" "size" "I" ∈ pw := pin_1 _ (List.mem_of_getElem? (i := 7) rfl)
theorem pw_48 : Cond.fieldLink RX11 195 "JinjaTongue$Program" "methods" "Ljava/util/ArrayList;" ∈ pw := pin_1 _ (List.mem_of_getElem? (i := 8) rfl)
theorem pw_49 : Cond.methodLink RX11 198 yX5_told ∈ pw := pin_1 _ (List.mem_of_getElem? (i := 9) rfl)
theorem pw_50 : Cond.fieldLink RX11 201 "JinjaTongue$Machine" "refusals" "I" ∈ pw := pin_1 _ (List.mem_of_getElem? (i := 10) rfl)
theorem pw_51 : Cond.methodLink RX10 5 objectInit ∈ pw := pin_1 _ (List.mem_of_getElem? (i := 11) rfl)
theorem pw_52 : Cond.methodLink RX10 17 yJ0_length_8abf5 ∈ pw := pin_1 _ (List.mem_of_getElem? (i := 12) rfl)
theorem pw_53 : Cond.fieldLink RX10 23 "JinjaTongue$Text" "spelled" "I" ∈ pw := pin_1 _ (List.mem_of_getElem? (i := 13) rfl)
theorem pw_54 : Cond.fieldLink RX10 27 "JinjaTongue$Text" "bytes" "[B" ∈ pw := pin_1 _ (List.mem_of_getElem? (i := 14) rfl)
theorem pw_55 : Cond.methodLink RX10 31 yX10_spell ∈ pw := pin_1 _ (List.mem_of_getElem? (i := 15) rfl)
theorem pw_56 : Cond.fieldLink RX10 35 "JinjaTongue$Text" "kinds" "[I" ∈ pw := pin_1 _ (List.mem_of_getElem? (i := 16) rfl)
theorem pw_57 : Cond.fieldLink RX10 39 "JinjaTongue$Text" "places" "[I" ∈ pw := pin_1 _ (List.mem_of_getElem? (i := 17) rfl)
theorem pw_58 : Cond.fieldLink RX10 42 "JinjaTongue$Text" "values" "[I" ∈ pw := pin_1 _ (List.mem_of_getElem? (i := 18) rfl)
theorem pw_59 : Cond.fieldLink RX10 45 "JinjaTongue$Text" "roles" "[B" ∈ pw := pin_1 _ (List.mem_of_getElem? (i := 19) rfl)
theorem pw_60 : Cond.fieldLink RX10 48 "JinjaTongue$Text" "types" "[I" ∈ pw := pin_1 _ (List.mem_of_getElem? (i := 20) rfl)
theorem pw_61 : Cond.fieldLink RX10 51 "JinjaTongue$Text" "nameStarts" "[I" ∈ pw := pin_1 _ (List.mem_of_getElem? (i := 21) rfl)
theorem pw_62 : Cond.fieldLink RX10 54 "JinjaTongue$Text" "nameLengths" "[I" ∈ pw := pin_1 _ (List.mem_of_getElem? (i := 22) rfl)
theorem pw_63 : Cond.fieldLink RX10 57 "JinjaTongue$Text" "nameNexts" "[I" ∈ pw := pin_1 _ (List.mem_of_getElem? (i := 23) rfl)
theorem pw_64 : Cond.fieldLink RX10 60 "JinjaTongue$Text" "buckets" "[I" ∈ pw := pin_1 _ (List.mem_of_getElem? (i := 24) rfl)
theorem pw_65 : Cond.methodLink RX10 63 yJ0_charAt_5068e ∈ pw := pin_1 _ (List.mem_of_getElem? (i := 25) rfl)
theorem pw_66 : Cond.methodLink RX10 67 Lib.Math.min.name ∈ pw := pin_1 _ (List.mem_of_getElem? (i := 26) rfl)
theorem pw_67 : Cond.methodLink RX10 73 Lib.Math.max.name ∈ pw := pin_1 _ (List.mem_of_getElem? (i := 27) rfl)
theorem pw_68 : Cond.fieldLink RX10 76 "JinjaTongue$Text" "length" "I" ∈ pw := pin_1 _ (List.mem_of_getElem? (i := 28) rfl)
theorem pw_69 : Cond.methodLink RX10 78 arraycopyName ∈ pw := pin_1 _ (List.mem_of_getElem? (i := 29) rfl)
theorem pw_70 : Cond.fieldLink RX10 84 "JinjaTongue$Text" "size" "I" ∈ pw := pin_1 _ (List.mem_of_getElem? (i := 30) rfl)
theorem pw_71 : Cond.fieldLink RX10 87 "JinjaTongue$Text" "fault" "I" ∈ pw := pin_1 _ (List.mem_of_getElem? (i := 31) rfl)
theorem pw_72 : Cond.methodLink RX10 90 yX10_learnBuiltIn ∈ pw := pin_1 _ (List.mem_of_getElem? (i := 32) rfl)
theorem pw_73 : Cond.methodLink RX10 93 yX10_pastBlanks ∈ pw := pin_1 _ (List.mem_of_getElem? (i := 33) rfl)
theorem pw_74 : Cond.fieldLink RX10 100 "JinjaTongue$Text" "names" "I" ∈ pw := pin_1 _ (List.mem_of_getElem? (i := 34) rfl)
theorem pw_75 : Cond.methodLink RX10 103 yJ7_fill_53178 ∈ pw := pin_1 _ (List.mem_of_getElem? (i := 35) rfl)
theorem pw_76 : Cond.methodLink RX10 109 yX10_nameOf ∈ pw := pin_1 _ (List.mem_of_getElem? (i := 36) rfl)
theorem pw_77 : Cond.methodLink RX10 144 yX10_isSpelledAlike ∈ pw := pin_1 _ (List.mem_of_getElem? (i := 37) rfl)
theorem pw_78 : Cond.methodLink RX1 3 objectInit ∈ pw := pin_1 _ (List.mem_of_getElem? (i := 38) rfl)
theorem pw_79 : Cond.fieldLink RX1 11 "JinjaTongue$Code" "operations" "[I" ∈ pw := pin_1 _ (List.mem_of_getElem? (i := 39) rfl)
theorem pw_80 : Cond.fieldLink RX1 15 "JinjaTongue$Code" "lefts" "[I" ∈ pw := pin_2 _ (List.mem_of_getElem? (i := 0) rfl)
theorem pw_81 : Cond.fieldLink RX1 18 "JinjaTongue$Code" "rights" "[I" ∈ pw := pin_2 _ (List.mem_of_getElem? (i := 1) rfl)
theorem pw_82 : Cond.fieldLink RX1 21 "JinjaTongue$Code" "helds" "[I" ∈ pw := pin_2 _ (List.mem_of_getElem? (i := 2) rfl)
theorem pw_83 : Cond.fieldLink RX1 24 "JinjaTongue$Code" "starts" "[I" ∈ pw := pin_2 _ (List.mem_of_getElem? (i := 3) rfl)
theorem pw_84 : Cond.fieldLink RX1 27 "JinjaTongue$Code" "ends" "[I" ∈ pw := pin_2 _ (List.mem_of_getElem? (i := 4) rfl)
theorem pw_85 : Cond.fieldLink RX1 30 "JinjaTongue$Code" "handlers" "[I" ∈ pw := pin_2 _ (List.mem_of_getElem? (i := 5) rfl)
theorem pw_86 : Cond.fieldLink RX1 33 "JinjaTongue$Code" "classes" "[I" ∈ pw := pin_2 _ (List.mem_of_getElem? (i := 6) rfl)
theorem pw_87 : Cond.fieldLink RX1 36 "JinjaTongue$Code" "slots" "[I" ∈ pw := pin_2 _ (List.mem_of_getElem? (i := 7) rfl)
theorem pw_88 : Cond.methodLink RX8 1 objectInit ∈ pw := pin_2 _ (List.mem_of_getElem? (i := 8) rfl)
theorem pw_89 : Cond.fieldLink RX8 7 "JinjaTongue$Parser" "text" "LJinjaTongue$Text;" ∈ pw := pin_2 _ (List.mem_of_getElem? (i := 9) rfl)
theorem pw_90 : Cond.fieldLink RX8 13 "JinjaTongue$Parser" "program" "LJinjaTongue$Program;" ∈ pw := pin_2 _ (List.mem_of_getElem? (i := 10) rfl)
theorem pw_91 : Cond.fieldLink RX8 17 "JinjaTongue$Parser" "at" "I" ∈ pw := pin_2 _ (List.mem_of_getElem? (i := 11) rfl)
theorem pw_92 : Cond.fieldLink RX8 21 "JinjaTongue$Parser" "depth" "I" ∈ pw := pin_2 _ (List.mem_of_getElem? (i := 12) rfl)
theorem pw_93 : Cond.fieldLink RX8 24 "JinjaTongue$Parser" "signs" "I" ∈ pw := pin_2 _ (List.mem_of_getElem? (i := 13) rfl)
theorem pw_94 : Cond.fieldLink RX8 27 "JinjaTongue$Text" "size" "I" ∈ pw := pin_2 _ (List.mem_of_getElem? (i := 14) rfl)
theorem pw_95 : Cond.fieldLink RX8 40 "JinjaTongue$Decl" "isInterface" "Z" ∈ pw := pin_2 _ (List.mem_of_getElem? (i := 15) rfl)
theorem pw_96 : Cond.methodLink RX0 3 objectInit ∈ pw := pin_2 _ (List.mem_of_getElem? (i := 16) rfl)
theorem pw_97 : Cond.fieldLink RX0 9 "JinjaTongue$Bodies" "text" "LJinjaTongue$Text;" ∈ pw := pin_2 _ (List.mem_of_getElem? (i := 17) rfl)
theorem pw_98 : Cond.fieldLink RX0 15 "JinjaTongue$Bodies" "code" "LJinjaTongue$Code;" ∈ pw := pin_2 _ (List.mem_of_getElem? (i := 18) rfl)
theorem pw_99 : Cond.fieldLink RX0 19 "JinjaTongue$Bodies" "names" "[I" ∈ pw := pin_2 _ (List.mem_of_getElem? (i := 19) rfl)
theorem pw_100 : Cond.fieldLink RX0 23 "JinjaTongue$Bodies" "types" "[I" ∈ pw := pin_2 _ (List.mem_of_getElem? (i := 20) rfl)
theorem pw_101 : Cond.fieldLink RX0 26 "JinjaTongue$Bodies" "slots" "[I" ∈ pw := pin_2 _ (List.mem_of_getElem? (i := 21) rfl)
theorem pw_102 : Cond.methodLink RX3 7 objectInit ∈ pw := pin_2 _ (List.mem_of_getElem? (i := 22) rfl)
theorem pw_103 : Cond.fieldLink RX3 13 "JinjaTongue$Heap" "space" "[J" ∈ pw := pin_2 _ (List.mem_of_getElem? (i := 23) rfl)
theorem pw_104 : Cond.fieldLink RX3 17 "JinjaTongue$Heap" "other" "[J" ∈ pw := pin_2 _ (List.mem_of_getElem? (i := 24) rfl)
theorem pw_105 : Cond.fieldLink RX3 20 "JinjaTongue$Heap" "top" "I" ∈ pw := pin_2 _ (List.mem_of_getElem? (i := 25) rfl)
theorem pw_106 : Cond.methodLink RX5 5 objectInit ∈ pw := pin_2 _ (List.mem_of_getElem? (i := 26) rfl)
theorem pw_107 : Cond.fieldLink RX5 11 "JinjaTongue$Machine" "code" "LJinjaTongue$Code;" ∈ pw := pin_2 _ (List.mem_of_getElem? (i := 27) rfl)
theorem pw_108 : Cond.classLink RX5 15 RX3 ∈ pw := pin_2 _ (List.mem_of_getElem? (i := 28) rfl)
theorem pw_109 : Cond.methodLink RX5 17 yX3_init ∈ pw := pin_2 _ (List.mem_of_getElem? (i := 29) rfl)
theorem pw_110 : Cond.fieldLink RX5 18 "JinjaTongue$Machine" "heap" "LJinjaTongue$Heap;" ∈ pw := pin_2 _ (List.mem_of_getElem? (i := 30) rfl)
theorem pw_111 : Cond.fieldLink RX5 22 "JinjaTongue$Machine" "stack" "[J" ∈ pw := pin_2 _ (List.mem_of_getElem? (i := 31) rfl)
theorem pw_112 : Cond.fieldLink RX5 26 "JinjaTongue$Machine" "frames" "[I" ∈ pw := pin_2 _ (List.mem_of_getElem? (i := 32) rfl)
theorem pw_113 : Cond.fieldLink RX5 30 "JinjaTongue$Machine" "input" "[I" ∈ pw := pin_2 _ (List.mem_of_getElem? (i := 33) rfl)
theorem pw_114 : Cond.fieldLink RX5 33 "JinjaTongue$Machine" "output" "[I" ∈ pw := pin_2 _ (List.mem_of_getElem? (i := 34) rfl)
theorem pw_115 : Cond.fieldLink RX5 36 "JinjaTongue$Machine" "tally" "[I" ∈ pw := pin_2 _ (List.mem_of_getElem? (i := 35) rfl)
theorem pw_116 : Cond.fieldLink RX5 39 "JinjaTongue$Machine" "inputs" "I" ∈ pw := pin_2 _ (List.mem_of_getElem? (i := 36) rfl)
theorem pw_117 : Cond.fieldLink RX5 43 "JinjaTongue$Machine" "raised" "J" ∈ pw := pin_2 _ (List.mem_of_getElem? (i := 37) rfl)
theorem pw_118 : Cond.fieldLink RX5 47 "JinjaTongue$Machine" "program" "LJinjaTongue$Program;" ∈ pw := pin_2 _ (List.mem_of_getElem? (i := 38) rfl)
theorem pw_119 : Cond.methodLink RX5 55 yX9_decl ∈ pw := pin_2 _ (List.mem_of_getElem? (i := 39) rfl)
theorem pw_120 : Cond.fieldLink RX5 61 "JinjaTongue$Decl" "layout" "Ljava/util/ArrayList;" ∈ pw := pin_3 _ (List.mem_of_getElem? (i := 0) rfl)
theorem pw_121 : Cond.fieldLink RX5 73 "JinjaTongue$Decl" "number" "I" ∈ pw := pin_3 _ (List.mem_of_getElem? (i := 1) rfl)
theorem pw_122 : Cond.methodLink RX5 84 yJ7_fill_53178 ∈ pw := pin_3 _ (List.mem_of_getElem? (i := 2) rfl)
theorem pw_123 : Cond.fieldLink RX5 90 "JinjaTongue$Machine" "result" "I" ∈ pw := pin_3 _ (List.mem_of_getElem? (i := 3) rfl)
theorem pw_124 : Cond.fieldLink RX5 93 "JinjaTongue$Machine" "open" "I" ∈ pw := pin_3 _ (List.mem_of_getElem? (i := 4) rfl)
theorem pw_125 : Cond.fieldLink RX5 96 "JinjaTongue$Machine" "method" "LJinjaTongue$Method;" ∈ pw := pin_3 _ (List.mem_of_getElem? (i := 5) rfl)
theorem pw_126 : Cond.fieldLink RX5 100 "JinjaTongue$Machine" "base" "I" ∈ pw := pin_3 _ (List.mem_of_getElem? (i := 6) rfl)
theorem pw_127 : Cond.fieldLink RX5 103 "JinjaTongue$Machine" "top" "I" ∈ pw := pin_3 _ (List.mem_of_getElem? (i := 7) rfl)
theorem pw_128 : Cond.fieldLink RX5 106 "JinjaTongue$Machine" "pc" "I" ∈ pw := pin_3 _ (List.mem_of_getElem? (i := 8) rfl)
theorem pw_129 : Cond.methodLink RX9 3 objectInit ∈ pw := pin_3 _ (List.mem_of_getElem? (i := 9) rfl)
theorem pw_130 : Cond.fieldLink RX9 9 "JinjaTongue$Program" "text" "LJinjaTongue$Text;" ∈ pw := pin_3 _ (List.mem_of_getElem? (i := 10) rfl)
theorem pw_131 : Cond.classLink RX9 15 RX2 ∈ pw := pin_3 _ (List.mem_of_getElem? (i := 11) rfl)
theorem pw_132 : Cond.fieldLink RX9 17 "JinjaTongue$Program" "decls" "[LJinjaTongue$Decl;" ∈ pw := pin_3 _ (List.mem_of_getElem? (i := 12) rfl)
theorem pw_133 : Cond.classLink RX9 21 RJx4a65c ∈ pw := pin_3 _ (List.mem_of_getElem? (i := 13) rfl)
theorem pw_134 : Cond.methodLink RX9 23 yJx4a65c_init_da8c8 ∈ pw := pin_3 _ (List.mem_of_getElem? (i := 14) rfl)
theorem pw_135 : Cond.fieldLink RX9 24 "JinjaTongue$Program" "methods" "Ljava/util/ArrayList;" ∈ pw := pin_3 _ (List.mem_of_getElem? (i := 15) rfl)
theorem pw_136 : Cond.methodLink RX9 30 yX2_init ∈ pw := pin_3 _ (List.mem_of_getElem? (i := 16) rfl)
theorem pw_137 : Cond.fieldLink RX9 33 "JinjaTongue$Program" "size" "I" ∈ pw := pin_3 _ (List.mem_of_getElem? (i := 17) rfl)
theorem pw_138 : Cond.constant RX9 37 (2147483647) ∈ pw := pin_3 _ (List.mem_of_getElem? (i := 18) rfl)
theorem pw_139 : Cond.fieldLink RX9 38 "JinjaTongue$Program" "least" "I" ∈ pw := pin_3 _ (List.mem_of_getElem? (i := 19) rfl)
theorem pw_140 : Cond.methodLink RX9 72 yX9_firstRound ∈ pw := pin_3 _ (List.mem_of_getElem? (i := 20) rfl)
theorem pw_141 : Cond.methodLink RX9 75 yX9_settle ∈ pw := pin_3 _ (List.mem_of_getElem? (i := 21) rfl)
theorem pw_142 : Cond.methodLink RX9 78 yX9_resolveTypes ∈ pw := pin_3 _ (List.mem_of_getElem? (i := 22) rfl)
theorem pw_143 : Cond.methodLink RX9 81 yX9_link ∈ pw := pin_3 _ (List.mem_of_getElem? (i := 23) rfl)
theorem pw_144 : Cond.methodLink RX9 65 yX9_isAbove ∈ pw := pin_3 _ (List.mem_of_getElem? (i := 24) rfl)
theorem pw_145 : Cond.fieldLink RX9 84 "JinjaTongue$Decl" "token" "I" ∈ pw := pin_3 _ (List.mem_of_getElem? (i := 25) rfl)
theorem pw_146 : Cond.methodLink RX9 87 yX9_report ∈ pw := pin_3 _ (List.mem_of_getElem? (i := 26) rfl)
theorem pw_147 : Cond.methodLink RX9 91 yX9_thirdRound ∈ pw := pin_3 _ (List.mem_of_getElem? (i := 27) rfl)
theorem pw_148 : Cond.fieldLink RX9 54 "JinjaTongue$Decl" "name" "I" ∈ pw := pin_3 _ (List.mem_of_getElem? (i := 28) rfl)
theorem pw_149 : Cond.methodLink RX9 116 yX9_find ∈ pw := pin_3 _ (List.mem_of_getElem? (i := 29) rfl)
theorem pw_150 : Cond.fieldLink RX9 126 "JinjaTongue$Text" "size" "I" ∈ pw := pin_3 _ (List.mem_of_getElem? (i := 30) rfl)
theorem pw_151 : Cond.fieldLink RX9 106 "JinjaTongue$Text" "fault" "I" ∈ pw := pin_3 _ (List.mem_of_getElem? (i := 31) rfl)
theorem pw_152 : Cond.classLink RX9 109 "java/lang/IllegalStateException" ∈ pw := pin_3 _ (List.mem_of_getElem? (i := 32) rfl)
theorem pw_153 : Cond.fieldLink RX9 57 "JinjaTongue$Decl" "above" "J" ∈ pw := pin_3 _ (List.mem_of_getElem? (i := 33) rfl)
theorem pw_154 : Cond.fieldLink RX9 164 "JinjaTongue$Decl" "isInterface" "Z" ∈ pw := pin_3 _ (List.mem_of_getElem? (i := 34) rfl)
theorem pw_155 : Cond.fieldLink RX9 148 "JinjaTongue$Decl" "extended" "I" ∈ pw := pin_3 _ (List.mem_of_getElem? (i := 35) rfl)
theorem pw_156 : Cond.methodLink RX9 160 yX9_decl ∈ pw := pin_3 _ (List.mem_of_getElem? (i := 36) rfl)
theorem pw_157 : Cond.fieldLink RX9 174 "JinjaTongue$Decl" "parent" "LJinjaTongue$Decl;" ∈ pw := pin_3 _ (List.mem_of_getElem? (i := 37) rfl)
theorem pw_158 : Cond.fieldLink RX9 178 "JinjaTongue$Decl" "number" "I" ∈ pw := pin_3 _ (List.mem_of_getElem? (i := 38) rfl)
theorem pw_159 : Cond.fieldLink RX9 154 "JinjaTongue$Decl" "listSize" "I" ∈ pw := pin_3 _ (List.mem_of_getElem? (i := 39) rfl)
theorem pw_160 : Cond.fieldLink RX9 157 "JinjaTongue$Decl" "listed" "I" ∈ pw := pin_4 _ (List.mem_of_getElem? (i := 0) rfl)
theorem pw_161 : Cond.fieldLink RX9 191 "JinjaTongue$Method" "first" "I" ∈ pw := pin_4 _ (List.mem_of_getElem? (i := 1) rfl)
theorem pw_162 : Cond.fieldLink RX9 197 "JinjaTongue$Method" "parameters" "Ljava/util/ArrayList;" ∈ pw := pin_4 _ (List.mem_of_getElem? (i := 2) rfl)
theorem pw_163 : Cond.methodLink RX9 97 yX10_placeAt ∈ pw := pin_4 _ (List.mem_of_getElem? (i := 3) rfl)
theorem pw_164 : Cond.methodLink RX9 100 Lib.Math.min.name ∈ pw := pin_4 _ (List.mem_of_getElem? (i := 4) rfl)
theorem pw_165 : Cond.methodLink RX2 3 objectInit ∈ pw := pin_4 _ (List.mem_of_getElem? (i := 5) rfl)
theorem pw_166 : Cond.fieldLink RX2 9 "JinjaTongue$Decl" "number" "I" ∈ pw := pin_4 _ (List.mem_of_getElem? (i := 6) rfl)
theorem pw_167 : Cond.fieldLink RX2 15 "JinjaTongue$Decl" "name" "I" ∈ pw := pin_4 _ (List.mem_of_getElem? (i := 7) rfl)
theorem pw_168 : Cond.fieldLink RX2 18 "JinjaTongue$Decl" "token" "I" ∈ pw := pin_4 _ (List.mem_of_getElem? (i := 8) rfl)
theorem pw_169 : Cond.fieldLink RX2 21 "JinjaTongue$Decl" "isInterface" "Z" ∈ pw := pin_4 _ (List.mem_of_getElem? (i := 9) rfl)
theorem pw_170 : Cond.fieldLink RX2 25 "JinjaTongue$Decl" "extended" "I" ∈ pw := pin_4 _ (List.mem_of_getElem? (i := 10) rfl)
theorem pw_171 : Cond.classLink RX2 28 RJx4a65c ∈ pw := pin_4 _ (List.mem_of_getElem? (i := 11) rfl)
theorem pw_172 : Cond.methodLink RX2 30 yJx4a65c_init_da8c8 ∈ pw := pin_4 _ (List.mem_of_getElem? (i := 12) rfl)
theorem pw_173 : Cond.fieldLink RX2 31 "JinjaTongue$Decl" "fields" "Ljava/util/ArrayList;" ∈ pw := pin_4 _ (List.mem_of_getElem? (i := 13) rfl)
theorem pw_174 : Cond.fieldLink RX2 35 "JinjaTongue$Decl" "methods" "Ljava/util/ArrayList;" ∈ pw := pin_4 _ (List.mem_of_getElem? (i := 14) rfl)
theorem pw_175 : Cond.fieldLink RX2 38 "JinjaTongue$Decl" "layout" "Ljava/util/ArrayList;" ∈ pw := pin_4 _ (List.mem_of_getElem? (i := 15) rfl)
theorem pw_176 : Cond.fieldLink RX2 41 "JinjaTongue$Decl" "known" "Ljava/util/ArrayList;" ∈ pw := pin_4 _ (List.mem_of_getElem? (i := 16) rfl)
theorem pw_177 : Cond.methodLink RX12 1 objectInit ∈ pw := pin_4 _ (List.mem_of_getElem? (i := 17) rfl)
theorem pw_178 : Cond.fieldLink RX12 7 "JinjaTongueModel" "tape" "[I" ∈ pw := pin_4 _ (List.mem_of_getElem? (i := 18) rfl)
theorem pw_179 : Cond.fieldLink RX12 13 "JinjaTongueModel" "text" "[I" ∈ pw := pin_4 _ (List.mem_of_getElem? (i := 19) rfl)
theorem pw_180 : Cond.fieldLink RX12 16 "JinjaTongueModel" "tKind" "[I" ∈ pw := pin_4 _ (List.mem_of_getElem? (i := 20) rfl)
theorem pw_181 : Cond.fieldLink RX12 19 "JinjaTongueModel" "tFrom" "[I" ∈ pw := pin_4 _ (List.mem_of_getElem? (i := 21) rfl)
theorem pw_182 : Cond.fieldLink RX12 22 "JinjaTongueModel" "tTo" "[I" ∈ pw := pin_4 _ (List.mem_of_getElem? (i := 22) rfl)
theorem pw_183 : Cond.fieldLink RX12 25 "JinjaTongueModel" "tValue" "[I" ∈ pw := pin_4 _ (List.mem_of_getElem? (i := 23) rfl)
theorem pw_184 : Cond.fieldLink RX12 28 "JinjaTongueModel" "nameAt" "[I" ∈ pw := pin_4 _ (List.mem_of_getElem? (i := 24) rfl)
theorem pw_185 : Cond.fieldLink RX12 31 "JinjaTongueModel" "nameSize" "[I" ∈ pw := pin_4 _ (List.mem_of_getElem? (i := 25) rfl)
theorem pw_186 : Cond.fieldLink RX12 34 "JinjaTongueModel" "nameBytes" "[B" ∈ pw := pin_4 _ (List.mem_of_getElem? (i := 26) rfl)
theorem pw_187 : Cond.fieldLink RX12 38 "JinjaTongueModel" "nKind" "[I" ∈ pw := pin_4 _ (List.mem_of_getElem? (i := 27) rfl)
theorem pw_188 : Cond.fieldLink RX12 41 "JinjaTongueModel" "nFirst" "[I" ∈ pw := pin_4 _ (List.mem_of_getElem? (i := 28) rfl)
theorem pw_189 : Cond.fieldLink RX12 44 "JinjaTongueModel" "nToken" "[I" ∈ pw := pin_4 _ (List.mem_of_getElem? (i := 29) rfl)
theorem pw_190 : Cond.fieldLink RX12 47 "JinjaTongueModel" "nA" "[I" ∈ pw := pin_4 _ (List.mem_of_getElem? (i := 30) rfl)
theorem pw_191 : Cond.fieldLink RX12 50 "JinjaTongueModel" "nB" "[I" ∈ pw := pin_4 _ (List.mem_of_getElem? (i := 31) rfl)
theorem pw_192 : Cond.fieldLink RX12 53 "JinjaTongueModel" "nC" "[I" ∈ pw := pin_4 _ (List.mem_of_getElem? (i := 32) rfl)
theorem pw_193 : Cond.fieldLink RX12 56 "JinjaTongueModel" "nD" "[I" ∈ pw := pin_4 _ (List.mem_of_getElem? (i := 33) rfl)
theorem pw_194 : Cond.fieldLink RX12 59 "JinjaTongueModel" "nNext" "[I" ∈ pw := pin_4 _ (List.mem_of_getElem? (i := 34) rfl)
theorem pw_195 : Cond.fieldLink RX12 62 "JinjaTongueModel" "nType" "[I" ∈ pw := pin_4 _ (List.mem_of_getElem? (i := 35) rfl)
theorem pw_196 : Cond.fieldLink RX12 65 "JinjaTongueModel" "nMeans" "[I" ∈ pw := pin_4 _ (List.mem_of_getElem? (i := 36) rfl)
theorem pw_197 : Cond.fieldLink RX12 68 "JinjaTongueModel" "yToken" "[I" ∈ pw := pin_4 _ (List.mem_of_getElem? (i := 37) rfl)
theorem pw_198 : Cond.fieldLink RX12 71 "JinjaTongueModel" "yRow" "[Z" ∈ pw := pin_4 _ (List.mem_of_getElem? (i := 38) rfl)
theorem pw_199 : Cond.fieldLink RX12 75 "JinjaTongueModel" "yCode" "[I" ∈ pw := pin_4 _ (List.mem_of_getElem? (i := 39) rfl)
theorem pw_200 : Cond.fieldLink RX12 78 "JinjaTongueModel" "lToken" "[I" ∈ pw := pin_5 _ (List.mem_of_getElem? (i := 0) rfl)
theorem pw_201 : Cond.fieldLink RX12 81 "JinjaTongueModel" "lNext" "[I" ∈ pw := pin_5 _ (List.mem_of_getElem? (i := 1) rfl)
theorem pw_202 : Cond.fieldLink RX12 84 "JinjaTongueModel" "dName" "[I" ∈ pw := pin_5 _ (List.mem_of_getElem? (i := 2) rfl)
theorem pw_203 : Cond.fieldLink RX12 87 "JinjaTongueModel" "dToken" "[I" ∈ pw := pin_5 _ (List.mem_of_getElem? (i := 3) rfl)
theorem pw_204 : Cond.fieldLink RX12 90 "JinjaTongueModel" "dIsInterface" "[Z" ∈ pw := pin_5 _ (List.mem_of_getElem? (i := 4) rfl)
theorem pw_205 : Cond.fieldLink RX12 93 "JinjaTongueModel" "dExtends" "[I" ∈ pw := pin_5 _ (List.mem_of_getElem? (i := 5) rfl)
theorem pw_206 : Cond.fieldLink RX12 96 "JinjaTongueModel" "dImplements" "[I" ∈ pw := pin_5 _ (List.mem_of_getElem? (i := 6) rfl)
theorem pw_207 : Cond.fieldLink RX12 99 "JinjaTongueModel" "dSuper" "[I" ∈ pw := pin_5 _ (List.mem_of_getElem? (i := 7) rfl)
theorem pw_208 : Cond.fieldLink RX12 102 "JinjaTongueModel" "dCells" "[I" ∈ pw := pin_5 _ (List.mem_of_getElem? (i := 8) rfl)
theorem pw_209 : Cond.fieldLink RX12 105 "JinjaTongueModel" "dAbove" "[Z" ∈ pw := pin_5 _ (List.mem_of_getElem? (i := 9) rfl)
theorem pw_210 : Cond.fieldLink RX12 108 "JinjaTongueModel" "fOf" "[I" ∈ pw := pin_5 _ (List.mem_of_getElem? (i := 10) rfl)
theorem pw_211 : Cond.fieldLink RX12 111 "JinjaTongueModel" "fName" "[I" ∈ pw := pin_5 _ (List.mem_of_getElem? (i := 11) rfl)
theorem pw_212 : Cond.fieldLink RX12 114 "JinjaTongueModel" "fToken" "[I" ∈ pw := pin_5 _ (List.mem_of_getElem? (i := 12) rfl)
theorem pw_213 : Cond.fieldLink RX12 117 "JinjaTongueModel" "fType" "[I" ∈ pw := pin_5 _ (List.mem_of_getElem? (i := 13) rfl)
theorem pw_214 : Cond.fieldLink RX12 120 "JinjaTongueModel" "mOf" "[I" ∈ pw := pin_5 _ (List.mem_of_getElem? (i := 14) rfl)
theorem pw_215 : Cond.fieldLink RX12 123 "JinjaTongueModel" "mName" "[I" ∈ pw := pin_5 _ (List.mem_of_getElem? (i := 15) rfl)
theorem pw_216 : Cond.fieldLink RX12 126 "JinjaTongueModel" "mToken" "[I" ∈ pw := pin_5 _ (List.mem_of_getElem? (i := 16) rfl)
theorem pw_217 : Cond.fieldLink RX12 129 "JinjaTongueModel" "mResult" "[I" ∈ pw := pin_5 _ (List.mem_of_getElem? (i := 17) rfl)
theorem pw_218 : Cond.fieldLink RX12 132 "JinjaTongueModel" "mFirst" "[I" ∈ pw := pin_5 _ (List.mem_of_getElem? (i := 18) rfl)
theorem pw_219 : Cond.fieldLink RX12 135 "JinjaTongueModel" "mMany" "[I" ∈ pw := pin_5 _ (List.mem_of_getElem? (i := 19) rfl)
theorem pw_220 : Cond.fieldLink RX12 138 "JinjaTongueModel" "mBlock" "[I" ∈ pw := pin_5 _ (List.mem_of_getElem? (i := 20) rfl)
theorem pw_221 : Cond.fieldLink RX12 141 "JinjaTongueModel" "mEnd" "[I" ∈ pw := pin_5 _ (List.mem_of_getElem? (i := 21) rfl)
theorem pw_222 : Cond.fieldLink RX12 144 "JinjaTongueModel" "mNumber" "[I" ∈ pw := pin_5 _ (List.mem_of_getElem? (i := 22) rfl)
theorem pw_223 : Cond.fieldLink RX12 147 "JinjaTongueModel" "pName" "[I" ∈ pw := pin_5 _ (List.mem_of_getElem? (i := 23) rfl)
theorem pw_224 : Cond.fieldLink RX12 150 "JinjaTongueModel" "pToken" "[I" ∈ pw := pin_5 _ (List.mem_of_getElem? (i := 24) rfl)
theorem pw_225 : Cond.fieldLink RX12 153 "JinjaTongueModel" "pType" "[I" ∈ pw := pin_5 _ (List.mem_of_getElem? (i := 25) rfl)
theorem pw_226 : Cond.fieldLink RX12 156 "JinjaTongueModel" "vName" "[I" ∈ pw := pin_5 _ (List.mem_of_getElem? (i := 26) rfl)
theorem pw_227 : Cond.fieldLink RX12 159 "JinjaTongueModel" "vType" "[I" ∈ pw := pin_5 _ (List.mem_of_getElem? (i := 27) rfl)
theorem pw_228 : Cond.fieldLink RX12 162 "JinjaTongueModel" "inputs" "[I" ∈ pw := pin_5 _ (List.mem_of_getElem? (i := 28) rfl)
theorem pw_229 : Cond.fieldLink RX12 165 "JinjaTongueModel" "output" "[I" ∈ pw := pin_5 _ (List.mem_of_getElem? (i := 29) rfl)
theorem pw_230 : Cond.fieldLink RX12 168 "JinjaTongueModel" "nUp" "[I" ∈ pw := pin_5 _ (List.mem_of_getElem? (i := 30) rfl)
theorem pw_231 : Cond.fieldLink RX12 171 "JinjaTongueModel" "fPlace" "[I" ∈ pw := pin_5 _ (List.mem_of_getElem? (i := 31) rfl)
theorem pw_232 : Cond.constant RX12 174 (204000) ∈ pw := pin_5 _ (List.mem_of_getElem? (i := 32) rfl)
theorem pw_233 : Cond.fieldLink RX12 175 "JinjaTongueModel" "choiceOf" "[I" ∈ pw := pin_5 _ (List.mem_of_getElem? (i := 33) rfl)
theorem pw_234 : Cond.fieldLink RX12 178 "JinjaTongueModel" "oClass" "[I" ∈ pw := pin_5 _ (List.mem_of_getElem? (i := 34) rfl)
theorem pw_235 : Cond.fieldLink RX12 181 "JinjaTongueModel" "oSort" "[I" ∈ pw := pin_5 _ (List.mem_of_getElem? (i := 35) rfl)
theorem pw_236 : Cond.fieldLink RX12 184 "JinjaTongueModel" "oMany" "[I" ∈ pw := pin_5 _ (List.mem_of_getElem? (i := 36) rfl)
theorem pw_237 : Cond.fieldLink RX12 187 "JinjaTongueModel" "oAt" "[I" ∈ pw := pin_5 _ (List.mem_of_getElem? (i := 37) rfl)
theorem pw_238 : Cond.fieldLink RX12 190 "JinjaTongueModel" "oSeen" "[Z" ∈ pw := pin_5 _ (List.mem_of_getElem? (i := 38) rfl)
theorem pw_239 : Cond.fieldLink RX12 193 "JinjaTongueModel" "cells" "[I" ∈ pw := pin_5 _ (List.mem_of_getElem? (i := 39) rfl)
theorem pw_240 : Cond.fieldLink RX12 196 "JinjaTongueModel" "todo" "[I" ∈ pw := pin_6 _ (List.mem_of_getElem? (i := 0) rfl)
theorem pw_241 : Cond.fieldLink RX12 199 "JinjaTongueModel" "cThis" "[I" ∈ pw := pin_6 _ (List.mem_of_getElem? (i := 1) rfl)
theorem pw_242 : Cond.fieldLink RX12 202 "JinjaTongueModel" "cScope" "[I" ∈ pw := pin_6 _ (List.mem_of_getElem? (i := 2) rfl)
theorem pw_243 : Cond.fieldLink RX12 205 "JinjaTongueModel" "cValues" "[I" ∈ pw := pin_6 _ (List.mem_of_getElem? (i := 3) rfl)
theorem pw_244 : Cond.fieldLink RX12 208 "JinjaTongueModel" "cNode" "[I" ∈ pw := pin_6 _ (List.mem_of_getElem? (i := 4) rfl)
theorem pw_245 : Cond.fieldLink RX12 211 "JinjaTongueModel" "variable" "[I" ∈ pw := pin_6 _ (List.mem_of_getElem? (i := 5) rfl)
theorem pw_246 : Cond.fieldLink RX12 214 "JinjaTongueModel" "variableRefers" "[Z" ∈ pw := pin_6 _ (List.mem_of_getElem? (i := 6) rfl)
theorem pw_247 : Cond.constant RX12 217 (40000) ∈ pw := pin_6 _ (List.mem_of_getElem? (i := 7) rfl)
theorem pw_248 : Cond.fieldLink RX12 218 "JinjaTongueModel" "stack" "[I" ∈ pw := pin_6 _ (List.mem_of_getElem? (i := 8) rfl)
theorem pw_249 : Cond.fieldLink RX12 221 "JinjaTongueModel" "refers" "[Z" ∈ pw := pin_6 _ (List.mem_of_getElem? (i := 9) rfl)
theorem pw_250 : Cond.fieldLink RX12 224 "JinjaTongueModel" "waitKind" "[I" ∈ pw := pin_6 _ (List.mem_of_getElem? (i := 10) rfl)
theorem pw_251 : Cond.fieldLink RX12 227 "JinjaTongueModel" "waitValue" "[I" ∈ pw := pin_6 _ (List.mem_of_getElem? (i := 11) rfl)
theorem pw_252 : Cond.fieldLink RX12 230 "JinjaTongueModel" "waitRefers" "[Z" ∈ pw := pin_6 _ (List.mem_of_getElem? (i := 12) rfl)
theorem pw_253 : Cond.fieldLink RX12 233 "JinjaTongueModel" "ended" "I" ∈ pw := pin_6 _ (List.mem_of_getElem? (i := 13) rfl)
theorem pw_254 : Cond.fieldLink RX12 237 "JinjaTongueModel" "order" "[I" ∈ pw := pin_6 _ (List.mem_of_getElem? (i := 14) rfl)
theorem pw_255 : Cond.fieldLink RX12 240 "JinjaTongueModel" "idle" "[I" ∈ pw := pin_6 _ (List.mem_of_getElem? (i := 15) rfl)
theorem pw_256 : Cond.fieldLink RX12 243 "JinjaTongueModel" "refFrom" "[I" ∈ pw := pin_6 _ (List.mem_of_getElem? (i := 16) rfl)
theorem pw_257 : Cond.fieldLink RX12 246 "JinjaTongueModel" "refMany" "[I" ∈ pw := pin_6 _ (List.mem_of_getElem? (i := 17) rfl)
theorem pw_258 : Cond.fieldLink RX12 249 "JinjaTongueModel" "refPlace" "[I" ∈ pw := pin_6 _ (List.mem_of_getElem? (i := 18) rfl)
theorem pw_259 : Cond.fieldLink RX12 252 "JinjaTongueModel" "thrown" "I" ∈ pw := pin_6 _ (List.mem_of_getElem? (i := 19) rfl)
theorem pw_260 : Cond.fieldLink RX12 255 "JinjaTongueModel" "taped" "I" ∈ pw := pin_6 _ (List.mem_of_getElem? (i := 20) rfl)
theorem pw_261 : Cond.fieldLink RX12 258 "JinjaTongueModel" "size" "I" ∈ pw := pin_6 _ (List.mem_of_getElem? (i := 21) rfl)
theorem pw_262 : Cond.fieldLink RX12 277 "JinjaTongueModel" "names" "I" ∈ pw := pin_6 _ (List.mem_of_getElem? (i := 22) rfl)
theorem pw_263 : Cond.fieldLink RX12 280 "JinjaTongueModel" "nameUsed" "I" ∈ pw := pin_6 _ (List.mem_of_getElem? (i := 23) rfl)
theorem pw_264 : Cond.methodLink RX12 267 yJ0_length_8abf5 ∈ pw := pin_6 _ (List.mem_of_getElem? (i := 24) rfl)
theorem pw_265 : Cond.methodLink RX12 273 yJ0_charAt_5068e ∈ pw := pin_6 _ (List.mem_of_getElem? (i := 25) rfl)
theorem pw_266 : Cond.methodLink RX12 294 yX12_built ∈ pw := pin_6 _ (List.mem_of_getElem? (i := 26) rfl)
theorem pw_267 : Cond.fieldLink RX12 314 "JinjaTongueModel" "tokens" "I" ∈ pw := pin_6 _ (List.mem_of_getElem? (i := 27) rfl)
theorem pw_268 : Cond.methodLink RX12 283 yX12_ch ∈ pw := pin_6 _ (List.mem_of_getElem? (i := 28) rfl)
theorem pw_269 : Cond.constantLong RX12 331 (10) ∈ pw := pin_6 _ (List.mem_of_getElem? (i := 29) rfl)
theorem pw_270 : Cond.constantLong RX12 333 (48) ∈ pw := pin_6 _ (List.mem_of_getElem? (i := 30) rfl)
theorem pw_271 : Cond.constantLong RX12 335 (2147483647) ∈ pw := pin_6 _ (List.mem_of_getElem? (i := 31) rfl)
theorem pw_272 : Cond.fieldLink RX12 343 "JinjaTongueModel" "at" "I" ∈ pw := pin_6 _ (List.mem_of_getElem? (i := 32) rfl)
theorem pw_273 : Cond.fieldLink RX12 493 "JinjaTongueModel" "roundWhat" "I" ∈ pw := pin_6 _ (List.mem_of_getElem? (i := 33) rfl)
theorem pw_274 : Cond.fieldLink RX12 496 "JinjaTongueModel" "roundAt" "I" ∈ pw := pin_6 _ (List.mem_of_getElem? (i := 34) rfl)
theorem pw_275 : Cond.fieldLink RX12 350 "JinjaTongueModel" "fault" "I" ∈ pw := pin_6 _ (List.mem_of_getElem? (i := 35) rfl)
theorem pw_276 : Cond.fieldLink RX12 353 "JinjaTongueModel" "faultPlace" "I" ∈ pw := pin_6 _ (List.mem_of_getElem? (i := 36) rfl)
theorem pw_277 : Cond.fieldLink RX12 384 "JinjaTongueModel" "decls" "I" ∈ pw := pin_6 _ (List.mem_of_getElem? (i := 37) rfl)
theorem pw_278 : Cond.methodLink RX12 499 yX12_declOf ∈ pw := pin_6 _ (List.mem_of_getElem? (i := 38) rfl)
theorem pw_279 : Cond.methodLink RX12 502 yX12_note ∈ pw := pin_6 _ (List.mem_of_getElem? (i := 39) rfl)
theorem pw_280 : Cond.fieldLink RX12 413 "JinjaTongueModel" "fields" "I" ∈ pw := pin_7 _ (List.mem_of_getElem? (i := 0) rfl)
theorem pw_281 : Cond.fieldLink RX12 416 "JinjaTongueModel" "methods" "I" ∈ pw := pin_7 _ (List.mem_of_getElem? (i := 1) rfl)
theorem pw_282 : Cond.fieldLink RX12 399 "JinjaTongueModel" "written" "I" ∈ pw := pin_7 _ (List.mem_of_getElem? (i := 2) rfl)
theorem pw_283 : Cond.fieldLink RX12 340 "JinjaTongueModel" "nodes" "I" ∈ pw := pin_7 _ (List.mem_of_getElem? (i := 3) rfl)
theorem pw_284 : Cond.fieldLink RX12 649 "JinjaTongueModel" "hasProgram" "Z" ∈ pw := pin_7 _ (List.mem_of_getElem? (i := 4) rfl)
theorem pw_285 : Cond.fieldLink RX12 653 "JinjaTongueModel" "hasRun" "Z" ∈ pw := pin_7 _ (List.mem_of_getElem? (i := 5) rfl)
theorem pw_286 : Cond.fieldLink RX12 656 "JinjaTongueModel" "outputs" "I" ∈ pw := pin_7 _ (List.mem_of_getElem? (i := 6) rfl)
theorem pw_287 : Cond.methodLink RX12 659 yX12_cut ∈ pw := pin_7 _ (List.mem_of_getElem? (i := 7) rfl)
theorem pw_288 : Cond.fieldLink RX12 372 "JinjaTongueModel" "listed" "I" ∈ pw := pin_7 _ (List.mem_of_getElem? (i := 8) rfl)
theorem pw_289 : Cond.fieldLink RX12 419 "JinjaTongueModel" "parameters" "I" ∈ pw := pin_7 _ (List.mem_of_getElem? (i := 9) rfl)
theorem pw_290 : Cond.fieldLink RX12 422 "JinjaTongueModel" "blocks" "I" ∈ pw := pin_7 _ (List.mem_of_getElem? (i := 10) rfl)
theorem pw_291 : Cond.fieldLink RX12 366 "JinjaTongueModel" "nest" "I" ∈ pw := pin_7 _ (List.mem_of_getElem? (i := 11) rfl)
theorem pw_292 : Cond.methodLink RX12 381 yX12_kind ∈ pw := pin_7 _ (List.mem_of_getElem? (i := 12) rfl)
theorem pw_293 : Cond.methodLink RX12 665 yX12_firstRound ∈ pw := pin_7 _ (List.mem_of_getElem? (i := 13) rfl)
theorem pw_294 : Cond.methodLink RX12 668 yX12_ends ∈ pw := pin_7 _ (List.mem_of_getElem? (i := 14) rfl)
theorem pw_295 : Cond.methodLink RX12 671 yX12_findAbove ∈ pw := pin_7 _ (List.mem_of_getElem? (i := 15) rfl)
theorem pw_296 : Cond.methodLink RX12 674 yX12_thirdRound ∈ pw := pin_7 _ (List.mem_of_getElem? (i := 16) rfl)
theorem pw_297 : Cond.methodLink RX12 261 yX12_in ∈ pw := pin_7 _ (List.mem_of_getElem? (i := 17) rfl)
theorem pw_298 : Cond.fieldLink RX12 689 "JinjaTongueModel" "inputMany" "I" ∈ pw := pin_7 _ (List.mem_of_getElem? (i := 18) rfl)
theorem pw_299 : Cond.fieldLink RX12 748 "JinjaTongueModel" "fuel" "I" ∈ pw := pin_7 _ (List.mem_of_getElem? (i := 19) rfl)
theorem pw_300 : Cond.fieldLink RX12 733 "JinjaTongueModel" "room" "I" ∈ pw := pin_7 _ (List.mem_of_getElem? (i := 20) rfl)
theorem pw_301 : Cond.fieldLink RX12 763 "JinjaTongueModel" "result" "I" ∈ pw := pin_7 _ (List.mem_of_getElem? (i := 21) rfl)
theorem pw_302 : Cond.fieldLink RX12 766 "JinjaTongueModel" "uncaught" "I" ∈ pw := pin_7 _ (List.mem_of_getElem? (i := 22) rfl)
theorem pw_303 : Cond.fieldLink RX12 769 "JinjaTongueModel" "readMany" "I" ∈ pw := pin_7 _ (List.mem_of_getElem? (i := 23) rfl)
theorem pw_304 : Cond.fieldLink RX12 739 "JinjaTongueModel" "made" "I" ∈ pw := pin_7 _ (List.mem_of_getElem? (i := 24) rfl)
theorem pw_305 : Cond.fieldLink RX12 742 "JinjaTongueModel" "madeCells" "I" ∈ pw := pin_7 _ (List.mem_of_getElem? (i := 25) rfl)
theorem pw_306 : Cond.fieldLink RX12 772 "JinjaTongueModel" "calls" "I" ∈ pw := pin_7 _ (List.mem_of_getElem? (i := 26) rfl)
theorem pw_307 : Cond.fieldLink RX12 775 "JinjaTongueModel" "mostOpen" "I" ∈ pw := pin_7 _ (List.mem_of_getElem? (i := 27) rfl)
theorem pw_308 : Cond.fieldLink RX12 707 "JinjaTongueModel" "open" "I" ∈ pw := pin_7 _ (List.mem_of_getElem? (i := 28) rfl)
theorem pw_309 : Cond.fieldLink RX12 698 "JinjaTongueModel" "top" "I" ∈ pw := pin_7 _ (List.mem_of_getElem? (i := 29) rfl)
theorem pw_310 : Cond.fieldLink RX12 713 "JinjaTongueModel" "waits" "I" ∈ pw := pin_7 _ (List.mem_of_getElem? (i := 30) rfl)
theorem pw_311 : Cond.fieldLink RX12 719 "JinjaTongueModel" "filled" "I" ∈ pw := pin_7 _ (List.mem_of_getElem? (i := 31) rfl)
theorem pw_312 : Cond.fieldLink RX12 722 "JinjaTongueModel" "cellTop" "I" ∈ pw := pin_7 _ (List.mem_of_getElem? (i := 32) rfl)
theorem pw_313 : Cond.fieldLink RX12 704 "JinjaTongueModel" "orders" "I" ∈ pw := pin_7 _ (List.mem_of_getElem? (i := 33) rfl)
theorem pw_314 : Cond.fieldLink RX12 725 "JinjaTongueModel" "idles" "I" ∈ pw := pin_7 _ (List.mem_of_getElem? (i := 34) rfl)
theorem pw_315 : Cond.fieldLink RX12 754 "JinjaTongueModel" "isNew" "Z" ∈ pw := pin_7 _ (List.mem_of_getElem? (i := 35) rfl)
theorem pw_316 : Cond.fieldLink RX12 751 "JinjaTongueModel" "now" "I" ∈ pw := pin_7 _ (List.mem_of_getElem? (i := 36) rfl)
theorem pw_317 : Cond.fieldLink RJ0 9 "java/lang/String" "value" "[B" ∈ pw := pin_7 _ (List.mem_of_getElem? (i := 37) rfl)
theorem pw_318 : Cond.methodLink RJ0 335 yJ0_coder_7d493 ∈ pw := pin_7 _ (List.mem_of_getElem? (i := 38) rfl)
theorem pw_319 : Cond.fieldLink RJ0 38 "java/lang/String" "COMPACT_STRINGS" "Z" ∈ pw := pin_7 _ (List.mem_of_getElem? (i := 39) rfl)
theorem pw_320 : Cond.fieldLink RJ0 15 "java/lang/String" "coder" "B" ∈ pw := pin_8 _ (List.mem_of_getElem? (i := 0) rfl)
theorem pw_321 : Cond.methodLink RJ0 492 yJ0_isLatin1_aae02 ∈ pw := pin_8 _ (List.mem_of_getElem? (i := 1) rfl)
theorem pw_322 : Cond.methodLink RJ0 495 yJ1_charAt_3b067 ∈ pw := pin_8 _ (List.mem_of_getElem? (i := 2) rfl)
theorem pw_323 : Cond.fieldLink RJ0 1053 "jdk/internal/util/Preconditions" "SIOOBE_FORMATTER" "Ljava/util/function/BiFunction;" ∈ pw := pin_8 _ (List.mem_of_getElem? (i := 3) rfl)
theorem pw_324 : Cond.methodLink RJ0 1059 yJ3_checkIndex_8e157 ∈ pw := pin_8 _ (List.mem_of_getElem? (i := 4) rfl)
theorem pw_325 : Cond.methodLink RJ1 9 yJ0_checkIndex_df160 ∈ pw := pin_8 _ (List.mem_of_getElem? (i := 5) rfl)
theorem pw_326 : Cond.methodLink RJx4a65c 1 yJxc12de_init_da8c8 ∈ pw := pin_8 _ (List.mem_of_getElem? (i := 6) rfl)
theorem pw_327 : Cond.fieldLink RJx4a65c 39 "java/util/ArrayList" "DEFAULTCAPACITY_EMPTY_ELEMENTDATA" "[Ljava/lang/Object;" ∈ pw := pin_8 _ (List.mem_of_getElem? (i := 7) rfl)
theorem pw_328 : Cond.fieldLink RJx4a65c 9 "java/util/ArrayList" "elementData" "[Ljava/lang/Object;" ∈ pw := pin_8 _ (List.mem_of_getElem? (i := 8) rfl)
theorem pw_329 : Cond.methodLink RJxc12de 1 yJxa1e45_init_da8c8 ∈ pw := pin_8 _ (List.mem_of_getElem? (i := 9) rfl)
theorem pw_330 : Cond.fieldLink RJxc12de 7 "java/util/AbstractList" "modCount" "I" ∈ pw := pin_8 _ (List.mem_of_getElem? (i := 10) rfl)
theorem pw_331 : Cond.methodLink RJxa1e45 1 objectInit ∈ pw := pin_8 _ (List.mem_of_getElem? (i := 11) rfl)
theorem pw_332 : Cond.methodLink RL 7 yX11_run ∈ pw := pin_8 _ (List.mem_of_getElem? (i := 12) rfl)
theorem pw_333 : Cond.classLink RL 8 RX11 ∈ pw := pin_8 _ (List.mem_of_getElem? (i := 13) rfl)
theorem pw_334 : Cond.methodLink RL 17 yX11_init ∈ pw := pin_8 _ (List.mem_of_getElem? (i := 14) rfl)
theorem pw_335 : Cond.classLink RL 18 RX12 ∈ pw := pin_8 _ (List.mem_of_getElem? (i := 15) rfl)
theorem pw_336 : Cond.methodLink RL 20 yX12_init ∈ pw := pin_8 _ (List.mem_of_getElem? (i := 16) rfl)
theorem pw_337 : Cond.methodLink RL 21 yX11_feed ∈ pw := pin_8 _ (List.mem_of_getElem? (i := 17) rfl)
theorem pw_338 : Cond.methodLink RL 25 yX12_feed ∈ pw := pin_8 _ (List.mem_of_getElem? (i := 18) rfl)
theorem pw_339 : Cond.methodLink RL 26 yX11_back ∈ pw := pin_8 _ (List.mem_of_getElem? (i := 19) rfl)
theorem pw_340 : Cond.methodLink RL 30 yX12_back ∈ pw := pin_8 _ (List.mem_of_getElem? (i := 20) rfl)
theorem pw_341 : Cond.methodLink RL 31 yX11_read ∈ pw := pin_8 _ (List.mem_of_getElem? (i := 21) rfl)
theorem pw_342 : Cond.methodLink RL 35 yX12_read ∈ pw := pin_8 _ (List.mem_of_getElem? (i := 22) rfl)
theorem pw_343 : Cond.methodLink RL 36 yX11_type ∈ pw := pin_8 _ (List.mem_of_getElem? (i := 23) rfl)
theorem pw_344 : Cond.methodLink RL 39 yX12_type ∈ pw := pin_8 _ (List.mem_of_getElem? (i := 24) rfl)
theorem pw_345 : Cond.methodLink RL 40 yX11_above ∈ pw := pin_8 _ (List.mem_of_getElem? (i := 25) rfl)
theorem pw_346 : Cond.methodLink RL 43 yX12_above ∈ pw := pin_8 _ (List.mem_of_getElem? (i := 26) rfl)
theorem pw_347 : Cond.methodLink RL 44 yX11_letter ∈ pw := pin_8 _ (List.mem_of_getElem? (i := 27) rfl)
theorem pw_348 : Cond.methodLink RL 47 yX12_letter ∈ pw := pin_8 _ (List.mem_of_getElem? (i := 28) rfl)
theorem pw_349 : Cond.methodLink RL 48 yX11_called ∈ pw := pin_8 _ (List.mem_of_getElem? (i := 29) rfl)
theorem pw_350 : Cond.methodLink RL 51 yX12_called ∈ pw := pin_8 _ (List.mem_of_getElem? (i := 30) rfl)
theorem pw_351 : Cond.methodLink RL 52 yX11_input ∈ pw := pin_8 _ (List.mem_of_getElem? (i := 31) rfl)
theorem pw_352 : Cond.methodLink RL 55 yX12_input ∈ pw := pin_8 _ (List.mem_of_getElem? (i := 32) rfl)
theorem pw_353 : Cond.methodLink RL 56 yX11_forget ∈ pw := pin_8 _ (List.mem_of_getElem? (i := 33) rfl)
theorem pw_354 : Cond.methodLink RL 59 yX12_forget ∈ pw := pin_8 _ (List.mem_of_getElem? (i := 34) rfl)
theorem pw_355 : Cond.methodLink RL 60 yL_run ∈ pw := pin_8 _ (List.mem_of_getElem? (i := 35) rfl)
theorem pw_356 : Cond.methodLink RL 65 yX12_run ∈ pw := pin_8 _ (List.mem_of_getElem? (i := 36) rfl)
theorem pw_357 : Cond.methodLink RL 66 yX12_thrown ∈ pw := pin_8 _ (List.mem_of_getElem? (i := 37) rfl)
theorem pw_358 : Cond.methodLink RL 69 yX11_result ∈ pw := pin_8 _ (List.mem_of_getElem? (i := 38) rfl)
theorem pw_359 : Cond.methodLink RL 72 yX12_result ∈ pw := pin_8 _ (List.mem_of_getElem? (i := 39) rfl)
theorem pw_360 : Cond.methodLink RL 73 yX11_output ∈ pw := pin_9 _ (List.mem_of_getElem? (i := 0) rfl)
theorem pw_361 : Cond.methodLink RL 76 yX12_output ∈ pw := pin_9 _ (List.mem_of_getElem? (i := 1) rfl)
theorem pw_362 : Cond.methodLink RL 77 yX11_thrown ∈ pw := pin_9 _ (List.mem_of_getElem? (i := 2) rfl)
theorem pw_363 : Cond.methodLink RL 79 yX12_thrown_ ∈ pw := pin_9 _ (List.mem_of_getElem? (i := 3) rfl)
theorem pw_364 : Cond.methodLink RL 80 yX11_count ∈ pw := pin_9 _ (List.mem_of_getElem? (i := 4) rfl)
theorem pw_365 : Cond.methodLink RL 83 yX12_count ∈ pw := pin_9 _ (List.mem_of_getElem? (i := 5) rfl)
theorem pw_366 : Cond.methodLink RL 84 yX11_refusals ∈ pw := pin_9 _ (List.mem_of_getElem? (i := 6) rfl)
theorem pw_367 : Cond.methodLink RL 87 yX12_refusals ∈ pw := pin_9 _ (List.mem_of_getElem? (i := 7) rfl)
theorem pw_368 : Cond.code yX11_init cX11_init 1 none ∈ pw := pin_9 _ (List.mem_of_getElem? (i := 8) rfl)
theorem pw_369 : Cond.instanceMethod yX11_init ∈ pw := pin_9 _ (List.mem_of_getElem? (i := 9) rfl)
theorem pw_370 : Cond.initialized RX11 ∈ pw := pin_9 _ (List.mem_of_getElem? (i := 10) rfl)
theorem pw_371 : Cond.code yX11_feed cX11_feed 6 (some .int) ∈ pw := pin_9 _ (List.mem_of_getElem? (i := 11) rfl)
theorem pw_372 : Cond.instanceMethod yX11_feed ∈ pw := pin_9 _ (List.mem_of_getElem? (i := 12) rfl)
theorem pw_373 : Cond.selects RX11 yX11_feed yX11_feed ∈ pw := pin_9 _ (List.mem_of_getElem? (i := 13) rfl)
theorem pw_374 : Cond.code yX11_append cX11_append 3 none ∈ pw := pin_9 _ (List.mem_of_getElem? (i := 14) rfl)
theorem pw_375 : Cond.instanceMethod yX11_append ∈ pw := pin_9 _ (List.mem_of_getElem? (i := 15) rfl)
theorem pw_376 : Cond.selects RX11 yX11_append yX11_append ∈ pw := pin_9 _ (List.mem_of_getElem? (i := 16) rfl)
theorem pw_377 : Cond.code yX11_back cX11_back 2 (some .int) ∈ pw := pin_9 _ (List.mem_of_getElem? (i := 17) rfl)
theorem pw_378 : Cond.instanceMethod yX11_back ∈ pw := pin_9 _ (List.mem_of_getElem? (i := 18) rfl)
theorem pw_379 : Cond.selects RX11 yX11_back yX11_back ∈ pw := pin_9 _ (List.mem_of_getElem? (i := 19) rfl)
theorem pw_380 : Cond.codeWith yX11_read cX11_read 3 (some .int) [(44, 64, 67, 86)] ∈ pw := pin_9 _ (List.mem_of_getElem? (i := 20) rfl)
theorem pw_381 : Cond.instanceMethod yX11_read ∈ pw := pin_9 _ (List.mem_of_getElem? (i := 21) rfl)
theorem pw_382 : Cond.selects RX11 yX11_read yX11_read ∈ pw := pin_9 _ (List.mem_of_getElem? (i := 22) rfl)
theorem pw_383 : Cond.code yX11_declared cX11_declared 2 (some (.object "JinjaTongue$Decl")) ∈ pw := pin_9 _ (List.mem_of_getElem? (i := 23) rfl)
theorem pw_384 : Cond.instanceMethod yX11_declared ∈ pw := pin_9 _ (List.mem_of_getElem? (i := 24) rfl)
theorem pw_385 : Cond.selects RX11 yX11_declared yX11_declared ∈ pw := pin_9 _ (List.mem_of_getElem? (i := 25) rfl)
theorem pw_386 : Cond.code yX11_type cX11_type 4 (some .int) ∈ pw := pin_9 _ (List.mem_of_getElem? (i := 26) rfl)
theorem pw_387 : Cond.instanceMethod yX11_type ∈ pw := pin_9 _ (List.mem_of_getElem? (i := 27) rfl)
theorem pw_388 : Cond.selects RX11 yX11_type yX11_type ∈ pw := pin_9 _ (List.mem_of_getElem? (i := 28) rfl)
theorem pw_389 : Cond.code yX11_above cX11_above 3 (some .int) ∈ pw := pin_9 _ (List.mem_of_getElem? (i := 29) rfl)
theorem pw_390 : Cond.instanceMethod yX11_above ∈ pw := pin_9 _ (List.mem_of_getElem? (i := 30) rfl)
theorem pw_391 : Cond.selects RX11 yX11_above yX11_above ∈ pw := pin_9 _ (List.mem_of_getElem? (i := 31) rfl)
theorem pw_392 : Cond.code yX11_letter cX11_letter 4 (some .int) ∈ pw := pin_9 _ (List.mem_of_getElem? (i := 32) rfl)
theorem pw_393 : Cond.instanceMethod yX11_letter ∈ pw := pin_9 _ (List.mem_of_getElem? (i := 33) rfl)
theorem pw_394 : Cond.selects RX11 yX11_letter yX11_letter ∈ pw := pin_9 _ (List.mem_of_getElem? (i := 34) rfl)
theorem pw_395 : Cond.code yX11_called cX11_called 6 (some .int) ∈ pw := pin_9 _ (List.mem_of_getElem? (i := 35) rfl)
theorem pw_396 : Cond.instanceMethod yX11_called ∈ pw := pin_9 _ (List.mem_of_getElem? (i := 36) rfl)
theorem pw_397 : Cond.selects RX11 yX11_called yX11_called ∈ pw := pin_9 _ (List.mem_of_getElem? (i := 37) rfl)
theorem pw_398 : Cond.code yX11_input cX11_input 2 (some .int) ∈ pw := pin_9 _ (List.mem_of_getElem? (i := 38) rfl)
theorem pw_399 : Cond.instanceMethod yX11_input ∈ pw := pin_9 _ (List.mem_of_getElem? (i := 39) rfl)
theorem pw_400 : Cond.selects RX11 yX11_input yX11_input ∈ pw := pin_10 _ (List.mem_of_getElem? (i := 0) rfl)
theorem pw_401 : Cond.code yX11_forget cX11_forget 1 none ∈ pw := pin_10 _ (List.mem_of_getElem? (i := 1) rfl)
theorem pw_402 : Cond.instanceMethod yX11_forget ∈ pw := pin_10 _ (List.mem_of_getElem? (i := 2) rfl)
theorem pw_403 : Cond.selects RX11 yX11_forget yX11_forget ∈ pw := pin_10 _ (List.mem_of_getElem? (i := 3) rfl)
theorem pw_404 : Cond.code yX11_run cX11_run 3 (some .int) ∈ pw := pin_10 _ (List.mem_of_getElem? (i := 4) rfl)
theorem pw_405 : Cond.instanceMethod yX11_run ∈ pw := pin_10 _ (List.mem_of_getElem? (i := 5) rfl)
theorem pw_406 : Cond.selects RX11 yX11_run yX11_run ∈ pw := pin_10 _ (List.mem_of_getElem? (i := 6) rfl)
theorem pw_407 : Cond.code yX11_result cX11_result 1 (some .int) ∈ pw := pin_10 _ (List.mem_of_getElem? (i := 7) rfl)
theorem pw_408 : Cond.instanceMethod yX11_result ∈ pw := pin_10 _ (List.mem_of_getElem? (i := 8) rfl)
theorem pw_409 : Cond.selects RX11 yX11_result yX11_result ∈ pw := pin_10 _ (List.mem_of_getElem? (i := 9) rfl)
theorem pw_410 : Cond.code yX11_output cX11_output 2 (some .int) ∈ pw := pin_10 _ (List.mem_of_getElem? (i := 10) rfl)
theorem pw_411 : Cond.instanceMethod yX11_output ∈ pw := pin_10 _ (List.mem_of_getElem? (i := 11) rfl)
theorem pw_412 : Cond.selects RX11 yX11_output yX11_output ∈ pw := pin_10 _ (List.mem_of_getElem? (i := 12) rfl)
theorem pw_413 : Cond.code yX11_thrown cX11_thrown 2 (some .int) ∈ pw := pin_10 _ (List.mem_of_getElem? (i := 13) rfl)
theorem pw_414 : Cond.instanceMethod yX11_thrown ∈ pw := pin_10 _ (List.mem_of_getElem? (i := 14) rfl)
theorem pw_415 : Cond.selects RX11 yX11_thrown yX11_thrown ∈ pw := pin_10 _ (List.mem_of_getElem? (i := 15) rfl)
theorem pw_416 : Cond.code yX11_count cX11_count 2 (some .int) ∈ pw := pin_10 _ (List.mem_of_getElem? (i := 16) rfl)
theorem pw_417 : Cond.instanceMethod yX11_count ∈ pw := pin_10 _ (List.mem_of_getElem? (i := 17) rfl)
theorem pw_418 : Cond.selects RX11 yX11_count yX11_count ∈ pw := pin_10 _ (List.mem_of_getElem? (i := 18) rfl)
theorem pw_419 : Cond.code yX11_refusals cX11_refusals 1 (some .int) ∈ pw := pin_10 _ (List.mem_of_getElem? (i := 19) rfl)
theorem pw_420 : Cond.instanceMethod yX11_refusals ∈ pw := pin_10 _ (List.mem_of_getElem? (i := 20) rfl)
theorem pw_421 : Cond.selects RX11 yX11_refusals yX11_refusals ∈ pw := pin_10 _ (List.mem_of_getElem? (i := 21) rfl)
theorem pw_422 : Cond.code yX10_init cX10_init 4 none ∈ pw := pin_10 _ (List.mem_of_getElem? (i := 22) rfl)
theorem pw_423 : Cond.instanceMethod yX10_init ∈ pw := pin_10 _ (List.mem_of_getElem? (i := 23) rfl)
theorem pw_424 : Cond.initialized RX10 ∈ pw := pin_10 _ (List.mem_of_getElem? (i := 24) rfl)
theorem pw_425 : Cond.code yX10_spell cX10_spell 4 none ∈ pw := pin_10 _ (List.mem_of_getElem? (i := 25) rfl)
theorem pw_426 : Cond.instanceMethod yX10_spell ∈ pw := pin_10 _ (List.mem_of_getElem? (i := 26) rfl)
theorem pw_427 : Cond.selects RX10 yX10_spell yX10_spell ∈ pw := pin_10 _ (List.mem_of_getElem? (i := 27) rfl)
theorem pw_428 : Cond.code yX10_split cX10_split 6 none ∈ pw := pin_10 _ (List.mem_of_getElem? (i := 28) rfl)
theorem pw_429 : Cond.instanceMethod yX10_split ∈ pw := pin_10 _ (List.mem_of_getElem? (i := 29) rfl)
theorem pw_430 : Cond.selects RX10 yX10_split yX10_split ∈ pw := pin_10 _ (List.mem_of_getElem? (i := 30) rfl)
theorem pw_431 : Cond.code yX10_learnBuiltIn cX10_learnBuiltIn 3 none ∈ pw := pin_10 _ (List.mem_of_getElem? (i := 31) rfl)
theorem pw_432 : Cond.instanceMethod yX10_learnBuiltIn ∈ pw := pin_10 _ (List.mem_of_getElem? (i := 32) rfl)
theorem pw_433 : Cond.selects RX10 yX10_learnBuiltIn yX10_learnBuiltIn ∈ pw := pin_10 _ (List.mem_of_getElem? (i := 33) rfl)
theorem pw_434 : Cond.code yX10_pastBlanks cX10_pastBlanks 5 (some .int) ∈ pw := pin_10 _ (List.mem_of_getElem? (i := 34) rfl)
theorem pw_435 : Cond.instanceMethod yX10_pastBlanks ∈ pw := pin_10 _ (List.mem_of_getElem? (i := 35) rfl)
theorem pw_436 : Cond.selects RX10 yX10_pastBlanks yX10_pastBlanks ∈ pw := pin_10 _ (List.mem_of_getElem? (i := 36) rfl)
theorem pw_437 : Cond.code yX10_nameOf cX10_nameOf 7 (some .int) ∈ pw := pin_10 _ (List.mem_of_getElem? (i := 37) rfl)
theorem pw_438 : Cond.instanceMethod yX10_nameOf ∈ pw := pin_10 _ (List.mem_of_getElem? (i := 38) rfl)
theorem pw_439 : Cond.selects RX10 yX10_nameOf yX10_nameOf ∈ pw := pin_10 _ (List.mem_of_getElem? (i := 39) rfl)
theorem pw_440 : Cond.code yX10_isSpelledAlike cX10_isSpelledAlike 5 (some .boolean) ∈ pw := pin_11 _ (List.mem_of_getElem? (i := 0) rfl)
theorem pw_441 : Cond.instanceMethod yX10_isSpelledAlike ∈ pw := pin_11 _ (List.mem_of_getElem? (i := 1) rfl)
theorem pw_442 : Cond.selects RX10 yX10_isSpelledAlike yX10_isSpelledAlike ∈ pw := pin_11 _ (List.mem_of_getElem? (i := 2) rfl)
theorem pw_443 : Cond.code yX10_placeAt cX10_placeAt 2 (some .int) ∈ pw := pin_11 _ (List.mem_of_getElem? (i := 3) rfl)
theorem pw_444 : Cond.instanceMethod yX10_placeAt ∈ pw := pin_11 _ (List.mem_of_getElem? (i := 4) rfl)
theorem pw_445 : Cond.selects RX10 yX10_placeAt yX10_placeAt ∈ pw := pin_11 _ (List.mem_of_getElem? (i := 5) rfl)
theorem pw_446 : Cond.code yX1_init cX1_init 1 none ∈ pw := pin_11 _ (List.mem_of_getElem? (i := 6) rfl)
theorem pw_447 : Cond.instanceMethod yX1_init ∈ pw := pin_11 _ (List.mem_of_getElem? (i := 7) rfl)
theorem pw_448 : Cond.initialized RX1 ∈ pw := pin_11 _ (List.mem_of_getElem? (i := 8) rfl)
theorem pw_449 : Cond.code yX8_init cX8_init 2 none ∈ pw := pin_11 _ (List.mem_of_getElem? (i := 9) rfl)
theorem pw_450 : Cond.instanceMethod yX8_init ∈ pw := pin_11 _ (List.mem_of_getElem? (i := 10) rfl)
theorem pw_451 : Cond.initialized RX8 ∈ pw := pin_11 _ (List.mem_of_getElem? (i := 11) rfl)
theorem pw_452 : Cond.code yX8_parse cX8_parse 5 none ∈ pw := pin_11 _ (List.mem_of_getElem? (i := 12) rfl)
theorem pw_453 : Cond.instanceMethod yX8_parse ∈ pw := pin_11 _ (List.mem_of_getElem? (i := 13) rfl)
theorem pw_454 : Cond.selects RX8 yX8_parse yX8_parse ∈ pw := pin_11 _ (List.mem_of_getElem? (i := 14) rfl)
theorem pw_455 : Cond.code yX0_init cX0_init 3 none ∈ pw := pin_11 _ (List.mem_of_getElem? (i := 15) rfl)
theorem pw_456 : Cond.instanceMethod yX0_init ∈ pw := pin_11 _ (List.mem_of_getElem? (i := 16) rfl)
theorem pw_457 : Cond.initialized RX0 ∈ pw := pin_11 _ (List.mem_of_getElem? (i := 17) rfl)
theorem pw_458 : Cond.code yX3_init cX3_init 2 none ∈ pw := pin_11 _ (List.mem_of_getElem? (i := 18) rfl)
theorem pw_459 : Cond.instanceMethod yX3_init ∈ pw := pin_11 _ (List.mem_of_getElem? (i := 19) rfl)
theorem pw_460 : Cond.initialized RX3 ∈ pw := pin_11 _ (List.mem_of_getElem? (i := 20) rfl)
theorem pw_461 : Cond.code yX5_init cX5_init 2 none ∈ pw := pin_11 _ (List.mem_of_getElem? (i := 21) rfl)
theorem pw_462 : Cond.instanceMethod yX5_init ∈ pw := pin_11 _ (List.mem_of_getElem? (i := 22) rfl)
theorem pw_463 : Cond.initialized RX5 ∈ pw := pin_11 _ (List.mem_of_getElem? (i := 23) rfl)
theorem pw_464 : Cond.code yX5_takeInput cX5_takeInput 2 (some .int) ∈ pw := pin_11 _ (List.mem_of_getElem? (i := 24) rfl)
theorem pw_465 : Cond.instanceMethod yX5_takeInput ∈ pw := pin_11 _ (List.mem_of_getElem? (i := 25) rfl)
theorem pw_466 : Cond.selects RX5 yX5_takeInput yX5_takeInput ∈ pw := pin_11 _ (List.mem_of_getElem? (i := 26) rfl)
theorem pw_467 : Cond.code yX5_printed cX5_printed 2 (some .int) ∈ pw := pin_11 _ (List.mem_of_getElem? (i := 27) rfl)
theorem pw_468 : Cond.instanceMethod yX5_printed ∈ pw := pin_11 _ (List.mem_of_getElem? (i := 28) rfl)
theorem pw_469 : Cond.selects RX5 yX5_printed yX5_printed ∈ pw := pin_11 _ (List.mem_of_getElem? (i := 29) rfl)
theorem pw_470 : Cond.code yX5_told cX5_told 2 (some .int) ∈ pw := pin_11 _ (List.mem_of_getElem? (i := 30) rfl)
theorem pw_471 : Cond.instanceMethod yX5_told ∈ pw := pin_11 _ (List.mem_of_getElem? (i := 31) rfl)
theorem pw_472 : Cond.selects RX5 yX5_told yX5_told ∈ pw := pin_11 _ (List.mem_of_getElem? (i := 32) rfl)
theorem pw_473 : Cond.code yX5_uncaught cX5_uncaught 5 (some .int) ∈ pw := pin_11 _ (List.mem_of_getElem? (i := 33) rfl)
theorem pw_474 : Cond.instanceMethod yX5_uncaught ∈ pw := pin_11 _ (List.mem_of_getElem? (i := 34) rfl)
theorem pw_475 : Cond.selects RX5 yX5_uncaught yX5_uncaught ∈ pw := pin_11 _ (List.mem_of_getElem? (i := 35) rfl)
theorem pw_476 : Cond.code yX5_clear cX5_clear 1 none ∈ pw := pin_11 _ (List.mem_of_getElem? (i := 36) rfl)
theorem pw_477 : Cond.instanceMethod yX5_clear ∈ pw := pin_11 _ (List.mem_of_getElem? (i := 37) rfl)
theorem pw_478 : Cond.selects RX5 yX5_clear yX5_clear ∈ pw := pin_11 _ (List.mem_of_getElem? (i := 38) rfl)
theorem pw_479 : Cond.code yX9_init cX9_init 3 none ∈ pw := pin_11 _ (List.mem_of_getElem? (i := 39) rfl)
theorem pw_480 : Cond.instanceMethod yX9_init ∈ pw := pin_12 _ (List.mem_of_getElem? (i := 0) rfl)
theorem pw_481 : Cond.initialized RX9 ∈ pw := pin_12 _ (List.mem_of_getElem? (i := 1) rfl)
theorem pw_482 : Cond.code yX9_judgeNames cX9_judgeNames 2 none ∈ pw := pin_12 _ (List.mem_of_getElem? (i := 2) rfl)
theorem pw_483 : Cond.instanceMethod yX9_judgeNames ∈ pw := pin_12 _ (List.mem_of_getElem? (i := 3) rfl)
theorem pw_484 : Cond.selects RX9 yX9_judgeNames yX9_judgeNames ∈ pw := pin_12 _ (List.mem_of_getElem? (i := 4) rfl)
theorem pw_485 : Cond.code yX9_firstRound cX9_firstRound 3 none ∈ pw := pin_12 _ (List.mem_of_getElem? (i := 5) rfl)
theorem pw_486 : Cond.instanceMethod yX9_firstRound ∈ pw := pin_12 _ (List.mem_of_getElem? (i := 6) rfl)
theorem pw_487 : Cond.selects RX9 yX9_firstRound yX9_firstRound ∈ pw := pin_12 _ (List.mem_of_getElem? (i := 7) rfl)
theorem pw_488 : Cond.code yX9_settle cX9_settle 1 none ∈ pw := pin_12 _ (List.mem_of_getElem? (i := 8) rfl)
theorem pw_489 : Cond.instanceMethod yX9_settle ∈ pw := pin_12 _ (List.mem_of_getElem? (i := 9) rfl)
theorem pw_490 : Cond.selects RX9 yX9_settle yX9_settle ∈ pw := pin_12 _ (List.mem_of_getElem? (i := 10) rfl)
theorem pw_491 : Cond.code yX9_resolveTypes cX9_resolveTypes 4 none ∈ pw := pin_12 _ (List.mem_of_getElem? (i := 11) rfl)
theorem pw_492 : Cond.instanceMethod yX9_resolveTypes ∈ pw := pin_12 _ (List.mem_of_getElem? (i := 12) rfl)
theorem pw_493 : Cond.selects RX9 yX9_resolveTypes yX9_resolveTypes ∈ pw := pin_12 _ (List.mem_of_getElem? (i := 13) rfl)
theorem pw_494 : Cond.code yX9_link cX9_link 4 none ∈ pw := pin_12 _ (List.mem_of_getElem? (i := 14) rfl)
theorem pw_495 : Cond.instanceMethod yX9_link ∈ pw := pin_12 _ (List.mem_of_getElem? (i := 15) rfl)
theorem pw_496 : Cond.selects RX9 yX9_link yX9_link ∈ pw := pin_12 _ (List.mem_of_getElem? (i := 16) rfl)
theorem pw_497 : Cond.code yX9_isAbove cX9_isAbove 3 (some .boolean) ∈ pw := pin_12 _ (List.mem_of_getElem? (i := 17) rfl)
theorem pw_498 : Cond.instanceMethod yX9_isAbove ∈ pw := pin_12 _ (List.mem_of_getElem? (i := 18) rfl)
theorem pw_499 : Cond.selects RX9 yX9_isAbove yX9_isAbove ∈ pw := pin_12 _ (List.mem_of_getElem? (i := 19) rfl)
theorem pw_500 : Cond.code yX9_thirdRound cX9_thirdRound 4 none ∈ pw := pin_12 _ (List.mem_of_getElem? (i := 20) rfl)
theorem pw_501 : Cond.instanceMethod yX9_thirdRound ∈ pw := pin_12 _ (List.mem_of_getElem? (i := 21) rfl)
theorem pw_502 : Cond.selects RX9 yX9_thirdRound yX9_thirdRound ∈ pw := pin_12 _ (List.mem_of_getElem? (i := 22) rfl)
theorem pw_503 : Cond.code yX9_find cX9_find 3 (some .int) ∈ pw := pin_12 _ (List.mem_of_getElem? (i := 23) rfl)
theorem pw_504 : Cond.instanceMethod yX9_find ∈ pw := pin_12 _ (List.mem_of_getElem? (i := 24) rfl)
theorem pw_505 : Cond.selects RX9 yX9_find yX9_find ∈ pw := pin_12 _ (List.mem_of_getElem? (i := 25) rfl)
theorem pw_506 : Cond.code yX9_decl cX9_decl 2 (some (.object "JinjaTongue$Decl")) ∈ pw := pin_12 _ (List.mem_of_getElem? (i := 26) rfl)
theorem pw_507 : Cond.instanceMethod yX9_decl ∈ pw := pin_12 _ (List.mem_of_getElem? (i := 27) rfl)
theorem pw_508 : Cond.selects RX9 yX9_decl yX9_decl ∈ pw := pin_12 _ (List.mem_of_getElem? (i := 28) rfl)
theorem pw_509 : Cond.code yX9_report cX9_report 3 none ∈ pw := pin_12 _ (List.mem_of_getElem? (i := 29) rfl)
theorem pw_510 : Cond.instanceMethod yX9_report ∈ pw := pin_12 _ (List.mem_of_getElem? (i := 30) rfl)
theorem pw_511 : Cond.selects RX9 yX9_report yX9_report ∈ pw := pin_12 _ (List.mem_of_getElem? (i := 31) rfl)
theorem pw_512 : Cond.code yX2_init cX2_init 5 none ∈ pw := pin_12 _ (List.mem_of_getElem? (i := 32) rfl)
theorem pw_513 : Cond.instanceMethod yX2_init ∈ pw := pin_12 _ (List.mem_of_getElem? (i := 33) rfl)
theorem pw_514 : Cond.initialized RX2 ∈ pw := pin_12 _ (List.mem_of_getElem? (i := 34) rfl)
theorem pw_515 : Cond.code yX12_init cX12_init 1 none ∈ pw := pin_12 _ (List.mem_of_getElem? (i := 35) rfl)
theorem pw_516 : Cond.instanceMethod yX12_init ∈ pw := pin_12 _ (List.mem_of_getElem? (i := 36) rfl)
theorem pw_517 : Cond.initialized RX12 ∈ pw := pin_12 _ (List.mem_of_getElem? (i := 37) rfl)
theorem pw_518 : Cond.code yX12_thrown cX12_thrown 1 (some .int) ∈ pw := pin_12 _ (List.mem_of_getElem? (i := 38) rfl)
theorem pw_519 : Cond.instanceMethod yX12_thrown ∈ pw := pin_12 _ (List.mem_of_getElem? (i := 39) rfl)
theorem pw_520 : Cond.selects RX12 yX12_thrown yX12_thrown ∈ pw := pin_13 _ (List.mem_of_getElem? (i := 0) rfl)
theorem pw_521 : Cond.code yX12_in cX12_in 3 (some .boolean) ∈ pw := pin_13 _ (List.mem_of_getElem? (i := 1) rfl)
theorem pw_522 : Cond.static yX12_in ∈ pw := pin_13 _ (List.mem_of_getElem? (i := 2) rfl)
theorem pw_523 : Cond.code yX12_feed cX12_feed 8 (some .int) ∈ pw := pin_13 _ (List.mem_of_getElem? (i := 3) rfl)
theorem pw_524 : Cond.instanceMethod yX12_feed ∈ pw := pin_13 _ (List.mem_of_getElem? (i := 4) rfl)
theorem pw_525 : Cond.selects RX12 yX12_feed yX12_feed ∈ pw := pin_13 _ (List.mem_of_getElem? (i := 5) rfl)
theorem pw_526 : Cond.code yX12_back cX12_back 2 (some .int) ∈ pw := pin_13 _ (List.mem_of_getElem? (i := 6) rfl)
theorem pw_527 : Cond.instanceMethod yX12_back ∈ pw := pin_13 _ (List.mem_of_getElem? (i := 7) rfl)
theorem pw_528 : Cond.selects RX12 yX12_back yX12_back ∈ pw := pin_13 _ (List.mem_of_getElem? (i := 8) rfl)
theorem pw_529 : Cond.code yX12_ch cX12_ch 2 (some .int) ∈ pw := pin_13 _ (List.mem_of_getElem? (i := 9) rfl)
theorem pw_530 : Cond.instanceMethod yX12_ch ∈ pw := pin_13 _ (List.mem_of_getElem? (i := 10) rfl)
theorem pw_531 : Cond.selects RX12 yX12_ch yX12_ch ∈ pw := pin_13 _ (List.mem_of_getElem? (i := 11) rfl)
theorem pw_532 : Cond.code yX12_built cX12_built 3 none ∈ pw := pin_13 _ (List.mem_of_getElem? (i := 12) rfl)
theorem pw_533 : Cond.instanceMethod yX12_built ∈ pw := pin_13 _ (List.mem_of_getElem? (i := 13) rfl)
theorem pw_534 : Cond.selects RX12 yX12_built yX12_built ∈ pw := pin_13 _ (List.mem_of_getElem? (i := 14) rfl)
theorem pw_535 : Cond.code yX12_cut cX12_cut 9 none ∈ pw := pin_13 _ (List.mem_of_getElem? (i := 15) rfl)
theorem pw_536 : Cond.instanceMethod yX12_cut ∈ pw := pin_13 _ (List.mem_of_getElem? (i := 16) rfl)
theorem pw_537 : Cond.selects RX12 yX12_cut yX12_cut ∈ pw := pin_13 _ (List.mem_of_getElem? (i := 17) rfl)
theorem pw_538 : Cond.code yX12_kind cX12_kind 1 (some .int) ∈ pw := pin_13 _ (List.mem_of_getElem? (i := 18) rfl)
theorem pw_539 : Cond.instanceMethod yX12_kind ∈ pw := pin_13 _ (List.mem_of_getElem? (i := 19) rfl)
theorem pw_540 : Cond.selects RX12 yX12_kind yX12_kind ∈ pw := pin_13 _ (List.mem_of_getElem? (i := 20) rfl)
theorem pw_541 : Cond.code yX12_note cX12_note 4 none ∈ pw := pin_13 _ (List.mem_of_getElem? (i := 21) rfl)
theorem pw_542 : Cond.instanceMethod yX12_note ∈ pw := pin_13 _ (List.mem_of_getElem? (i := 22) rfl)
theorem pw_543 : Cond.selects RX12 yX12_note yX12_note ∈ pw := pin_13 _ (List.mem_of_getElem? (i := 23) rfl)
theorem pw_544 : Cond.code yX12_ends cX12_ends 1 (some .boolean) ∈ pw := pin_13 _ (List.mem_of_getElem? (i := 24) rfl)
theorem pw_545 : Cond.instanceMethod yX12_ends ∈ pw := pin_13 _ (List.mem_of_getElem? (i := 25) rfl)
theorem pw_546 : Cond.selects RX12 yX12_ends yX12_ends ∈ pw := pin_13 _ (List.mem_of_getElem? (i := 26) rfl)
theorem pw_547 : Cond.code yX12_declOf cX12_declOf 3 (some .int) ∈ pw := pin_13 _ (List.mem_of_getElem? (i := 27) rfl)
theorem pw_548 : Cond.instanceMethod yX12_declOf ∈ pw := pin_13 _ (List.mem_of_getElem? (i := 28) rfl)
theorem pw_549 : Cond.selects RX12 yX12_declOf yX12_declOf ∈ pw := pin_13 _ (List.mem_of_getElem? (i := 29) rfl)
theorem pw_550 : Cond.code yX12_findAbove cX12_findAbove 4 none ∈ pw := pin_13 _ (List.mem_of_getElem? (i := 30) rfl)
theorem pw_551 : Cond.instanceMethod yX12_findAbove ∈ pw := pin_13 _ (List.mem_of_getElem? (i := 31) rfl)
theorem pw_552 : Cond.selects RX12 yX12_findAbove yX12_findAbove ∈ pw := pin_13 _ (List.mem_of_getElem? (i := 32) rfl)
theorem pw_553 : Cond.code yX12_firstRound cX12_firstRound 4 none ∈ pw := pin_13 _ (List.mem_of_getElem? (i := 33) rfl)
theorem pw_554 : Cond.instanceMethod yX12_firstRound ∈ pw := pin_13 _ (List.mem_of_getElem? (i := 34) rfl)
theorem pw_555 : Cond.selects RX12 yX12_firstRound yX12_firstRound ∈ pw := pin_13 _ (List.mem_of_getElem? (i := 35) rfl)
theorem pw_556 : Cond.code yX12_thirdRound cX12_thirdRound 5 none ∈ pw := pin_13 _ (List.mem_of_getElem? (i := 36) rfl)
theorem pw_557 : Cond.instanceMethod yX12_thirdRound ∈ pw := pin_13 _ (List.mem_of_getElem? (i := 37) rfl)
theorem pw_558 : Cond.selects RX12 yX12_thirdRound yX12_thirdRound ∈ pw := pin_13 _ (List.mem_of_getElem? (i := 38) rfl)
theorem pw_559 : Cond.code yX12_read cX12_read 3 (some .int) ∈ pw := pin_13 _ (List.mem_of_getElem? (i := 39) rfl)
theorem pw_560 : Cond.instanceMethod yX12_read ∈ pw := pin_14 _ (List.mem_of_getElem? (i := 0) rfl)
theorem pw_561 : Cond.selects RX12 yX12_read yX12_read ∈ pw := pin_14 _ (List.mem_of_getElem? (i := 1) rfl)
theorem pw_562 : Cond.code yX12_type cX12_type 7 (some .int) ∈ pw := pin_14 _ (List.mem_of_getElem? (i := 2) rfl)
theorem pw_563 : Cond.instanceMethod yX12_type ∈ pw := pin_14 _ (List.mem_of_getElem? (i := 3) rfl)
theorem pw_564 : Cond.selects RX12 yX12_type yX12_type ∈ pw := pin_14 _ (List.mem_of_getElem? (i := 4) rfl)
theorem pw_565 : Cond.code yX12_above cX12_above 3 (some .int) ∈ pw := pin_14 _ (List.mem_of_getElem? (i := 5) rfl)
theorem pw_566 : Cond.instanceMethod yX12_above ∈ pw := pin_14 _ (List.mem_of_getElem? (i := 6) rfl)
theorem pw_567 : Cond.selects RX12 yX12_above yX12_above ∈ pw := pin_14 _ (List.mem_of_getElem? (i := 7) rfl)
theorem pw_568 : Cond.code yX12_letter cX12_letter 3 (some .int) ∈ pw := pin_14 _ (List.mem_of_getElem? (i := 8) rfl)
theorem pw_569 : Cond.instanceMethod yX12_letter ∈ pw := pin_14 _ (List.mem_of_getElem? (i := 9) rfl)
theorem pw_570 : Cond.selects RX12 yX12_letter yX12_letter ∈ pw := pin_14 _ (List.mem_of_getElem? (i := 10) rfl)
theorem pw_571 : Cond.code yX12_called cX12_called 5 (some .int) ∈ pw := pin_14 _ (List.mem_of_getElem? (i := 11) rfl)
theorem pw_572 : Cond.instanceMethod yX12_called ∈ pw := pin_14 _ (List.mem_of_getElem? (i := 12) rfl)
theorem pw_573 : Cond.selects RX12 yX12_called yX12_called ∈ pw := pin_14 _ (List.mem_of_getElem? (i := 13) rfl)
theorem pw_574 : Cond.code yX12_input cX12_input 2 (some .int) ∈ pw := pin_14 _ (List.mem_of_getElem? (i := 14) rfl)
theorem pw_575 : Cond.instanceMethod yX12_input ∈ pw := pin_14 _ (List.mem_of_getElem? (i := 15) rfl)
theorem pw_576 : Cond.selects RX12 yX12_input yX12_input ∈ pw := pin_14 _ (List.mem_of_getElem? (i := 16) rfl)
theorem pw_577 : Cond.code yX12_forget cX12_forget 1 none ∈ pw := pin_14 _ (List.mem_of_getElem? (i := 17) rfl)
theorem pw_578 : Cond.instanceMethod yX12_forget ∈ pw := pin_14 _ (List.mem_of_getElem? (i := 18) rfl)
theorem pw_579 : Cond.selects RX12 yX12_forget yX12_forget ∈ pw := pin_14 _ (List.mem_of_getElem? (i := 19) rfl)
theorem pw_580 : Cond.code yX12_run cX12_run 5 (some .int) ∈ pw := pin_14 _ (List.mem_of_getElem? (i := 20) rfl)
theorem pw_581 : Cond.instanceMethod yX12_run ∈ pw := pin_14 _ (List.mem_of_getElem? (i := 21) rfl)
theorem pw_582 : Cond.selects RX12 yX12_run yX12_run ∈ pw := pin_14 _ (List.mem_of_getElem? (i := 22) rfl)
theorem pw_583 : Cond.code yX12_result cX12_result 1 (some .int) ∈ pw := pin_14 _ (List.mem_of_getElem? (i := 23) rfl)
theorem pw_584 : Cond.instanceMethod yX12_result ∈ pw := pin_14 _ (List.mem_of_getElem? (i := 24) rfl)
theorem pw_585 : Cond.selects RX12 yX12_result yX12_result ∈ pw := pin_14 _ (List.mem_of_getElem? (i := 25) rfl)
theorem pw_586 : Cond.code yX12_output cX12_output 2 (some .int) ∈ pw := pin_14 _ (List.mem_of_getElem? (i := 26) rfl)
theorem pw_587 : Cond.instanceMethod yX12_output ∈ pw := pin_14 _ (List.mem_of_getElem? (i := 27) rfl)
theorem pw_588 : Cond.selects RX12 yX12_output yX12_output ∈ pw := pin_14 _ (List.mem_of_getElem? (i := 28) rfl)
theorem pw_589 : Cond.code yX12_thrown_ cX12_thrown_ 6 (some .int) ∈ pw := pin_14 _ (List.mem_of_getElem? (i := 29) rfl)
theorem pw_590 : Cond.instanceMethod yX12_thrown_ ∈ pw := pin_14 _ (List.mem_of_getElem? (i := 30) rfl)
theorem pw_591 : Cond.selects RX12 yX12_thrown_ yX12_thrown_ ∈ pw := pin_14 _ (List.mem_of_getElem? (i := 31) rfl)
theorem pw_592 : Cond.code yX12_count cX12_count 2 (some .int) ∈ pw := pin_14 _ (List.mem_of_getElem? (i := 32) rfl)
theorem pw_593 : Cond.instanceMethod yX12_count ∈ pw := pin_14 _ (List.mem_of_getElem? (i := 33) rfl)
theorem pw_594 : Cond.selects RX12 yX12_count yX12_count ∈ pw := pin_14 _ (List.mem_of_getElem? (i := 34) rfl)
theorem pw_595 : Cond.code yX12_refusals cX12_refusals 1 (some .int) ∈ pw := pin_14 _ (List.mem_of_getElem? (i := 35) rfl)
theorem pw_596 : Cond.instanceMethod yX12_refusals ∈ pw := pin_14 _ (List.mem_of_getElem? (i := 36) rfl)
theorem pw_597 : Cond.selects RX12 yX12_refusals yX12_refusals ∈ pw := pin_14 _ (List.mem_of_getElem? (i := 37) rfl)
theorem pw_598 : Cond.code yJ0_length_8abf5 cJ0_length_8abf5 1 (some .int) ∈ pw := pin_14 _ (List.mem_of_getElem? (i := 38) rfl)
theorem pw_599 : Cond.instanceMethod yJ0_length_8abf5 ∈ pw := pin_14 _ (List.mem_of_getElem? (i := 39) rfl)
theorem pw_600 : Cond.selects RJ0 yJ0_length_8abf5 yJ0_length_8abf5 ∈ pw := pin_15 _ (List.mem_of_getElem? (i := 0) rfl)
theorem pw_601 : Cond.initialized RJ0 ∈ pw := pin_15 _ (List.mem_of_getElem? (i := 1) rfl)
theorem pw_602 : Cond.code yJ0_coder_7d493 cJ0_coder_7d493 1 (some .byte) ∈ pw := pin_15 _ (List.mem_of_getElem? (i := 2) rfl)
theorem pw_603 : Cond.instanceMethod yJ0_coder_7d493 ∈ pw := pin_15 _ (List.mem_of_getElem? (i := 3) rfl)
theorem pw_604 : Cond.selects RJ0 yJ0_coder_7d493 yJ0_coder_7d493 ∈ pw := pin_15 _ (List.mem_of_getElem? (i := 4) rfl)
theorem pw_605 : Cond.code yJ0_charAt_5068e cJ0_charAt_5068e 2 (some .char) ∈ pw := pin_15 _ (List.mem_of_getElem? (i := 5) rfl)
theorem pw_606 : Cond.instanceMethod yJ0_charAt_5068e ∈ pw := pin_15 _ (List.mem_of_getElem? (i := 6) rfl)
theorem pw_607 : Cond.selects RJ0 yJ0_charAt_5068e yJ0_charAt_5068e ∈ pw := pin_15 _ (List.mem_of_getElem? (i := 7) rfl)
theorem pw_608 : Cond.code yJ0_isLatin1_aae02 cJ0_isLatin1_aae02 1 (some .boolean) ∈ pw := pin_15 _ (List.mem_of_getElem? (i := 8) rfl)
theorem pw_609 : Cond.instanceMethod yJ0_isLatin1_aae02 ∈ pw := pin_15 _ (List.mem_of_getElem? (i := 9) rfl)
theorem pw_610 : Cond.selects RJ0 yJ0_isLatin1_aae02 yJ0_isLatin1_aae02 ∈ pw := pin_15 _ (List.mem_of_getElem? (i := 10) rfl)
theorem pw_611 : Cond.code yJ0_checkIndex_df160 cJ0_checkIndex_df160 2 none ∈ pw := pin_15 _ (List.mem_of_getElem? (i := 11) rfl)
theorem pw_612 : Cond.static yJ0_checkIndex_df160 ∈ pw := pin_15 _ (List.mem_of_getElem? (i := 12) rfl)
theorem pw_613 : Cond.code yJ1_charAt_3b067 cJ1_charAt_3b067 2 (some .char) ∈ pw := pin_15 _ (List.mem_of_getElem? (i := 13) rfl)
theorem pw_614 : Cond.static yJ1_charAt_3b067 ∈ pw := pin_15 _ (List.mem_of_getElem? (i := 14) rfl)
theorem pw_615 : Cond.initialized RJ1 ∈ pw := pin_15 _ (List.mem_of_getElem? (i := 15) rfl)
theorem pw_616 : Cond.code yJ3_checkIndex_8e157 cJ3_checkIndex_8e157 3 (some .int) ∈ pw := pin_15 _ (List.mem_of_getElem? (i := 16) rfl)
theorem pw_617 : Cond.static yJ3_checkIndex_8e157 ∈ pw := pin_15 _ (List.mem_of_getElem? (i := 17) rfl)
theorem pw_618 : Cond.initialized RJ3 ∈ pw := pin_15 _ (List.mem_of_getElem? (i := 18) rfl)
theorem pw_619 : Cond.code yJx4a65c_init_da8c8 cJx4a65c_init_da8c8 1 none ∈ pw := pin_15 _ (List.mem_of_getElem? (i := 19) rfl)
theorem pw_620 : Cond.instanceMethod yJx4a65c_init_da8c8 ∈ pw := pin_15 _ (List.mem_of_getElem? (i := 20) rfl)
theorem pw_621 : Cond.initialized RJx4a65c ∈ pw := pin_15 _ (List.mem_of_getElem? (i := 21) rfl)
theorem pw_622 : Cond.code yJxc12de_init_da8c8 cJxc12de_init_da8c8 1 none ∈ pw := pin_15 _ (List.mem_of_getElem? (i := 22) rfl)
theorem pw_623 : Cond.instanceMethod yJxc12de_init_da8c8 ∈ pw := pin_15 _ (List.mem_of_getElem? (i := 23) rfl)
theorem pw_624 : Cond.initialized RJxc12de ∈ pw := pin_15 _ (List.mem_of_getElem? (i := 24) rfl)
theorem pw_625 : Cond.code yJxa1e45_init_da8c8 cJxa1e45_init_da8c8 1 none ∈ pw := pin_15 _ (List.mem_of_getElem? (i := 25) rfl)
theorem pw_626 : Cond.instanceMethod yJxa1e45_init_da8c8 ∈ pw := pin_15 _ (List.mem_of_getElem? (i := 26) rfl)
theorem pw_627 : Cond.initialized RJxa1e45 ∈ pw := pin_15 _ (List.mem_of_getElem? (i := 27) rfl)
theorem pw_628 : Cond.code yJ7_fill_53178 cJ7_fill_53178 4 none ∈ pw := pin_15 _ (List.mem_of_getElem? (i := 28) rfl)
theorem pw_629 : Cond.static yJ7_fill_53178 ∈ pw := pin_15 _ (List.mem_of_getElem? (i := 29) rfl)
theorem pw_630 : Cond.initialized RJ7 ∈ pw := pin_15 _ (List.mem_of_getElem? (i := 30) rfl)
theorem pw_631 : Cond.codeWith yL_run cL_run 5 (some .int) [(0, 10, 13, 13), (0, 10, 17, 15)] ∈ pw := pin_15 _ (List.mem_of_getElem? (i := 31) rfl)
theorem pw_632 : Cond.static yL_run ∈ pw := pin_15 _ (List.mem_of_getElem? (i := 32) rfl)
theorem pw_633 : Cond.initialized RL ∈ pw := pin_15 _ (List.mem_of_getElem? (i := 33) rfl)
theorem pw_634 : Cond.instanceMethod objectInit ∈ pw := pin_15 _ (List.mem_of_getElem? (i := 34) rfl)
theorem pw_635 : Cond.code objectInit ⟨#[0xb1]⟩ 1 none ∈ pw := pin_15 _ (List.mem_of_getElem? (i := 35) rfl)
theorem pw_636 : Cond.arrayClass .int ∈ pw := pin_15 _ (List.mem_of_getElem? (i := 36) rfl)
theorem pw_637 : Cond.initialized RJ15 ∈ pw := pin_15 _ (List.mem_of_getElem? (i := 37) rfl)
theorem pw_638 : Cond.initialized "java/lang/IllegalStateException" ∈ pw := pin_15 _ (List.mem_of_getElem? (i := 38) rfl)
theorem pw_639 : Cond.static Lib.Math.max.name ∈ pw := pin_15 _ (List.mem_of_getElem? (i := 39) rfl)
theorem pw_640 : Cond.initialized "java/lang/Math" ∈ pw := pin_16 _ (List.mem_of_getElem? (i := 0) rfl)
theorem pw_641 : Cond.code Lib.Math.max.name Lib.Math.max.code 2 (some .int) ∈ pw := pin_16 _ (List.mem_of_getElem? (i := 1) rfl)
theorem pw_642 : Cond.instantiable RX4 6 ∈ pw := pin_16 _ (List.mem_of_getElem? (i := 2) rfl)
theorem pw_643 : Cond.initialized RX4 ∈ pw := pin_16 _ (List.mem_of_getElem? (i := 3) rfl)
theorem pw_644 : Cond.instantiable RJx4a65c 3 ∈ pw := pin_16 _ (List.mem_of_getElem? (i := 4) rfl)
theorem pw_645 : Cond.arrayClass .long ∈ pw := pin_16 _ (List.mem_of_getElem? (i := 5) rfl)
theorem pw_646 : Cond.static Lib.Math.min.name ∈ pw := pin_16 _ (List.mem_of_getElem? (i := 6) rfl)
theorem pw_647 : Cond.code Lib.Math.min.name Lib.Math.min.code 2 (some .int) ∈ pw := pin_16 _ (List.mem_of_getElem? (i := 7) rfl)
theorem pw_648 : Cond.initialized RJ4 ∈ pw := pin_16 _ (List.mem_of_getElem? (i := 8) rfl)
theorem pw_649 : Cond.native arraycopyName ∈ pw := pin_16 _ (List.mem_of_getElem? (i := 9) rfl)
theorem pw_650 : Cond.static arraycopyName ∈ pw := pin_16 _ (List.mem_of_getElem? (i := 10) rfl)
theorem pw_651 : Cond.initialized "java/lang/System" ∈ pw := pin_16 _ (List.mem_of_getElem? (i := 11) rfl)
theorem pw_652 : Cond.instantiable RX3 5 ∈ pw := pin_16 _ (List.mem_of_getElem? (i := 12) rfl)
theorem pw_653 : Cond.instantiable RX2 13 ∈ pw := pin_16 _ (List.mem_of_getElem? (i := 13) rfl)
theorem pw_654 : Cond.initialized RJ8 ∈ pw := pin_16 _ (List.mem_of_getElem? (i := 14) rfl)
theorem pw_655 : Cond.sameField "java/util/ArrayList" "java/util/AbstractList" "modCount" "I" ∈ pw := pin_16 _ (List.mem_of_getElem? (i := 15) rfl)
theorem pw_656 : Cond.instantiable RX7 11 ∈ pw := pin_16 _ (List.mem_of_getElem? (i := 16) rfl)
theorem pw_657 : Cond.initialized RX7 ∈ pw := pin_16 _ (List.mem_of_getElem? (i := 17) rfl)
theorem pw_658 : Cond.instantiable RX6 12 ∈ pw := pin_16 _ (List.mem_of_getElem? (i := 18) rfl)
theorem pw_659 : Cond.initialized RX6 ∈ pw := pin_16 _ (List.mem_of_getElem? (i := 19) rfl)
theorem pw_660 : Cond.initialized RJ2 ∈ pw := pin_16 _ (List.mem_of_getElem? (i := 20) rfl)
theorem pw_661 : Cond.arrayClass .byte ∈ pw := pin_16 _ (List.mem_of_getElem? (i := 21) rfl)
theorem pw_662 : Cond.instantiable RX10 15 ∈ pw := pin_16 _ (List.mem_of_getElem? (i := 22) rfl)
theorem pw_663 : Cond.instantiable RX1 13 ∈ pw := pin_16 _ (List.mem_of_getElem? (i := 23) rfl)
theorem pw_664 : Cond.instantiable RX8 5 ∈ pw := pin_16 _ (List.mem_of_getElem? (i := 24) rfl)
theorem pw_665 : Cond.instantiable RX0 13 ∈ pw := pin_16 _ (List.mem_of_getElem? (i := 25) rfl)
theorem pw_666 : Cond.instantiable RX5 19 ∈ pw := pin_16 _ (List.mem_of_getElem? (i := 26) rfl)
theorem pw_667 : Cond.instantiable RX9 5 ∈ pw := pin_16 _ (List.mem_of_getElem? (i := 27) rfl)
theorem pw_668 : Cond.initialized RJ13 ∈ pw := pin_16 _ (List.mem_of_getElem? (i := 28) rfl)
theorem pw_669 : Cond.initialized "java/lang/IllegalArgumentException" ∈ pw := pin_16 _ (List.mem_of_getElem? (i := 29) rfl)
theorem pw_670 : Cond.arrayClass .boolean ∈ pw := pin_16 _ (List.mem_of_getElem? (i := 30) rfl)
theorem pw_671 : Cond.initialized RJ11 ∈ pw := pin_16 _ (List.mem_of_getElem? (i := 31) rfl)
theorem pw_672 : Cond.initialized RJ5 ∈ pw := pin_16 _ (List.mem_of_getElem? (i := 32) rfl)
theorem pw_673 : Cond.initialized RJ6 ∈ pw := pin_16 _ (List.mem_of_getElem? (i := 33) rfl)
theorem pw_674 : Cond.instantiable RX11 8 ∈ pw := pin_16 _ (List.mem_of_getElem? (i := 34) rfl)
theorem pw_675 : Cond.instantiable RX12 134 ∈ pw := pin_16 _ (List.mem_of_getElem? (i := 35) rfl)
end
section
/-! what every contract here is made of: the worlds' classes, what is given of the start, a contract's form, the rows for calls -/
abbrev pCl : List vw_C := [(RX0, TX0, 13), (RX1, TX1, 13), (RX2, TX2, 13), (RX3, TX3, 5), (RX5, TX5, 19), (RX8, TX8, 5), (RX9, TX9, 5), (RX10, TX10, 15), (RX11, TX11, 8), (RX12, TX12, 134), (RJx4a65c, TJx4a65c, 3)]
/-- the classes' places and slots, the array classes, the constants' addresses, their rows', ArrayList's empty row -/
abbrev pT : Type := va_G × (Nat → ClassId) × (Nat → Nat) × (Nat → Nat) × Nat
abbrev pTy (cs : Nat → ClassId) : List (ClassId × FieldType) := [(cs 0, .int), (cs 1, .byte), (cs 2, .long), (cs 3, .boolean)]
def pK (G : pT) (U : State) : Prop := va_K G.1 pCl (pTy G.2.1) U ∧ U.vm.findClass ("[" ++ FieldType.toString .int) = some (G.2.1 0) ∧ U.vm.findClass ("[" ++ FieldType.toString .byte) = some (G.2.1 1) ∧ U.vm.findClass ("[" ++ FieldType.toString .long) = some (G.2.1 2) ∧ U.vm.findClass ("[" ++ FieldType.toString .boolean) = some (G.2.1 3)
theorem pK.moved {G : pT} {u U : State} (hvm : u.vm.Alike U.vm) (h : pK G u) : pK G U := by
  obtain ⟨h0, h1, h2, h3, h4⟩ := h
  exact ⟨va_K.moved hvm h0, by rw [hvm.findClass]; exact h1, by rw [hvm.findClass]; exact h2, by rw [hvm.findClass]; exact h3, by rw [hvm.findClass]; exact h4⟩
/-- the string constants whose contents count: owner, entry, text -/
def sOwn : List (String × Nat × String) := [(RX10, 11, "as boolean break catch class continue else extends false finally for if implements int interface is "), (RX10, 13, "length new null print read return super this throw true try void while "), (RX10, 15, "Object Null Cast Zero Index Store Size Main main "), (RX12, 292, "Object"), (RX12, 298, "Null"), (RX12, 300, "Cast"), (RX12, 302, "Zero"), (RX12, 304, "Index"), (RX12, 306, "Store"), (RX12, 308, "Size"), (RX12, 310, "Main"), (RX12, 312, "main")]
def sByt : List (List Int32) := sOwn.map (fun q => q.2.2.toList.map (fun ch => nI ch.toNat))
def sLen : List Nat := sByt.map List.length
/-- what is given of the start, as long as no cell of A is among it -/
def pE (G : pT) (A : Nat → Prop) (U : State) (H : Heap) : Prop := pK G U ∧ vk_S 12 sLen sByt G.2.2.1 G.2.2.2.1 A U H ∧ (∀ i : Nat, i < 12 → vk_R (sOwn.getD i ("", 0, "")).1 (sOwn.getD i ("", 0, "")).2.1 (sOwn.getD i ("", 0, "")).2.2 (G.2.2.1 i) U) ∧ va_Z "java/lang/String" "COMPACT_STRINGS" "Z" (.int 1) A U H ∧ va_Zq "jdk/internal/util/Preconditions" "SIOOBE_FORMATTER" "Ljava/util/function/BiFunction;" A U H ∧ va_Z "java/util/ArrayList" "DEFAULTCAPACITY_EMPTY_ELEMENTDATA" "[Ljava/lang/Object;" (.ref G.2.2.2.2) A U H
theorem pE.to {G : pT} {A B : Nat → Prop} {s U : State} {H : Heap} (h : pE G A s s.heap) (hW : s.WarmedH U.vm) (hk : ∀ a : Nat, a < s.heap.size → ¬ A a → H[a]? = s.heap[a]?) (hB : ∀ q, B q → A q) : pE G B U H := by
  obtain ⟨h0, h1, h2, h3, h4, h5⟩ := h
  exact ⟨h0.moved hW.alike, (vk_S.moved hW.alike (h1.kept hk)).narrow hB, fun i hi => (h2 i hi).warm hW, (va_Z.moved hW.alike (h3.kept hk)).narrow hB, (va_Zq.moved hW.alike (h4.kept hk)).narrow hB, (va_Z.moved hW.alike (h5.kept hk)).narrow hB⟩
theorem pE.same {G : pT} {A : Nat → Prop} {u U : State} {H : Heap} (h : pE G A u H) (hv : U.vm = u.vm) : pE G A U H := by
  have ha : u.vm.Alike U.vm := by rw [hv]; exact Vm.Alike.refl _
  obtain ⟨h0, h1, h2, h3, h4, h5⟩ := h
  exact ⟨h0.moved ha, vk_S.moved ha h1, fun i hi => (h2 i hi).same hv, va_Z.moved ha h3, va_Zq.moved ha h4, va_Z.moved ha h5⟩
/-- a condition on the tables alone -/
def pAl (X : State → Prop) : Prop := ∀ u U : State, u.vm.Alike U.vm → X u → X U
def pX0 : State → Prop := fun _ => True
theorem pX0_al : pAl pX0 := fun _ _ _ h => h
def pPc (G : pT) (X : State → Prop) (av : List Value) (w : va_W) (sz : Nat) : Array Value → State → Prop := va_Pc av (fun U => U.heap.size = sz ∧ va_P G.1 pCl w U.heap ∧ va_D (fun _ => True) w ∧ pE G (va_A w sz) U U.heap ∧ X U)
def pQ {S : Type} (G : pT) (A : Nat → Prop) (Q : Option Value → S → Prop) (w1 : S → va_W) : Array Value → State → Outcome → State → Prop := fun _ st oc t => (∃ (v : Option Value) (u : S), oc = .returned v ∧ Q v u ∧ va_P G.1 pCl (w1 u) t.heap ∧ va_D A (w1 u)) ∧ va_F A st t
/-- a method's contract: from the world w with the arguments av it returns v with 'Q v u', and leaves the world 'w1 u' -/
def PM (l : Launch) (G : pT) (X : State → Prop) (y : MethodName) (cc : ByteArray) (n : Nat) (ret : Option FieldType) (rm : Room) (av : List Value) (w : va_W) {S : Type} (Q : Option Value → S → Prop) (w1 : S → va_W) : Prop :=
  ∀ sz : Nat, Met l y (Cond.code y cc n ret :: pw) rm (pPc G X av w sz) (pQ G (va_A w sz) Q w1) rm.cells rm.slots (va_A w sz)
theorem pPc.blind {G : pT} {X : State → Prop} {av : List Value} {w : va_W} {sz : Nat} (hX : pAl X) : FrameBlind (pPc G X av w sz) := fun a U g mk q => by
  obtain ⟨q0, q1, qP, qD, qE, qX⟩ := q
  exact ⟨q0, q1, qP, qD, pE.same (u := U) (U := U.calling g mk a) qE rfl, hX U _ (Vm.Alike.refl U.vm) qX⟩
theorem pw_in {w : Cond} (h : w ∈ pw) : w ∈ pw ∧ ((w.onTables && w.keeps) = true ∨ ∃ ty, w = .arrayClass ty) := ⟨h, good_of_word (List.all_eq_true.mp pw_good w h)⟩
theorem gW {cw : Cond} (h : cw ∈ pw) : GoodIn pw (cw :: pw) := fun w hw => by
  rcases List.mem_cons.mp hw with e | e
  · rw [e]; exact pw_in h
  · exact pw_in e
theorem gV {own C : String} {idx : Nat} {y : MethodName} {cw : Cond} (h1 : Cond.methodLink own idx y ∈ pw) (h2 : Cond.instanceMethod y ∈ pw) (h3 : Cond.selects C y y ∈ pw) (h4 : Cond.initialized C ∈ pw) (h5 : cw ∈ pw) : GoodIn pw (wsV own idx C y (cw :: pw)) := fun w hw => by
  rcases List.mem_append.mp hw with e | e
  · simp only [List.mem_cons, List.not_mem_nil, or_false] at e
    rcases e with e | e | e | e <;> rw [e]
    · exact pw_in h1
    · exact pw_in h2
    · exact pw_in h3
    · exact pw_in h4
  · exact gW h5 w e
theorem gS {own : String} {idx : Nat} {y : MethodName} {cw : Cond} (h1 : Cond.methodLink own idx y ∈ pw) (h2 : Cond.static y ∈ pw) (h3 : Cond.initialized y.cls ∈ pw) (h5 : cw ∈ pw) : GoodIn pw (va_wsS own idx y (cw :: pw)) := fun w hw => by
  rcases List.mem_append.mp hw with e | e
  · simp only [List.mem_cons, List.not_mem_nil, or_false] at e
    rcases e with e | e | e <;> rw [e]
    · exact pw_in h1
    · exact pw_in h2
    · exact pw_in h3
  · exact gW h5 w e
section PB
variable {p : Program} {l : Launch} {e : Env} {R : Room} {s : State} {m : MethodId} {args : Array Value} {below : List Frame} {meth : Method} {c : Code} {H : Heap} {locs : List Loc} {cells slots : Nat} {Qg : State → Prop}
variable {cc bytes : ByteArray} {pc nL maxL mc ms idx n : Nat} {ls : Array Slot} {st0 rest As : List Value} {A0 : Nat → Prop} {ws wc wr : va_W} {G : pT} {X : State → Prop} {own C : String} {y : MethodName} {ret : Option FieldType} {rm : Room} {b : Nat}
/-- behind a call: the callee's world beside what the caller has else -/
theorem pc_go {S : Type} {Q : Option Value → S → Prop} {w1 : S → va_W} {av : Array Value} (hr : va_Run p l e R s m args below meth c H locs cells slots mc ms (F0 m pc ls st0) rest (pQ G (va_A wc H.size) Q w1 av) (va_A wc H.size))
    (hP : va_P G.1 pCl ws H) (hD : va_D A0 ws) (hS : va_S A0 s.heap H locs) (hA : ∀ q, s.heap.size ≤ q → A0 q) (isC isR : List Nat) (hC : isC.map (fun i => ws[i]?) = wc.map some) (hR : isR.map (fun i => ws[i]?) = wr.map some) (hn : va_nd isR = true) (hdis : ∀ i ∈ isR, i ∉ isC)
    (kk : ∀ (v : Option Value) (u : S) (H1 : Heap) (locs1 : List Loc), Q v u → va_P G.1 pCl (wr ++ w1 u) H1 → va_D A0 (wr ++ w1 u) → va_S A0 s.heap H1 locs1 → W p l e R s m args below meth c H1 locs1 (cells + mc) (slots + ms) Qg (F0 m (pc + 3) ls (v.toList ++ rest))) : W p l e R s m args below meth c H locs cells slots Qg (F0 m pc ls st0) := by
  have hF := va_free (wc := wc) hD hS hA isC hC
  intro T hT Y
  obtain ⟨v, st₀, t, T', L, h0, Y', hL, e1, e2, ⟨⟨v', u, hv, hq, hP1, hD1⟩, hz, hk⟩, st⟩ := hr T hT Y
  cases hv
  rw [h0] at hz hk
  have hk' : ∀ q : Nat, q < H.size → ¬ va_A wc H.size q → T'.heap[q]? = H[q]? := fun q h1 h2 => by rw [e1]; exact hk q h1 h2
  obtain ⟨hP2, hD2⟩ := va_join (w1 := w1 u) hP hD isC isR hC hR hn hdis hk' hF (by rw [e1]; exact hP1) hD1
  obtain ⟨t2, a1, b1⟩ := kk v u T'.heap (locs ++ L) hq hP2 hD2
    ⟨Nat.le_trans hS.1 (by rw [e1]; exact hz), fun q h1 h2 => by rw [hk' q (Nat.lt_of_lt_of_le h1 hS.1) (fun z => h2 (hF q z))]; exact hS.2.1 q h1 h2, fun q hq => by
      rcases List.mem_append.mp hq with h | h
      · exact hS.2.2 q h
      · exact hF _ (hL q h)⟩ T' rfl Y'
  exact ⟨t2, st t2 a1, b1⟩
theorem pc_pre (hE : pE G A0 s s.heap) (hX : X s) (hXm : pAl X) (hP : va_P G.1 pCl ws H) (hD : va_D A0 ws) (hS : va_S A0 s.heap H locs) (hA : ∀ q, s.heap.size ≤ q → A0 q) {isC : List Nat} (hC : isC.map (fun i => ws[i]?) = wc.map some) (hnC : va_nd isC = true) {av : List Value} : ∀ U : State, U.heap = H → s.WarmedH U.vm → pPc G X av wc H.size av.toArray U := fun U hU hW => by
  have hF := va_free (wc := wc) hD hS hA isC hC
  refine ⟨rfl, by rw [hU], ?_, (hD.sub isC hnC hC).weaken (fun _ _ _ _ => trivial), ?_, hXm s U hW.alike hX⟩
  · rw [hU]
    intro k q hq
    have h1 : (isC.map (fun i => ws[i]?))[k]? = some (some q) := by rw [hC, List.getElem?_map, hq]; rfl
    rw [List.getElem?_map] at h1
    cases hi : isC[k]? with
    | none => rw [hi] at h1; cases h1
    | some i => rw [hi] at h1; exact hP i q (Option.some.inj h1)
  · rw [hU]
    exact hE.to hW hS.2.1 hF
/-- invokevirtual -/
theorem pc_V {S : Type} {Q : Option Value → S → Prop} {w1 : S → va_W} (hx : p.tables.exec = Jvm.exec) (hb : c.code = cc) (hml : c.maxLocals = nL) (hown : s.vm.findClass own = some m.cls) (hq : ∀ w ∈ pw, w.before args s = true) (hE : pE G A0 s s.heap) (hX : X s) (hXm : pAl X)
    (hP : va_P G.1 pCl ws H) (hD : va_D A0 ws) (hS : va_S A0 s.heap H locs) (hA : ∀ q, s.heap.size ≤ q → A0 q) (hl : ls.size = nL)
    (hM : PM l G X y bytes maxL ret rm (.ref b :: As) wc Q w1) (g : GoodIn pw (wsV own idx C y (Cond.code y bytes maxL ret :: pw)))
    (hd : y.cls = C ∧ y.cls ≠ "java/lang/invoke/MethodHandle" ∧ y.cls ≠ "java/lang/invoke/VarHandle" ∧ (parseMethodDescriptor y.desc).map (fun d => d.parameters.length) = some As.length)
    (qr ci : Nat) {fs : List Value} {r : vw_C} (hr1 : ws[qr]? = some (b, .inr (ci, fs))) (hr2 : pCl[ci]? = some r) (hr3 : r.1 = C)
    (isC isR : List Nat) (hC : isC.map (fun i => ws[i]?) = wc.map some) (hR : isR.map (fun i => ws[i]?) = wr.map some) (hnC : va_nd isC = true) (hn : va_nd isR = true) (hdis : ∀ i ∈ isR, i ∉ isC)
    (hst : st0 = As.reverse ++ .ref b :: rest) (hW : (rest.map fun v => v.category).sum ≤ 8) (hdg : decode cc pc = .ok (.invokevirtual idx, 3)) (hf : cells + rm.cells ≤ R.cells ∧ slots + rm.slots ≤ R.slots) (hRm : rm.frames + 1 ≤ R.frames ∧ 8 + (maxL + 11) + rm.locals ≤ R.locals)
    (kk : ∀ (v : Option Value) (u : S) (H1 : Heap) (locs1 : List Loc), Q v u → va_P G.1 pCl (wr ++ w1 u) H1 → va_D A0 (wr ++ w1 u) → va_S A0 s.heap H1 locs1 → W p l e R s m args below meth c H1 locs1 (cells + rm.cells) (slots + rm.slots) Qg (F0 m (pc + 3) ls (v.toList ++ rest))) : W p l e R s m args below meth c H locs cells slots Qg (F0 m pc ls st0) := by
  subst hst
  obtain ⟨cell, g1, g2, g3⟩ := va_recv hE.1.1 hP hr2 hr1
  rw [hr3] at g3
  exact pc_go (va_runV (As := As) (rest := rest) ⟨hx, hb, hml, hown, hq⟩ (hM H.size) (cwV As.length hq g rfl rfl rfl hd hRm) ⟨pPc.blind hXm, ⟨cell, g1, g2, g3⟩, pc_pre (av := .ref b :: As) hE hX hXm hP hD hS hA hC hnC⟩ rfl rfl hl rfl (lv_room hW) hdg hf) hP hD hS hA isC isR hC hR hn hdis kk
/-- invokespecial of a constructor -/
theorem pc_I {S : Type} {Q : Option Value → S → Prop} {w1 : S → va_W} (hx : p.tables.exec = Jvm.exec) (hb : c.code = cc) (hml : c.maxLocals = nL) (hown : s.vm.findClass own = some m.cls) (hq : ∀ w ∈ pw, w.before args s = true) (hE : pE G A0 s s.heap) (hX : X s) (hXm : pAl X)
    (hP : va_P G.1 pCl ws H) (hD : va_D A0 ws) (hS : va_S A0 s.heap H locs) (hA : ∀ q, s.heap.size ≤ q → A0 q) (hl : ls.size = nL)
    (hM : PM l G X y bytes maxL none rm (.ref b :: As) wc Q w1) (h1 : Cond.methodLink own idx y ∈ pw) (h2 : Cond.instanceMethod y ∈ pw) (h3 : Cond.initialized y.cls ∈ pw) (h4 : Cond.code y bytes maxL none ∈ pw)
    (hy : y.name = "<init>") (hd : y.cls ≠ "java/lang/invoke/MethodHandle" ∧ y.cls ≠ "java/lang/invoke/VarHandle" ∧ (parseMethodDescriptor y.desc).map (fun d => d.parameters.length) = some As.length)
    (isC isR : List Nat) (hC : isC.map (fun i => ws[i]?) = wc.map some) (hR : isR.map (fun i => ws[i]?) = wr.map some) (hnC : va_nd isC = true) (hn : va_nd isR = true) (hdis : ∀ i ∈ isR, i ∉ isC)
    (hst : st0 = As.reverse ++ .ref b :: rest) (hW : (rest.map fun v => v.category).sum ≤ 8) (hdg : decode cc pc = .ok (.invokespecial idx, 3)) (hf : cells + rm.cells ≤ R.cells ∧ slots + rm.slots ≤ R.slots) (hRm : rm.frames + 1 ≤ R.frames ∧ 8 + (maxL + 11) + rm.locals ≤ R.locals)
    (kk : ∀ (v : Option Value) (u : S) (H1 : Heap) (locs1 : List Loc), Q v u → va_P G.1 pCl (wr ++ w1 u) H1 → va_D A0 (wr ++ w1 u) → va_S A0 s.heap H1 locs1 → W p l e R s m args below meth c H1 locs1 (cells + rm.cells) (slots + rm.slots) Qg (F0 m (pc + 3) ls (v.toList ++ rest))) : W p l e R s m args below meth c H locs cells slots Qg (F0 m pc ls st0) := by
  subst hst
  exact pc_go (va_runI (As := As) (rest := rest) ⟨hx, hb, hml, hown, hq⟩ (hM H.size) (cwI As.length hq (gW h4) rfl rfl rfl (hq _ h3) (hq _ h1) (hq _ h2) hy hd hRm) ⟨pPc.blind hXm, pc_pre (av := .ref b :: As) hE hX hXm hP hD hS hA hC hnC⟩ rfl rfl hl rfl (lv_room hW) hdg hf) hP hD hS hA isC isR hC hR hn hdis kk
/-- invokestatic -/
theorem pc_S {S : Type} {Q : Option Value → S → Prop} {w1 : S → va_W} (hx : p.tables.exec = Jvm.exec) (hb : c.code = cc) (hml : c.maxLocals = nL) (hown : s.vm.findClass own = some m.cls) (hq : ∀ w ∈ pw, w.before args s = true) (hE : pE G A0 s s.heap) (hX : X s) (hXm : pAl X)
    (hP : va_P G.1 pCl ws H) (hD : va_D A0 ws) (hS : va_S A0 s.heap H locs) (hA : ∀ q, s.heap.size ≤ q → A0 q) (hl : ls.size = nL)
    (hM : PM l G X y bytes maxL ret rm As wc Q w1) (g : GoodIn pw (va_wsS own idx y (Cond.code y bytes maxL ret :: pw)))
    (hd : y.cls ≠ "java/lang/invoke/MethodHandle" ∧ y.cls ≠ "java/lang/invoke/VarHandle" ∧ (parseMethodDescriptor y.desc).map (fun d => d.parameters.length) = some As.length)
    (isC isR : List Nat) (hC : isC.map (fun i => ws[i]?) = wc.map some) (hR : isR.map (fun i => ws[i]?) = wr.map some) (hnC : va_nd isC = true) (hn : va_nd isR = true) (hdis : ∀ i ∈ isR, i ∉ isC)
    (hst : st0 = As.reverse ++ rest) (hW : (rest.map fun v => v.category).sum ≤ 8) (hdg : decode cc pc = .ok (.invokestatic idx, 3)) (hf : cells + rm.cells ≤ R.cells ∧ slots + rm.slots ≤ R.slots) (hRm : rm.frames + 1 ≤ R.frames ∧ 8 + (maxL + 11) + rm.locals ≤ R.locals)
    (kk : ∀ (v : Option Value) (u : S) (H1 : Heap) (locs1 : List Loc), Q v u → va_P G.1 pCl (wr ++ w1 u) H1 → va_D A0 (wr ++ w1 u) → va_S A0 s.heap H1 locs1 → W p l e R s m args below meth c H1 locs1 (cells + rm.cells) (slots + rm.slots) Qg (F0 m (pc + 3) ls (v.toList ++ rest))) : W p l e R s m args below meth c H locs cells slots Qg (F0 m pc ls st0) := by
  subst hst
  exact pc_go (va_runS (As := As) (rest := rest) ⟨hx, hb, hml, hown, hq⟩ (hM H.size) (va_cwS As.length hq g rfl rfl rfl hd hRm) ⟨pPc.blind hXm, pc_pre (av := As) hE hX hXm hP hD hS hA hC hnC⟩ rfl rfl hl rfl (lv_room hW) hdg hf) hP hD hS hA isC isR hC hR hn hdis kk
/-- newarray, of a class that is known -/
theorem pn_newa (hx : p.tables.exec = Jvm.exec) (hb : c.code = cc) {atype : ArrayType} (harr : (Cond.arrayClass (newarray.typeOf atype)).before args s = true) {ty : FieldType} (hty : newarray.typeOf atype = ty) {cA0 : ClassId} (hf : s.vm.findClass ("[" ++ FieldType.toString ty) = some cA0) (hP : va_P G.1 pCl ws H) (hD : va_D A0 ws) (hS : va_S A0 s.heap H locs) (hA : ∀ q, s.heap.size ≤ q → A0 q)
    {k : Int32} {N' : Nat} {a0 : vp_A} (ha : ∀ cA : ClassId, vp_cell cA a0 = arrV cA N' (fun _ => defaultValue ty)) (hn : ¬ k < 0) (hN : k.toNatClampNeg = N') (hbytes : N' * componentBytes ty ≤ 536870912) (hcells : cells + 1 ≤ R.cells) (hslots : slots + N' ≤ R.slots) (hdg : decode cc pc = .ok (.newarray atype, 2))
    (kk : ∀ (q : Nat) (H1 : Heap), va_P G.1 pCl (ws ++ [(q, .inl (cA0, a0))]) H1 → va_D A0 (ws ++ [(q, .inl (cA0, a0))]) → va_S A0 s.heap H1 locs →
      W p l e R s m args below meth c H1 locs (cells + 1) (slots + N') Qg (F0 m (pc + 2) ls (.ref q :: rest))) : W p l e R s m args below meth c H locs cells slots Qg (F0 m pc ls (.int k :: rest)) := by
  subst hty
  refine va_newaK hx hb harr rfl hdg rfl hn hN hbytes hcells hslots rfl fun H1 cA e1 z1 o1 hAr hNm => ?_
  cases Option.some.inj (hNm.symm.trans hf)
  have hk : ∀ (k : Nat) (x : Nat × va_E), ws[k]? = some x → H1[x.1]? = H[x.1]? := fun k x hx => o1 x.1 ((hP k x hx).lt)
  refine kk H.size H1 ((hP.kept hk).app (fun k x hx => ?_)) (hD.push hP rfl (hA _ hS.1)) ⟨Nat.le_trans hS.1 (by omega), fun x h1 h2 => (o1 x (Nat.lt_of_lt_of_le h1 hS.1)).trans (hS.2.1 x h1 h2), hS.2.2⟩
  have hz : k < 1 := (List.getElem?_eq_some_iff.mp hx).1
  rw [show k = 0 by omega] at hx
  cases hx
  show H1[H.size]? = some (vp_cell _ _)
  rw [ha]
  exact e1
end PB
end
section
theorem nw_X0 : ∀ j, j < 13 → defaultValue (tyX0 j) = vp_V [.null, .null, .null, .null, .null, .int 0, .null, .null, .int 0, .int 0, .int 0, .null, .int 0] j := by decide +kernel
theorem nw_X1 : ∀ j, j < 13 → defaultValue (tyX1 j) = vp_V [.null, .null, .null, .null, .int 0, .null, .null, .null, .null, .null, .int 0, .int 0, .int 0] j := by decide +kernel
theorem nw_X2 : ∀ j, j < 13 → defaultValue (tyX2 j) = vp_V [.int 0, .int 0, .int 0, .int 0, .int 0, .int 0, .int 0, .null, .null, .null, .long 0, .null, .null] j := by decide +kernel
theorem nw_X3 : ∀ j, j < 5 → defaultValue (tyX3 j) = vp_V [.null, .null, .int 0, .int 0, .int 0] j := by decide +kernel
theorem nw_X5 : ∀ j, j < 19 → defaultValue (tyX5 j) = vp_V [.null, .null, .null, .null, .null, .int 0, .null, .null, .null, .null, .int 0, .int 0, .int 0, .int 0, .long 0, .int 0, .int 0, .int 0, .int 0] j := by decide +kernel
theorem nw_X8 : ∀ j, j < 5 → defaultValue (tyX8 j) = vp_V [.null, .null, .int 0, .int 0, .int 0] j := by decide +kernel
theorem nw_X9 : ∀ j, j < 5 → defaultValue (tyX9 j) = vp_V [.null, .null, .int 0, .null, .int 0] j := by decide +kernel
theorem nw_X10 : ∀ j, j < 15 → defaultValue (tyX10 j) = vp_V [.null, .int 0, .int 0, .null, .null, .null, .null, .null, .int 0, .null, .null, .null, .null, .int 0, .int 0] j := by decide +kernel
theorem nw_X11 : ∀ j, j < 8 → defaultValue (tyX11 j) = vp_V [.null, .int 0, .null, .null, .null, .null, .null, .null] j := by decide +kernel
theorem nw_X12 : ∀ j, j < 134 → defaultValue (tyX12 j) = vp_V [.int 0, .null, .int 0, .null, .int 0, .null, .null, .null, .null, .int 0, .null, .null, .null, .int 0, .int 0, .int 0, .int 0, .null, .null, .null, .null, .null, .null, .null, .null, .null, .null, .int 0, .null, .null, .null, .int 0, .null, .null, .int 0, .int 0, .null, .null, .null, .null, .null, .null, .null, .null, .int 0, .null, .null, .null, .null, .int 0, .null, .null, .null, .null, .null, .null, .null, .null, .null, .int 0, .int 0, .null, .null, .null, .int 0, .int 0, .int 0, .int 0, .int 0, .int 0, .int 0, .null, .null, .int 0, .int 0, .int 0, .int 0, .int 0, .int 0, .int 0, .int 0, .int 0, .int 0, .int 0, .null, .int 0, .null, .int 0, .null, .null, .null, .null, .null, .null, .null, .null, .null, .int 0, .int 0, .int 0, .null, .int 0, .int 0, .null, .null, .null, .null, .null, .null, .null, .null, .int 0, .null, .null, .null, .int 0, .int 0, .int 0, .int 0, .int 0, .int 0, .int 0, .int 0, .int 0, .int 0, .int 0, .int 0, .null, .int 0, .null, .int 0, .null, .null, .null] j := by decide +kernel
theorem nw_Jx4a65c : ∀ j, j < 3 → defaultValue (tyJx4a65c j) = vp_V [.int 0, .null, .int 0] j := by decide +kernel
theorem tFX12_0 : TX12 0 = ("JinjaTongueModel", "thrown", "I", false) := by decide +kernel
theorem tFX12_1 : TX12 1 = ("JinjaTongueModel", "tape", "[I", true) := by decide +kernel
theorem tFX12_2 : TX12 2 = ("JinjaTongueModel", "taped", "I", false) := by decide +kernel
theorem tFX12_3 : TX12 3 = ("JinjaTongueModel", "text", "[I", true) := by decide +kernel
theorem tFX12_4 : TX12 4 = ("JinjaTongueModel", "size", "I", false) := by decide +kernel
theorem tFX12_5 : TX12 5 = ("JinjaTongueModel", "tKind", "[I", true) := by decide +kernel
theorem tFX12_6 : TX12 6 = ("JinjaTongueModel", "tFrom", "[I", true) := by decide +kernel
theorem tFX12_7 : TX12 7 = ("JinjaTongueModel", "tTo", "[I", true) := by decide +kernel
theorem tFX12_8 : TX12 8 = ("JinjaTongueModel", "tValue", "[I", true) := by decide +kernel
theorem tFX12_9 : TX12 9 = ("JinjaTongueModel", "tokens", "I", false) := by decide +kernel
theorem tFX12_10 : TX12 10 = ("JinjaTongueModel", "nameAt", "[I", true) := by decide +kernel
theorem tFX12_11 : TX12 11 = ("JinjaTongueModel", "nameSize", "[I", true) := by decide +kernel
theorem tFX12_12 : TX12 12 = ("JinjaTongueModel", "nameBytes", "[B", true) := by decide +kernel
theorem tFX12_13 : TX12 13 = ("JinjaTongueModel", "nameUsed", "I", false) := by decide +kernel
theorem tFX12_14 : TX12 14 = ("JinjaTongueModel", "names", "I", false) := by decide +kernel
theorem tFX12_15 : TX12 15 = ("JinjaTongueModel", "fault", "I", false) := by decide +kernel
theorem tFX12_16 : TX12 16 = ("JinjaTongueModel", "faultPlace", "I", false) := by decide +kernel
theorem tFX12_17 : TX12 17 = ("JinjaTongueModel", "nKind", "[I", true) := by decide +kernel
theorem tFX12_18 : TX12 18 = ("JinjaTongueModel", "nFirst", "[I", true) := by decide +kernel
theorem tFX12_19 : TX12 19 = ("JinjaTongueModel", "nToken", "[I", true) := by decide +kernel
theorem tFX12_20 : TX12 20 = ("JinjaTongueModel", "nA", "[I", true) := by decide +kernel
theorem tFX12_21 : TX12 21 = ("JinjaTongueModel", "nB", "[I", true) := by decide +kernel
theorem tFX12_22 : TX12 22 = ("JinjaTongueModel", "nC", "[I", true) := by decide +kernel
theorem tFX12_23 : TX12 23 = ("JinjaTongueModel", "nD", "[I", true) := by decide +kernel
theorem tFX12_24 : TX12 24 = ("JinjaTongueModel", "nNext", "[I", true) := by decide +kernel
theorem tFX12_25 : TX12 25 = ("JinjaTongueModel", "nType", "[I", true) := by decide +kernel
theorem tFX12_26 : TX12 26 = ("JinjaTongueModel", "nMeans", "[I", true) := by decide +kernel
theorem tFX12_27 : TX12 27 = ("JinjaTongueModel", "nodes", "I", false) := by decide +kernel
theorem tFX12_28 : TX12 28 = ("JinjaTongueModel", "yToken", "[I", true) := by decide +kernel
theorem tFX12_29 : TX12 29 = ("JinjaTongueModel", "yRow", "[Z", true) := by decide +kernel
theorem tFX12_30 : TX12 30 = ("JinjaTongueModel", "yCode", "[I", true) := by decide +kernel
theorem tFX12_31 : TX12 31 = ("JinjaTongueModel", "written", "I", false) := by decide +kernel
theorem tFX12_32 : TX12 32 = ("JinjaTongueModel", "lToken", "[I", true) := by decide +kernel
theorem tFX12_33 : TX12 33 = ("JinjaTongueModel", "lNext", "[I", true) := by decide +kernel
theorem tFX12_34 : TX12 34 = ("JinjaTongueModel", "listed", "I", false) := by decide +kernel
theorem tFX12_35 : TX12 35 = ("JinjaTongueModel", "decls", "I", false) := by decide +kernel
theorem tFX12_36 : TX12 36 = ("JinjaTongueModel", "dName", "[I", true) := by decide +kernel
theorem tFX12_37 : TX12 37 = ("JinjaTongueModel", "dToken", "[I", true) := by decide +kernel
theorem tFX12_38 : TX12 38 = ("JinjaTongueModel", "dIsInterface", "[Z", true) := by decide +kernel
theorem tFX12_39 : TX12 39 = ("JinjaTongueModel", "dExtends", "[I", true) := by decide +kernel
theorem tFX12_40 : TX12 40 = ("JinjaTongueModel", "dImplements", "[I", true) := by decide +kernel
theorem tFX12_41 : TX12 41 = ("JinjaTongueModel", "dSuper", "[I", true) := by decide +kernel
theorem tFX12_42 : TX12 42 = ("JinjaTongueModel", "dCells", "[I", true) := by decide +kernel
theorem tFX12_43 : TX12 43 = ("JinjaTongueModel", "dAbove", "[Z", true) := by decide +kernel
theorem tFX12_44 : TX12 44 = ("JinjaTongueModel", "fields", "I", false) := by decide +kernel
theorem tFX12_45 : TX12 45 = ("JinjaTongueModel", "fOf", "[I", true) := by decide +kernel
theorem tFX12_46 : TX12 46 = ("JinjaTongueModel", "fName", "[I", true) := by decide +kernel
theorem tFX12_47 : TX12 47 = ("JinjaTongueModel", "fToken", "[I", true) := by decide +kernel
theorem tFX12_48 : TX12 48 = ("JinjaTongueModel", "fType", "[I", true) := by decide +kernel
theorem tFX12_49 : TX12 49 = ("JinjaTongueModel", "methods", "I", false) := by decide +kernel
theorem tFX12_50 : TX12 50 = ("JinjaTongueModel", "mOf", "[I", true) := by decide +kernel
theorem tFX12_51 : TX12 51 = ("JinjaTongueModel", "mName", "[I", true) := by decide +kernel
theorem tFX12_52 : TX12 52 = ("JinjaTongueModel", "mToken", "[I", true) := by decide +kernel
theorem tFX12_53 : TX12 53 = ("JinjaTongueModel", "mResult", "[I", true) := by decide +kernel
theorem tFX12_54 : TX12 54 = ("JinjaTongueModel", "mFirst", "[I", true) := by decide +kernel
theorem tFX12_55 : TX12 55 = ("JinjaTongueModel", "mMany", "[I", true) := by decide +kernel
theorem tFX12_56 : TX12 56 = ("JinjaTongueModel", "mBlock", "[I", true) := by decide +kernel
theorem tFX12_57 : TX12 57 = ("JinjaTongueModel", "mEnd", "[I", true) := by decide +kernel
theorem tFX12_58 : TX12 58 = ("JinjaTongueModel", "mNumber", "[I", true) := by decide +kernel
theorem tFX12_59 : TX12 59 = ("JinjaTongueModel", "blocks", "I", false) := by decide +kernel
theorem tFX12_60 : TX12 60 = ("JinjaTongueModel", "parameters", "I", false) := by decide +kernel
theorem tFX12_61 : TX12 61 = ("JinjaTongueModel", "pName", "[I", true) := by decide +kernel
theorem tFX12_62 : TX12 62 = ("JinjaTongueModel", "pToken", "[I", true) := by decide +kernel
theorem tFX12_63 : TX12 63 = ("JinjaTongueModel", "pType", "[I", true) := by decide +kernel
theorem tFX12_64 : TX12 64 = ("JinjaTongueModel", "at", "I", false) := by decide +kernel
theorem tFX12_65 : TX12 65 = ("JinjaTongueModel", "nest", "I", false) := by decide +kernel
theorem tFX12_66 : TX12 66 = ("JinjaTongueModel", "links", "I", false) := by decide +kernel
theorem tFX12_67 : TX12 67 = ("JinjaTongueModel", "manyFields", "I", false) := by decide +kernel
theorem tFX12_68 : TX12 68 = ("JinjaTongueModel", "manyMethods", "I", false) := by decide +kernel
theorem tFX12_69 : TX12 69 = ("JinjaTongueModel", "roundAt", "I", false) := by decide +kernel
theorem tFX12_70 : TX12 70 = ("JinjaTongueModel", "roundWhat", "I", false) := by decide +kernel
theorem tFX12_71 : TX12 71 = ("JinjaTongueModel", "vName", "[I", true) := by decide +kernel
theorem tFX12_72 : TX12 72 = ("JinjaTongueModel", "vType", "[I", true) := by decide +kernel
theorem tFX12_73 : TX12 73 = ("JinjaTongueModel", "scope", "I", false) := by decide +kernel
theorem tFX12_74 : TX12 74 = ("JinjaTongueModel", "bodyOf", "I", false) := by decide +kernel
theorem tFX12_75 : TX12 75 = ("JinjaTongueModel", "bodyResult", "I", false) := by decide +kernel
theorem tFX12_76 : TX12 76 = ("JinjaTongueModel", "inLoops", "I", false) := by decide +kernel
theorem tFX12_77 : TX12 77 = ("JinjaTongueModel", "done", "I", false) := by decide +kernel
theorem tFX12_78 : TX12 78 = ("JinjaTongueModel", "whenTrue", "I", false) := by decide +kernel
theorem tFX12_79 : TX12 79 = ("JinjaTongueModel", "whenFalse", "I", false) := by decide +kernel
theorem tFX12_80 : TX12 80 = ("JinjaTongueModel", "atBreaks", "I", false) := by decide +kernel
theorem tFX12_81 : TX12 81 = ("JinjaTongueModel", "atContinues", "I", false) := by decide +kernel
theorem tFX12_82 : TX12 82 = ("JinjaTongueModel", "hasProgram", "Z", false) := by decide +kernel
theorem tFX12_83 : TX12 83 = ("JinjaTongueModel", "hasRun", "Z", false) := by decide +kernel
theorem tFX12_84 : TX12 84 = ("JinjaTongueModel", "inputs", "[I", true) := by decide +kernel
theorem tFX12_85 : TX12 85 = ("JinjaTongueModel", "inputMany", "I", false) := by decide +kernel
theorem tFX12_86 : TX12 86 = ("JinjaTongueModel", "output", "[I", true) := by decide +kernel
theorem tFX12_87 : TX12 87 = ("JinjaTongueModel", "outputs", "I", false) := by decide +kernel
theorem tFX12_88 : TX12 88 = ("JinjaTongueModel", "nUp", "[I", true) := by decide +kernel
theorem tFX12_89 : TX12 89 = ("JinjaTongueModel", "fPlace", "[I", true) := by decide +kernel
theorem tFX12_90 : TX12 90 = ("JinjaTongueModel", "choiceOf", "[I", true) := by decide +kernel
theorem tFX12_91 : TX12 91 = ("JinjaTongueModel", "oClass", "[I", true) := by decide +kernel
theorem tFX12_92 : TX12 92 = ("JinjaTongueModel", "oSort", "[I", true) := by decide +kernel
theorem tFX12_93 : TX12 93 = ("JinjaTongueModel", "oMany", "[I", true) := by decide +kernel
theorem tFX12_94 : TX12 94 = ("JinjaTongueModel", "oAt", "[I", true) := by decide +kernel
theorem tFX12_95 : TX12 95 = ("JinjaTongueModel", "oSeen", "[Z", true) := by decide +kernel
theorem tFX12_96 : TX12 96 = ("JinjaTongueModel", "cells", "[I", true) := by decide +kernel
theorem tFX12_97 : TX12 97 = ("JinjaTongueModel", "cellTop", "I", false) := by decide +kernel
theorem tFX12_98 : TX12 98 = ("JinjaTongueModel", "filled", "I", false) := by decide +kernel
theorem tFX12_99 : TX12 99 = ("JinjaTongueModel", "room", "I", false) := by decide +kernel
theorem tFX12_100 : TX12 100 = ("JinjaTongueModel", "todo", "[I", true) := by decide +kernel
theorem tFX12_101 : TX12 101 = ("JinjaTongueModel", "todos", "I", false) := by decide +kernel
theorem tFX12_102 : TX12 102 = ("JinjaTongueModel", "open", "I", false) := by decide +kernel
theorem tFX12_103 : TX12 103 = ("JinjaTongueModel", "cThis", "[I", true) := by decide +kernel
theorem tFX12_104 : TX12 104 = ("JinjaTongueModel", "cScope", "[I", true) := by decide +kernel
theorem tFX12_105 : TX12 105 = ("JinjaTongueModel", "cValues", "[I", true) := by decide +kernel
theorem tFX12_106 : TX12 106 = ("JinjaTongueModel", "cNode", "[I", true) := by decide +kernel
theorem tFX12_107 : TX12 107 = ("JinjaTongueModel", "variable", "[I", true) := by decide +kernel
theorem tFX12_108 : TX12 108 = ("JinjaTongueModel", "variableRefers", "[Z", true) := by decide +kernel
theorem tFX12_109 : TX12 109 = ("JinjaTongueModel", "stack", "[I", true) := by decide +kernel
theorem tFX12_110 : TX12 110 = ("JinjaTongueModel", "refers", "[Z", true) := by decide +kernel
theorem tFX12_111 : TX12 111 = ("JinjaTongueModel", "top", "I", false) := by decide +kernel
theorem tFX12_112 : TX12 112 = ("JinjaTongueModel", "waitKind", "[I", true) := by decide +kernel
theorem tFX12_113 : TX12 113 = ("JinjaTongueModel", "waitValue", "[I", true) := by decide +kernel
theorem tFX12_114 : TX12 114 = ("JinjaTongueModel", "waitRefers", "[Z", true) := by decide +kernel
theorem tFX12_115 : TX12 115 = ("JinjaTongueModel", "waits", "I", false) := by decide +kernel
theorem tFX12_116 : TX12 116 = ("JinjaTongueModel", "ended", "I", false) := by decide +kernel
theorem tFX12_117 : TX12 117 = ("JinjaTongueModel", "fuel", "I", false) := by decide +kernel
theorem tFX12_118 : TX12 118 = ("JinjaTongueModel", "result", "I", false) := by decide +kernel
theorem tFX12_119 : TX12 119 = ("JinjaTongueModel", "uncaught", "I", false) := by decide +kernel
theorem tFX12_120 : TX12 120 = ("JinjaTongueModel", "readMany", "I", false) := by decide +kernel
theorem tFX12_121 : TX12 121 = ("JinjaTongueModel", "made", "I", false) := by decide +kernel
theorem tFX12_122 : TX12 122 = ("JinjaTongueModel", "madeCells", "I", false) := by decide +kernel
theorem tFX12_123 : TX12 123 = ("JinjaTongueModel", "calls", "I", false) := by decide +kernel
theorem tFX12_124 : TX12 124 = ("JinjaTongueModel", "mostOpen", "I", false) := by decide +kernel
theorem tFX12_125 : TX12 125 = ("JinjaTongueModel", "now", "I", false) := by decide +kernel
theorem tFX12_126 : TX12 126 = ("JinjaTongueModel", "isNew", "Z", false) := by decide +kernel
theorem tFX12_127 : TX12 127 = ("JinjaTongueModel", "order", "[I", true) := by decide +kernel
theorem tFX12_128 : TX12 128 = ("JinjaTongueModel", "orders", "I", false) := by decide +kernel
theorem tFX12_129 : TX12 129 = ("JinjaTongueModel", "idle", "[I", true) := by decide +kernel
theorem tFX12_130 : TX12 130 = ("JinjaTongueModel", "idles", "I", false) := by decide +kernel
theorem tFX12_131 : TX12 131 = ("JinjaTongueModel", "refFrom", "[I", true) := by decide +kernel
theorem tFX12_132 : TX12 132 = ("JinjaTongueModel", "refMany", "[I", true) := by decide +kernel
theorem tFX12_133 : TX12 133 = ("JinjaTongueModel", "refPlace", "[I", true) := by decide +kernel
end
section
theorem dX12_init_0 : decode cX12_init 0 = .ok (.aload_n 0, 1) := by decide +kernel
theorem dX12_init_1 : decode cX12_init 1 = .ok (.invokespecial 1, 3) := by decide +kernel
theorem dX12_init_4 : decode cX12_init 4 = .ok (.aload_n 0, 1) := by decide +kernel
theorem dX12_init_5 : decode cX12_init 5 = .ok (.sipush 5000, 3) := by decide +kernel
theorem dX12_init_8 : decode cX12_init 8 = .ok (.newarray .int, 2) := by decide +kernel
theorem dX12_init_10 : decode cX12_init 10 = .ok (.putfield 7, 3) := by decide +kernel
theorem dX12_init_13 : decode cX12_init 13 = .ok (.aload_n 0, 1) := by decide +kernel
theorem dX12_init_14 : decode cX12_init 14 = .ok (.sipush 5000, 3) := by decide +kernel
theorem dX12_init_17 : decode cX12_init 17 = .ok (.newarray .int, 2) := by decide +kernel
theorem dX12_init_19 : decode cX12_init 19 = .ok (.putfield 13, 3) := by decide +kernel
theorem dX12_init_22 : decode cX12_init 22 = .ok (.aload_n 0, 1) := by decide +kernel
theorem dX12_init_23 : decode cX12_init 23 = .ok (.sipush 5001, 3) := by decide +kernel
theorem dX12_init_26 : decode cX12_init 26 = .ok (.newarray .int, 2) := by decide +kernel
theorem dX12_init_28 : decode cX12_init 28 = .ok (.putfield 16, 3) := by decide +kernel
theorem dX12_init_31 : decode cX12_init 31 = .ok (.aload_n 0, 1) := by decide +kernel
theorem dX12_init_32 : decode cX12_init 32 = .ok (.sipush 5001, 3) := by decide +kernel
theorem dX12_init_35 : decode cX12_init 35 = .ok (.newarray .int, 2) := by decide +kernel
theorem dX12_init_37 : decode cX12_init 37 = .ok (.putfield 19, 3) := by decide +kernel
theorem dX12_init_40 : decode cX12_init 40 = .ok (.aload_n 0, 1) := by decide +kernel
theorem dX12_init_41 : decode cX12_init 41 = .ok (.sipush 5001, 3) := by decide +kernel
theorem dX12_init_44 : decode cX12_init 44 = .ok (.newarray .int, 2) := by decide +kernel
theorem dX12_init_46 : decode cX12_init 46 = .ok (.putfield 22, 3) := by decide +kernel
theorem dX12_init_49 : decode cX12_init 49 = .ok (.aload_n 0, 1) := by decide +kernel
theorem dX12_init_50 : decode cX12_init 50 = .ok (.sipush 5001, 3) := by decide +kernel
theorem dX12_init_53 : decode cX12_init 53 = .ok (.newarray .int, 2) := by decide +kernel
theorem dX12_init_55 : decode cX12_init 55 = .ok (.putfield 25, 3) := by decide +kernel
theorem dX12_init_58 : decode cX12_init 58 = .ok (.aload_n 0, 1) := by decide +kernel
theorem dX12_init_59 : decode cX12_init 59 = .ok (.sipush 5100, 3) := by decide +kernel
theorem dX12_init_62 : decode cX12_init 62 = .ok (.newarray .int, 2) := by decide +kernel
theorem dX12_init_64 : decode cX12_init 64 = .ok (.putfield 28, 3) := by decide +kernel
theorem dX12_init_67 : decode cX12_init 67 = .ok (.aload_n 0, 1) := by decide +kernel
theorem dX12_init_68 : decode cX12_init 68 = .ok (.sipush 5100, 3) := by decide +kernel
theorem dX12_init_71 : decode cX12_init 71 = .ok (.newarray .int, 2) := by decide +kernel
theorem dX12_init_73 : decode cX12_init 73 = .ok (.putfield 31, 3) := by decide +kernel
theorem dX12_init_76 : decode cX12_init 76 = .ok (.aload_n 0, 1) := by decide +kernel
theorem dX12_init_77 : decode cX12_init 77 = .ok (.sipush 5100, 3) := by decide +kernel
theorem dX12_init_80 : decode cX12_init 80 = .ok (.newarray .byte, 2) := by decide +kernel
theorem dX12_init_82 : decode cX12_init 82 = .ok (.putfield 34, 3) := by decide +kernel
theorem dX12_init_85 : decode cX12_init 85 = .ok (.aload_n 0, 1) := by decide +kernel
theorem dX12_init_86 : decode cX12_init 86 = .ok (.sipush 12000, 3) := by decide +kernel
theorem dX12_init_89 : decode cX12_init 89 = .ok (.newarray .int, 2) := by decide +kernel
theorem dX12_init_91 : decode cX12_init 91 = .ok (.putfield 38, 3) := by decide +kernel
theorem dX12_init_94 : decode cX12_init 94 = .ok (.aload_n 0, 1) := by decide +kernel
theorem dX12_init_95 : decode cX12_init 95 = .ok (.sipush 12000, 3) := by decide +kernel
theorem dX12_init_98 : decode cX12_init 98 = .ok (.newarray .int, 2) := by decide +kernel
theorem dX12_init_100 : decode cX12_init 100 = .ok (.putfield 41, 3) := by decide +kernel
theorem dX12_init_103 : decode cX12_init 103 = .ok (.aload_n 0, 1) := by decide +kernel
theorem dX12_init_104 : decode cX12_init 104 = .ok (.sipush 12000, 3) := by decide +kernel
theorem dX12_init_107 : decode cX12_init 107 = .ok (.newarray .int, 2) := by decide +kernel
theorem dX12_init_109 : decode cX12_init 109 = .ok (.putfield 44, 3) := by decide +kernel
theorem dX12_init_112 : decode cX12_init 112 = .ok (.aload_n 0, 1) := by decide +kernel
theorem dX12_init_113 : decode cX12_init 113 = .ok (.sipush 12000, 3) := by decide +kernel
theorem dX12_init_116 : decode cX12_init 116 = .ok (.newarray .int, 2) := by decide +kernel
theorem dX12_init_118 : decode cX12_init 118 = .ok (.putfield 47, 3) := by decide +kernel
theorem dX12_init_121 : decode cX12_init 121 = .ok (.aload_n 0, 1) := by decide +kernel
theorem dX12_init_122 : decode cX12_init 122 = .ok (.sipush 12000, 3) := by decide +kernel
theorem dX12_init_125 : decode cX12_init 125 = .ok (.newarray .int, 2) := by decide +kernel
theorem dX12_init_127 : decode cX12_init 127 = .ok (.putfield 50, 3) := by decide +kernel
theorem dX12_init_130 : decode cX12_init 130 = .ok (.aload_n 0, 1) := by decide +kernel
theorem dX12_init_131 : decode cX12_init 131 = .ok (.sipush 12000, 3) := by decide +kernel
theorem dX12_init_134 : decode cX12_init 134 = .ok (.newarray .int, 2) := by decide +kernel
theorem dX12_init_136 : decode cX12_init 136 = .ok (.putfield 53, 3) := by decide +kernel
theorem dX12_init_139 : decode cX12_init 139 = .ok (.aload_n 0, 1) := by decide +kernel
theorem dX12_init_140 : decode cX12_init 140 = .ok (.sipush 12000, 3) := by decide +kernel
theorem dX12_init_143 : decode cX12_init 143 = .ok (.newarray .int, 2) := by decide +kernel
theorem dX12_init_145 : decode cX12_init 145 = .ok (.putfield 56, 3) := by decide +kernel
theorem dX12_init_148 : decode cX12_init 148 = .ok (.aload_n 0, 1) := by decide +kernel
theorem dX12_init_149 : decode cX12_init 149 = .ok (.sipush 12000, 3) := by decide +kernel
theorem dX12_init_152 : decode cX12_init 152 = .ok (.newarray .int, 2) := by decide +kernel
theorem dX12_init_154 : decode cX12_init 154 = .ok (.putfield 59, 3) := by decide +kernel
theorem dX12_init_157 : decode cX12_init 157 = .ok (.aload_n 0, 1) := by decide +kernel
theorem dX12_init_158 : decode cX12_init 158 = .ok (.sipush 12000, 3) := by decide +kernel
theorem dX12_init_161 : decode cX12_init 161 = .ok (.newarray .int, 2) := by decide +kernel
theorem dX12_init_163 : decode cX12_init 163 = .ok (.putfield 62, 3) := by decide +kernel
theorem dX12_init_166 : decode cX12_init 166 = .ok (.aload_n 0, 1) := by decide +kernel
theorem dX12_init_167 : decode cX12_init 167 = .ok (.sipush 12000, 3) := by decide +kernel
theorem dX12_init_170 : decode cX12_init 170 = .ok (.newarray .int, 2) := by decide +kernel
theorem dX12_init_172 : decode cX12_init 172 = .ok (.putfield 65, 3) := by decide +kernel
theorem dX12_init_175 : decode cX12_init 175 = .ok (.aload_n 0, 1) := by decide +kernel
theorem dX12_init_176 : decode cX12_init 176 = .ok (.sipush 5000, 3) := by decide +kernel
theorem dX12_init_179 : decode cX12_init 179 = .ok (.newarray .int, 2) := by decide +kernel
theorem dX12_init_181 : decode cX12_init 181 = .ok (.putfield 68, 3) := by decide +kernel
theorem dX12_init_184 : decode cX12_init 184 = .ok (.aload_n 0, 1) := by decide +kernel
theorem dX12_init_185 : decode cX12_init 185 = .ok (.sipush 5000, 3) := by decide +kernel
theorem dX12_init_188 : decode cX12_init 188 = .ok (.newarray .boolean, 2) := by decide +kernel
theorem dX12_init_190 : decode cX12_init 190 = .ok (.putfield 71, 3) := by decide +kernel
theorem dX12_init_193 : decode cX12_init 193 = .ok (.aload_n 0, 1) := by decide +kernel
theorem dX12_init_194 : decode cX12_init 194 = .ok (.sipush 5000, 3) := by decide +kernel
theorem dX12_init_197 : decode cX12_init 197 = .ok (.newarray .int, 2) := by decide +kernel
theorem dX12_init_199 : decode cX12_init 199 = .ok (.putfield 75, 3) := by decide +kernel
theorem dX12_init_202 : decode cX12_init 202 = .ok (.aload_n 0, 1) := by decide +kernel
theorem dX12_init_203 : decode cX12_init 203 = .ok (.sipush 5000, 3) := by decide +kernel
theorem dX12_init_206 : decode cX12_init 206 = .ok (.newarray .int, 2) := by decide +kernel
theorem dX12_init_208 : decode cX12_init 208 = .ok (.putfield 78, 3) := by decide +kernel
theorem dX12_init_211 : decode cX12_init 211 = .ok (.aload_n 0, 1) := by decide +kernel
theorem dX12_init_212 : decode cX12_init 212 = .ok (.sipush 5000, 3) := by decide +kernel
theorem dX12_init_215 : decode cX12_init 215 = .ok (.newarray .int, 2) := by decide +kernel
theorem dX12_init_217 : decode cX12_init 217 = .ok (.putfield 81, 3) := by decide +kernel
theorem dX12_init_220 : decode cX12_init 220 = .ok (.aload_n 0, 1) := by decide +kernel
theorem dX12_init_221 : decode cX12_init 221 = .ok (.bipush 40, 2) := by decide +kernel
theorem dX12_init_223 : decode cX12_init 223 = .ok (.newarray .int, 2) := by decide +kernel
theorem dX12_init_225 : decode cX12_init 225 = .ok (.putfield 84, 3) := by decide +kernel
theorem dX12_init_228 : decode cX12_init 228 = .ok (.aload_n 0, 1) := by decide +kernel
theorem dX12_init_229 : decode cX12_init 229 = .ok (.bipush 40, 2) := by decide +kernel
theorem dX12_init_231 : decode cX12_init 231 = .ok (.newarray .int, 2) := by decide +kernel
theorem dX12_init_233 : decode cX12_init 233 = .ok (.putfield 87, 3) := by decide +kernel
theorem dX12_init_236 : decode cX12_init 236 = .ok (.aload_n 0, 1) := by decide +kernel
theorem dX12_init_237 : decode cX12_init 237 = .ok (.bipush 40, 2) := by decide +kernel
theorem dX12_init_239 : decode cX12_init 239 = .ok (.newarray .boolean, 2) := by decide +kernel
theorem dX12_init_241 : decode cX12_init 241 = .ok (.putfield 90, 3) := by decide +kernel
theorem dX12_init_244 : decode cX12_init 244 = .ok (.aload_n 0, 1) := by decide +kernel
theorem dX12_init_245 : decode cX12_init 245 = .ok (.bipush 40, 2) := by decide +kernel
theorem dX12_init_247 : decode cX12_init 247 = .ok (.newarray .int, 2) := by decide +kernel
theorem dX12_init_249 : decode cX12_init 249 = .ok (.putfield 93, 3) := by decide +kernel
theorem dX12_init_252 : decode cX12_init 252 = .ok (.aload_n 0, 1) := by decide +kernel
theorem dX12_init_253 : decode cX12_init 253 = .ok (.bipush 40, 2) := by decide +kernel
theorem dX12_init_255 : decode cX12_init 255 = .ok (.newarray .int, 2) := by decide +kernel
theorem dX12_init_257 : decode cX12_init 257 = .ok (.putfield 96, 3) := by decide +kernel
theorem dX12_init_260 : decode cX12_init 260 = .ok (.aload_n 0, 1) := by decide +kernel
theorem dX12_init_261 : decode cX12_init 261 = .ok (.bipush 40, 2) := by decide +kernel
theorem dX12_init_263 : decode cX12_init 263 = .ok (.newarray .int, 2) := by decide +kernel
theorem dX12_init_265 : decode cX12_init 265 = .ok (.putfield 99, 3) := by decide +kernel
theorem dX12_init_268 : decode cX12_init 268 = .ok (.aload_n 0, 1) := by decide +kernel
theorem dX12_init_269 : decode cX12_init 269 = .ok (.bipush 40, 2) := by decide +kernel
theorem dX12_init_271 : decode cX12_init 271 = .ok (.newarray .int, 2) := by decide +kernel
theorem dX12_init_273 : decode cX12_init 273 = .ok (.putfield 102, 3) := by decide +kernel
theorem dX12_init_276 : decode cX12_init 276 = .ok (.aload_n 0, 1) := by decide +kernel
theorem dX12_init_277 : decode cX12_init 277 = .ok (.sipush 1600, 3) := by decide +kernel
theorem dX12_init_280 : decode cX12_init 280 = .ok (.newarray .boolean, 2) := by decide +kernel
theorem dX12_init_282 : decode cX12_init 282 = .ok (.putfield 105, 3) := by decide +kernel
theorem dX12_init_285 : decode cX12_init 285 = .ok (.aload_n 0, 1) := by decide +kernel
theorem dX12_init_286 : decode cX12_init 286 = .ok (.sipush 620, 3) := by decide +kernel
theorem dX12_init_289 : decode cX12_init 289 = .ok (.newarray .int, 2) := by decide +kernel
theorem dX12_init_291 : decode cX12_init 291 = .ok (.putfield 108, 3) := by decide +kernel
theorem dX12_init_294 : decode cX12_init 294 = .ok (.aload_n 0, 1) := by decide +kernel
theorem dX12_init_295 : decode cX12_init 295 = .ok (.sipush 620, 3) := by decide +kernel
theorem dX12_init_298 : decode cX12_init 298 = .ok (.newarray .int, 2) := by decide +kernel
theorem dX12_init_300 : decode cX12_init 300 = .ok (.putfield 111, 3) := by decide +kernel
theorem dX12_init_303 : decode cX12_init 303 = .ok (.aload_n 0, 1) := by decide +kernel
theorem dX12_init_304 : decode cX12_init 304 = .ok (.sipush 620, 3) := by decide +kernel
theorem dX12_init_307 : decode cX12_init 307 = .ok (.newarray .int, 2) := by decide +kernel
theorem dX12_init_309 : decode cX12_init 309 = .ok (.putfield 114, 3) := by decide +kernel
theorem dX12_init_312 : decode cX12_init 312 = .ok (.aload_n 0, 1) := by decide +kernel
theorem dX12_init_313 : decode cX12_init 313 = .ok (.sipush 620, 3) := by decide +kernel
theorem dX12_init_316 : decode cX12_init 316 = .ok (.newarray .int, 2) := by decide +kernel
theorem dX12_init_318 : decode cX12_init 318 = .ok (.putfield 117, 3) := by decide +kernel
theorem dX12_init_321 : decode cX12_init 321 = .ok (.aload_n 0, 1) := by decide +kernel
theorem dX12_init_322 : decode cX12_init 322 = .ok (.sipush 920, 3) := by decide +kernel
theorem dX12_init_325 : decode cX12_init 325 = .ok (.newarray .int, 2) := by decide +kernel
theorem dX12_init_327 : decode cX12_init 327 = .ok (.putfield 120, 3) := by decide +kernel
theorem dX12_init_330 : decode cX12_init 330 = .ok (.aload_n 0, 1) := by decide +kernel
theorem dX12_init_331 : decode cX12_init 331 = .ok (.sipush 920, 3) := by decide +kernel
theorem dX12_init_334 : decode cX12_init 334 = .ok (.newarray .int, 2) := by decide +kernel
theorem dX12_init_336 : decode cX12_init 336 = .ok (.putfield 123, 3) := by decide +kernel
theorem dX12_init_339 : decode cX12_init 339 = .ok (.aload_n 0, 1) := by decide +kernel
theorem dX12_init_340 : decode cX12_init 340 = .ok (.sipush 920, 3) := by decide +kernel
theorem dX12_init_343 : decode cX12_init 343 = .ok (.newarray .int, 2) := by decide +kernel
theorem dX12_init_345 : decode cX12_init 345 = .ok (.putfield 126, 3) := by decide +kernel
theorem dX12_init_348 : decode cX12_init 348 = .ok (.aload_n 0, 1) := by decide +kernel
theorem dX12_init_349 : decode cX12_init 349 = .ok (.sipush 920, 3) := by decide +kernel
theorem dX12_init_352 : decode cX12_init 352 = .ok (.newarray .int, 2) := by decide +kernel
theorem dX12_init_354 : decode cX12_init 354 = .ok (.putfield 129, 3) := by decide +kernel
theorem dX12_init_357 : decode cX12_init 357 = .ok (.aload_n 0, 1) := by decide +kernel
theorem dX12_init_358 : decode cX12_init 358 = .ok (.sipush 920, 3) := by decide +kernel
theorem dX12_init_361 : decode cX12_init 361 = .ok (.newarray .int, 2) := by decide +kernel
theorem dX12_init_363 : decode cX12_init 363 = .ok (.putfield 132, 3) := by decide +kernel
theorem dX12_init_366 : decode cX12_init 366 = .ok (.aload_n 0, 1) := by decide +kernel
theorem dX12_init_367 : decode cX12_init 367 = .ok (.sipush 920, 3) := by decide +kernel
theorem dX12_init_370 : decode cX12_init 370 = .ok (.newarray .int, 2) := by decide +kernel
theorem dX12_init_372 : decode cX12_init 372 = .ok (.putfield 135, 3) := by decide +kernel
theorem dX12_init_375 : decode cX12_init 375 = .ok (.aload_n 0, 1) := by decide +kernel
theorem dX12_init_376 : decode cX12_init 376 = .ok (.sipush 920, 3) := by decide +kernel
theorem dX12_init_379 : decode cX12_init 379 = .ok (.newarray .int, 2) := by decide +kernel
theorem dX12_init_381 : decode cX12_init 381 = .ok (.putfield 138, 3) := by decide +kernel
theorem dX12_init_384 : decode cX12_init 384 = .ok (.aload_n 0, 1) := by decide +kernel
theorem dX12_init_385 : decode cX12_init 385 = .ok (.sipush 920, 3) := by decide +kernel
theorem dX12_init_388 : decode cX12_init 388 = .ok (.newarray .int, 2) := by decide +kernel
theorem dX12_init_390 : decode cX12_init 390 = .ok (.putfield 141, 3) := by decide +kernel
theorem dX12_init_393 : decode cX12_init 393 = .ok (.aload_n 0, 1) := by decide +kernel
theorem dX12_init_394 : decode cX12_init 394 = .ok (.sipush 920, 3) := by decide +kernel
theorem dX12_init_397 : decode cX12_init 397 = .ok (.newarray .int, 2) := by decide +kernel
theorem dX12_init_399 : decode cX12_init 399 = .ok (.putfield 144, 3) := by decide +kernel
theorem dX12_init_402 : decode cX12_init 402 = .ok (.aload_n 0, 1) := by decide +kernel
theorem dX12_init_403 : decode cX12_init 403 = .ok (.sipush 5000, 3) := by decide +kernel
theorem dX12_init_406 : decode cX12_init 406 = .ok (.newarray .int, 2) := by decide +kernel
theorem dX12_init_408 : decode cX12_init 408 = .ok (.putfield 147, 3) := by decide +kernel
theorem dX12_init_411 : decode cX12_init 411 = .ok (.aload_n 0, 1) := by decide +kernel
theorem dX12_init_412 : decode cX12_init 412 = .ok (.sipush 5000, 3) := by decide +kernel
theorem dX12_init_415 : decode cX12_init 415 = .ok (.newarray .int, 2) := by decide +kernel
theorem dX12_init_417 : decode cX12_init 417 = .ok (.putfield 150, 3) := by decide +kernel
theorem dX12_init_420 : decode cX12_init 420 = .ok (.aload_n 0, 1) := by decide +kernel
theorem dX12_init_421 : decode cX12_init 421 = .ok (.sipush 5000, 3) := by decide +kernel
theorem dX12_init_424 : decode cX12_init 424 = .ok (.newarray .int, 2) := by decide +kernel
theorem dX12_init_426 : decode cX12_init 426 = .ok (.putfield 153, 3) := by decide +kernel
theorem dX12_init_429 : decode cX12_init 429 = .ok (.aload_n 0, 1) := by decide +kernel
theorem dX12_init_430 : decode cX12_init 430 = .ok (.bipush 40, 2) := by decide +kernel
theorem dX12_init_432 : decode cX12_init 432 = .ok (.newarray .int, 2) := by decide +kernel
theorem dX12_init_434 : decode cX12_init 434 = .ok (.putfield 156, 3) := by decide +kernel
theorem dX12_init_437 : decode cX12_init 437 = .ok (.aload_n 0, 1) := by decide +kernel
theorem dX12_init_438 : decode cX12_init 438 = .ok (.bipush 40, 2) := by decide +kernel
theorem dX12_init_440 : decode cX12_init 440 = .ok (.newarray .int, 2) := by decide +kernel
theorem dX12_init_442 : decode cX12_init 442 = .ok (.putfield 159, 3) := by decide +kernel
theorem dX12_init_445 : decode cX12_init 445 = .ok (.aload_n 0, 1) := by decide +kernel
theorem dX12_init_446 : decode cX12_init 446 = .ok (.sipush 200, 3) := by decide +kernel
theorem dX12_init_449 : decode cX12_init 449 = .ok (.newarray .int, 2) := by decide +kernel
theorem dX12_init_451 : decode cX12_init 451 = .ok (.putfield 162, 3) := by decide +kernel
theorem dX12_init_454 : decode cX12_init 454 = .ok (.aload_n 0, 1) := by decide +kernel
theorem dX12_init_455 : decode cX12_init 455 = .ok (.sipush 400, 3) := by decide +kernel
theorem dX12_init_458 : decode cX12_init 458 = .ok (.newarray .int, 2) := by decide +kernel
theorem dX12_init_460 : decode cX12_init 460 = .ok (.putfield 165, 3) := by decide +kernel
theorem dX12_init_463 : decode cX12_init 463 = .ok (.aload_n 0, 1) := by decide +kernel
theorem dX12_init_464 : decode cX12_init 464 = .ok (.sipush 12000, 3) := by decide +kernel
theorem dX12_init_467 : decode cX12_init 467 = .ok (.newarray .int, 2) := by decide +kernel
theorem dX12_init_469 : decode cX12_init 469 = .ok (.putfield 168, 3) := by decide +kernel
theorem dX12_init_472 : decode cX12_init 472 = .ok (.aload_n 0, 1) := by decide +kernel
theorem dX12_init_473 : decode cX12_init 473 = .ok (.sipush 620, 3) := by decide +kernel
theorem dX12_init_476 : decode cX12_init 476 = .ok (.newarray .int, 2) := by decide +kernel
theorem dX12_init_478 : decode cX12_init 478 = .ok (.putfield 171, 3) := by decide +kernel
theorem dX12_init_481 : decode cX12_init 481 = .ok (.aload_n 0, 1) := by decide +kernel
theorem dX12_init_482 : decode cX12_init 482 = .ok (.ldc 174, 2) := by decide +kernel
theorem dX12_init_484 : decode cX12_init 484 = .ok (.newarray .int, 2) := by decide +kernel
theorem dX12_init_486 : decode cX12_init 486 = .ok (.putfield 175, 3) := by decide +kernel
theorem dX12_init_489 : decode cX12_init 489 = .ok (.aload_n 0, 1) := by decide +kernel
theorem dX12_init_490 : decode cX12_init 490 = .ok (.sipush 3000, 3) := by decide +kernel
theorem dX12_init_493 : decode cX12_init 493 = .ok (.newarray .int, 2) := by decide +kernel
theorem dX12_init_495 : decode cX12_init 495 = .ok (.putfield 178, 3) := by decide +kernel
theorem dX12_init_498 : decode cX12_init 498 = .ok (.aload_n 0, 1) := by decide +kernel
theorem dX12_init_499 : decode cX12_init 499 = .ok (.sipush 3000, 3) := by decide +kernel
theorem dX12_init_502 : decode cX12_init 502 = .ok (.newarray .int, 2) := by decide +kernel
theorem dX12_init_504 : decode cX12_init 504 = .ok (.putfield 181, 3) := by decide +kernel
theorem dX12_init_507 : decode cX12_init 507 = .ok (.aload_n 0, 1) := by decide +kernel
theorem dX12_init_508 : decode cX12_init 508 = .ok (.sipush 3000, 3) := by decide +kernel
theorem dX12_init_511 : decode cX12_init 511 = .ok (.newarray .int, 2) := by decide +kernel
theorem dX12_init_513 : decode cX12_init 513 = .ok (.putfield 184, 3) := by decide +kernel
theorem dX12_init_516 : decode cX12_init 516 = .ok (.aload_n 0, 1) := by decide +kernel
theorem dX12_init_517 : decode cX12_init 517 = .ok (.sipush 3000, 3) := by decide +kernel
theorem dX12_init_520 : decode cX12_init 520 = .ok (.newarray .int, 2) := by decide +kernel
theorem dX12_init_522 : decode cX12_init 522 = .ok (.putfield 187, 3) := by decide +kernel
theorem dX12_init_525 : decode cX12_init 525 = .ok (.aload_n 0, 1) := by decide +kernel
theorem dX12_init_526 : decode cX12_init 526 = .ok (.sipush 3000, 3) := by decide +kernel
theorem dX12_init_529 : decode cX12_init 529 = .ok (.newarray .boolean, 2) := by decide +kernel
theorem dX12_init_531 : decode cX12_init 531 = .ok (.putfield 190, 3) := by decide +kernel
theorem dX12_init_534 : decode cX12_init 534 = .ok (.aload_n 0, 1) := by decide +kernel
theorem dX12_init_535 : decode cX12_init 535 = .ok (.sipush 3100, 3) := by decide +kernel
theorem dX12_init_538 : decode cX12_init 538 = .ok (.newarray .int, 2) := by decide +kernel
theorem dX12_init_540 : decode cX12_init 540 = .ok (.putfield 193, 3) := by decide +kernel
theorem dX12_init_543 : decode cX12_init 543 = .ok (.aload_n 0, 1) := by decide +kernel
theorem dX12_init_544 : decode cX12_init 544 = .ok (.sipush 3000, 3) := by decide +kernel
theorem dX12_init_547 : decode cX12_init 547 = .ok (.newarray .int, 2) := by decide +kernel
theorem dX12_init_549 : decode cX12_init 549 = .ok (.putfield 196, 3) := by decide +kernel
theorem dX12_init_552 : decode cX12_init 552 = .ok (.aload_n 0, 1) := by decide +kernel
theorem dX12_init_553 : decode cX12_init 553 = .ok (.bipush 100, 2) := by decide +kernel
theorem dX12_init_555 : decode cX12_init 555 = .ok (.newarray .int, 2) := by decide +kernel
theorem dX12_init_557 : decode cX12_init 557 = .ok (.putfield 199, 3) := by decide +kernel
theorem dX12_init_560 : decode cX12_init 560 = .ok (.aload_n 0, 1) := by decide +kernel
theorem dX12_init_561 : decode cX12_init 561 = .ok (.bipush 100, 2) := by decide +kernel
theorem dX12_init_563 : decode cX12_init 563 = .ok (.newarray .int, 2) := by decide +kernel
theorem dX12_init_565 : decode cX12_init 565 = .ok (.putfield 202, 3) := by decide +kernel
theorem dX12_init_568 : decode cX12_init 568 = .ok (.aload_n 0, 1) := by decide +kernel
theorem dX12_init_569 : decode cX12_init 569 = .ok (.bipush 100, 2) := by decide +kernel
theorem dX12_init_571 : decode cX12_init 571 = .ok (.newarray .int, 2) := by decide +kernel
theorem dX12_init_573 : decode cX12_init 573 = .ok (.putfield 205, 3) := by decide +kernel
theorem dX12_init_576 : decode cX12_init 576 = .ok (.aload_n 0, 1) := by decide +kernel
theorem dX12_init_577 : decode cX12_init 577 = .ok (.bipush 100, 2) := by decide +kernel
theorem dX12_init_579 : decode cX12_init 579 = .ok (.newarray .int, 2) := by decide +kernel
theorem dX12_init_581 : decode cX12_init 581 = .ok (.putfield 208, 3) := by decide +kernel
theorem dX12_init_584 : decode cX12_init 584 = .ok (.aload_n 0, 1) := by decide +kernel
theorem dX12_init_585 : decode cX12_init 585 = .ok (.sipush 3200, 3) := by decide +kernel
theorem dX12_init_588 : decode cX12_init 588 = .ok (.newarray .int, 2) := by decide +kernel
theorem dX12_init_590 : decode cX12_init 590 = .ok (.putfield 211, 3) := by decide +kernel
theorem dX12_init_593 : decode cX12_init 593 = .ok (.aload_n 0, 1) := by decide +kernel
theorem dX12_init_594 : decode cX12_init 594 = .ok (.sipush 3200, 3) := by decide +kernel
theorem dX12_init_597 : decode cX12_init 597 = .ok (.newarray .boolean, 2) := by decide +kernel
theorem dX12_init_599 : decode cX12_init 599 = .ok (.putfield 214, 3) := by decide +kernel
theorem dX12_init_602 : decode cX12_init 602 = .ok (.aload_n 0, 1) := by decide +kernel
theorem dX12_init_603 : decode cX12_init 603 = .ok (.ldc 217, 2) := by decide +kernel
theorem dX12_init_605 : decode cX12_init 605 = .ok (.newarray .int, 2) := by decide +kernel
theorem dX12_init_607 : decode cX12_init 607 = .ok (.putfield 218, 3) := by decide +kernel
theorem dX12_init_610 : decode cX12_init 610 = .ok (.aload_n 0, 1) := by decide +kernel
theorem dX12_init_611 : decode cX12_init 611 = .ok (.ldc 217, 2) := by decide +kernel
theorem dX12_init_613 : decode cX12_init 613 = .ok (.newarray .boolean, 2) := by decide +kernel
theorem dX12_init_615 : decode cX12_init 615 = .ok (.putfield 221, 3) := by decide +kernel
theorem dX12_init_618 : decode cX12_init 618 = .ok (.aload_n 0, 1) := by decide +kernel
theorem dX12_init_619 : decode cX12_init 619 = .ok (.sipush 2100, 3) := by decide +kernel
theorem dX12_init_622 : decode cX12_init 622 = .ok (.newarray .int, 2) := by decide +kernel
theorem dX12_init_624 : decode cX12_init 624 = .ok (.putfield 224, 3) := by decide +kernel
theorem dX12_init_627 : decode cX12_init 627 = .ok (.aload_n 0, 1) := by decide +kernel
theorem dX12_init_628 : decode cX12_init 628 = .ok (.sipush 2100, 3) := by decide +kernel
theorem dX12_init_631 : decode cX12_init 631 = .ok (.newarray .int, 2) := by decide +kernel
theorem dX12_init_633 : decode cX12_init 633 = .ok (.putfield 227, 3) := by decide +kernel
theorem dX12_init_636 : decode cX12_init 636 = .ok (.aload_n 0, 1) := by decide +kernel
theorem dX12_init_637 : decode cX12_init 637 = .ok (.sipush 2100, 3) := by decide +kernel
theorem dX12_init_640 : decode cX12_init 640 = .ok (.newarray .boolean, 2) := by decide +kernel
theorem dX12_init_642 : decode cX12_init 642 = .ok (.putfield 230, 3) := by decide +kernel
theorem dX12_init_645 : decode cX12_init 645 = .ok (.aload_n 0, 1) := by decide +kernel
theorem dX12_init_646 : decode cX12_init 646 = .ok (.iconst (-1), 1) := by decide +kernel
theorem dX12_init_647 : decode cX12_init 647 = .ok (.putfield 233, 3) := by decide +kernel
theorem dX12_init_650 : decode cX12_init 650 = .ok (.aload_n 0, 1) := by decide +kernel
theorem dX12_init_651 : decode cX12_init 651 = .ok (.sipush 3000, 3) := by decide +kernel
theorem dX12_init_654 : decode cX12_init 654 = .ok (.newarray .int, 2) := by decide +kernel
theorem dX12_init_656 : decode cX12_init 656 = .ok (.putfield 237, 3) := by decide +kernel
theorem dX12_init_659 : decode cX12_init 659 = .ok (.aload_n 0, 1) := by decide +kernel
theorem dX12_init_660 : decode cX12_init 660 = .ok (.sipush 3000, 3) := by decide +kernel
theorem dX12_init_663 : decode cX12_init 663 = .ok (.newarray .int, 2) := by decide +kernel
theorem dX12_init_665 : decode cX12_init 665 = .ok (.putfield 240, 3) := by decide +kernel
theorem dX12_init_668 : decode cX12_init 668 = .ok (.aload_n 0, 1) := by decide +kernel
theorem dX12_init_669 : decode cX12_init 669 = .ok (.bipush 40, 2) := by decide +kernel
theorem dX12_init_671 : decode cX12_init 671 = .ok (.newarray .int, 2) := by decide +kernel
theorem dX12_init_673 : decode cX12_init 673 = .ok (.putfield 243, 3) := by decide +kernel
theorem dX12_init_676 : decode cX12_init 676 = .ok (.aload_n 0, 1) := by decide +kernel
theorem dX12_init_677 : decode cX12_init 677 = .ok (.bipush 40, 2) := by decide +kernel
theorem dX12_init_679 : decode cX12_init 679 = .ok (.newarray .int, 2) := by decide +kernel
theorem dX12_init_681 : decode cX12_init 681 = .ok (.putfield 246, 3) := by decide +kernel
theorem dX12_init_684 : decode cX12_init 684 = .ok (.aload_n 0, 1) := by decide +kernel
theorem dX12_init_685 : decode cX12_init 685 = .ok (.sipush 23000, 3) := by decide +kernel
theorem dX12_init_688 : decode cX12_init 688 = .ok (.newarray .int, 2) := by decide +kernel
theorem dX12_init_690 : decode cX12_init 690 = .ok (.putfield 249, 3) := by decide +kernel
theorem dX12_init_693 : decode cX12_init 693 = .ok (.return_, 1) := by decide +kernel
end
section
/-- the model's fields behind its constructor, its rows at the addresses a -/
def mF (a : Nat → Nat) : List Value := [.int 0, .ref (a 0), .int 0, .ref (a 1), .int 0, .ref (a 2), .ref (a 3), .ref (a 4), .ref (a 5), .int 0, .ref (a 6), .ref (a 7), .ref (a 8), .int 0, .int 0, .int 0, .int 0, .ref (a 9), .ref (a 10), .ref (a 11), .ref (a 12), .ref (a 13), .ref (a 14), .ref (a 15), .ref (a 16), .ref (a 17), .ref (a 18), .int 0, .ref (a 19), .ref (a 20), .ref (a 21), .int 0, .ref (a 22), .ref (a 23), .int 0, .int 0, .ref (a 24), .ref (a 25), .ref (a 26), .ref (a 27), .ref (a 28), .ref (a 29), .ref (a 30), .ref (a 31), .int 0, .ref (a 32), .ref (a 33), .ref (a 34), .ref (a 35), .int 0, .ref (a 36), .ref (a 37), .ref (a 38), .ref (a 39), .ref (a 40), .ref (a 41), .ref (a 42), .ref (a 43), .ref (a 44), .int 0, .int 0, .ref (a 45), .ref (a 46), .ref (a 47), .int 0, .int 0, .int 0, .int 0, .int 0, .int 0, .int 0, .ref (a 48), .ref (a 49), .int 0, .int 0, .int 0, .int 0, .int 0, .int 0, .int 0, .int 0, .int 0, .int 0, .int 0, .ref (a 50), .int 0, .ref (a 51), .int 0, .ref (a 52), .ref (a 53), .ref (a 54), .ref (a 55), .ref (a 56), .ref (a 57), .ref (a 58), .ref (a 59), .ref (a 60), .int 0, .int 0, .int 0, .ref (a 61), .int 0, .int 0, .ref (a 62), .ref (a 63), .ref (a 64), .ref (a 65), .ref (a 66), .ref (a 67), .ref (a 68), .ref (a 69), .int 0, .ref (a 70), .ref (a 71), .ref (a 72), .int 0, .int (-1), .int 0, .int 0, .int 0, .int 0, .int 0, .int 0, .int 0, .int 0, .int 0, .int 0, .ref (a 73), .int 0, .ref (a 74), .int 0, .ref (a 75), .ref (a 76), .ref (a 77)]
def mArr (G : pT) (a : Nat → Nat) : va_W := [(a 0, .inl (G.2.1 0, 5000, .inl (fun _ => 0))), (a 1, .inl (G.2.1 0, 5000, .inl (fun _ => 0))), (a 2, .inl (G.2.1 0, 5001, .inl (fun _ => 0))), (a 3, .inl (G.2.1 0, 5001, .inl (fun _ => 0))), (a 4, .inl (G.2.1 0, 5001, .inl (fun _ => 0))), (a 5, .inl (G.2.1 0, 5001, .inl (fun _ => 0))), (a 6, .inl (G.2.1 0, 5100, .inl (fun _ => 0))), (a 7, .inl (G.2.1 0, 5100, .inl (fun _ => 0))), (a 8, .inl (G.2.1 1, 5100, .inl (fun _ => 0))), (a 9, .inl (G.2.1 0, 12000, .inl (fun _ => 0))), (a 10, .inl (G.2.1 0, 12000, .inl (fun _ => 0))), (a 11, .inl (G.2.1 0, 12000, .inl (fun _ => 0))), (a 12, .inl (G.2.1 0, 12000, .inl (fun _ => 0))), (a 13, .inl (G.2.1 0, 12000, .inl (fun _ => 0))), (a 14, .inl (G.2.1 0, 12000, .inl (fun _ => 0))), (a 15, .inl (G.2.1 0, 12000, .inl (fun _ => 0))), (a 16, .inl (G.2.1 0, 12000, .inl (fun _ => 0))), (a 17, .inl (G.2.1 0, 12000, .inl (fun _ => 0))), (a 18, .inl (G.2.1 0, 12000, .inl (fun _ => 0))), (a 19, .inl (G.2.1 0, 5000, .inl (fun _ => 0))), (a 20, .inl (G.2.1 3, 5000, .inl (fun _ => 0))), (a 21, .inl (G.2.1 0, 5000, .inl (fun _ => 0))), (a 22, .inl (G.2.1 0, 5000, .inl (fun _ => 0))), (a 23, .inl (G.2.1 0, 5000, .inl (fun _ => 0))), (a 24, .inl (G.2.1 0, 40, .inl (fun _ => 0))), (a 25, .inl (G.2.1 0, 40, .inl (fun _ => 0))), (a 26, .inl (G.2.1 3, 40, .inl (fun _ => 0))), (a 27, .inl (G.2.1 0, 40, .inl (fun _ => 0))), (a 28, .inl (G.2.1 0, 40, .inl (fun _ => 0))), (a 29, .inl (G.2.1 0, 40, .inl (fun _ => 0))), (a 30, .inl (G.2.1 0, 40, .inl (fun _ => 0))), (a 31, .inl (G.2.1 3, 1600, .inl (fun _ => 0))), (a 32, .inl (G.2.1 0, 620, .inl (fun _ => 0))), (a 33, .inl (G.2.1 0, 620, .inl (fun _ => 0))), (a 34, .inl (G.2.1 0, 620, .inl (fun _ => 0))), (a 35, .inl (G.2.1 0, 620, .inl (fun _ => 0))), (a 36, .inl (G.2.1 0, 920, .inl (fun _ => 0))), (a 37, .inl (G.2.1 0, 920, .inl (fun _ => 0))), (a 38, .inl (G.2.1 0, 920, .inl (fun _ => 0))), (a 39, .inl (G.2.1 0, 920, .inl (fun _ => 0))), (a 40, .inl (G.2.1 0, 920, .inl (fun _ => 0))), (a 41, .inl (G.2.1 0, 920, .inl (fun _ => 0))), (a 42, .inl (G.2.1 0, 920, .inl (fun _ => 0))), (a 43, .inl (G.2.1 0, 920, .inl (fun _ => 0))), (a 44, .inl (G.2.1 0, 920, .inl (fun _ => 0))), (a 45, .inl (G.2.1 0, 5000, .inl (fun _ => 0))), (a 46, .inl (G.2.1 0, 5000, .inl (fun _ => 0))), (a 47, .inl (G.2.1 0, 5000, .inl (fun _ => 0))), (a 48, .inl (G.2.1 0, 40, .inl (fun _ => 0))), (a 49, .inl (G.2.1 0, 40, .inl (fun _ => 0))), (a 50, .inl (G.2.1 0, 200, .inl (fun _ => 0))), (a 51, .inl (G.2.1 0, 400, .inl (fun _ => 0))), (a 52, .inl (G.2.1 0, 12000, .inl (fun _ => 0))), (a 53, .inl (G.2.1 0, 620, .inl (fun _ => 0))), (a 54, .inl (G.2.1 0, 204000, .inl (fun _ => 0))), (a 55, .inl (G.2.1 0, 3000, .inl (fun _ => 0))), (a 56, .inl (G.2.1 0, 3000, .inl (fun _ => 0))), (a 57, .inl (G.2.1 0, 3000, .inl (fun _ => 0))), (a 58, .inl (G.2.1 0, 3000, .inl (fun _ => 0))), (a 59, .inl (G.2.1 3, 3000, .inl (fun _ => 0))), (a 60, .inl (G.2.1 0, 3100, .inl (fun _ => 0))), (a 61, .inl (G.2.1 0, 3000, .inl (fun _ => 0))), (a 62, .inl (G.2.1 0, 100, .inl (fun _ => 0))), (a 63, .inl (G.2.1 0, 100, .inl (fun _ => 0))), (a 64, .inl (G.2.1 0, 100, .inl (fun _ => 0))), (a 65, .inl (G.2.1 0, 100, .inl (fun _ => 0))), (a 66, .inl (G.2.1 0, 3200, .inl (fun _ => 0))), (a 67, .inl (G.2.1 3, 3200, .inl (fun _ => 0))), (a 68, .inl (G.2.1 0, 40000, .inl (fun _ => 0))), (a 69, .inl (G.2.1 3, 40000, .inl (fun _ => 0))), (a 70, .inl (G.2.1 0, 2100, .inl (fun _ => 0))), (a 71, .inl (G.2.1 0, 2100, .inl (fun _ => 0))), (a 72, .inl (G.2.1 3, 2100, .inl (fun _ => 0))), (a 73, .inl (G.2.1 0, 3000, .inl (fun _ => 0))), (a 74, .inl (G.2.1 0, 3000, .inl (fun _ => 0))), (a 75, .inl (G.2.1 0, 40, .inl (fun _ => 0))), (a 76, .inl (G.2.1 0, 40, .inl (fun _ => 0))), (a 77, .inl (G.2.1 0, 23000, .inl (fun _ => 0)))]
set_option maxHeartbeats 4000000 in
set_option maxRecDepth 100000 in
/-- JinjaTongueModel() -/
theorem c_Model_init (l : Launch) (G : pT) (h0 : Nat) : PM l G pX0 yX12_init cX12_init 1 none ({ frames := 2, cells := 78, slots := 578524, locals := 60 }) [.ref h0] [(h0, .inr (9, [.int 0, .null, .int 0, .null, .int 0, .null, .null, .null, .null, .int 0, .null, .null, .null, .int 0, .int 0, .int 0, .int 0, .null, .null, .null, .null, .null, .null, .null, .null, .null, .null, .int 0, .null, .null, .null, .int 0, .null, .null, .int 0, .int 0, .null, .null, .null, .null, .null, .null, .null, .null, .int 0, .null, .null, .null, .null, .int 0, .null, .null, .null, .null, .null, .null, .null, .null, .null, .int 0, .int 0, .null, .null, .null, .int 0, .int 0, .int 0, .int 0, .int 0, .int 0, .int 0, .null, .null, .int 0, .int 0, .int 0, .int 0, .int 0, .int 0, .int 0, .int 0, .int 0, .int 0, .int 0, .null, .int 0, .null, .int 0, .null, .null, .null, .null, .null, .null, .null, .null, .null, .int 0, .int 0, .int 0, .null, .int 0, .int 0, .null, .null, .null, .null, .null, .null, .null, .null, .int 0, .null, .null, .null, .int 0, .int 0, .int 0, .int 0, .int 0, .int 0, .int 0, .int 0, .int 0, .int 0, .int 0, .int 0, .null, .int 0, .null, .int 0, .null, .null, .null]))] (fun (v : Option Value) (_ : Nat → Nat) => v = none) (fun a => (h0, .inr (9, mF a)) :: mArr G a) := by
  intro sz
  refine Met.ofW (cc := cX12_init) (maxL := 1) (ret := none) (by decide) rfl ?_
  intro p e s m args below meth c s₁ B hml hv
  obtain ⟨rfl, hsz, hP, hD0, hE, hX⟩ := hv
  have hx := B.exec
  have hb := B.bytes
  have hr := B.returns
  have hts := atoms_spec (ws := Cond.code yX12_init cX12_init 1 none :: pw) B.pre
  have hq : ∀ w ∈ pw, w.before _ s = true := fun w h => hts w (List.mem_cons_of_mem _ h)
  have hown : s.vm.findClass RX12 = some m.cls := findClass_of_methodNamed B.named
  have hlocks := B.notSynchronized
  have hin : meth.name = "<init>" := (name_of_methodNamed B.named B.method).1
  subst hsz
  have hD := hD0.self (sz := s.heap.size)
  have hA : ∀ q : Nat, s.heap.size ≤ q → va_A [(h0, .inr (9, [.int 0, .null, .int 0, .null, .int 0, .null, .null, .null, .null, .int 0, .null, .null, .null, .int 0, .int 0, .int 0, .int 0, .null, .null, .null, .null, .null, .null, .null, .null, .null, .null, .int 0, .null, .null, .null, .int 0, .null, .null, .int 0, .int 0, .null, .null, .null, .null, .null, .null, .null, .null, .int 0, .null, .null, .null, .null, .int 0, .null, .null, .null, .null, .null, .null, .null, .null, .null, .int 0, .int 0, .null, .null, .null, .int 0, .int 0, .int 0, .int 0, .int 0, .int 0, .int 0, .null, .null, .int 0, .int 0, .int 0, .int 0, .int 0, .int 0, .int 0, .int 0, .int 0, .int 0, .int 0, .null, .int 0, .null, .int 0, .null, .null, .null, .null, .null, .null, .null, .null, .null, .int 0, .int 0, .int 0, .null, .int 0, .int 0, .null, .null, .null, .null, .null, .null, .null, .null, .int 0, .null, .null, .null, .int 0, .int 0, .int 0, .int 0, .int 0, .int 0, .int 0, .int 0, .int 0, .int 0, .int 0, .int 0, .null, .int 0, .null, .int 0, .null, .null, .null]))] s.heap.size q := fun q h => Or.inr h
  have hP : va_P G.1 pCl [(h0, .inr (9, [.int 0, .null, .int 0, .null, .int 0, .null, .null, .null, .null, .int 0, .null, .null, .null, .int 0, .int 0, .int 0, .int 0, .null, .null, .null, .null, .null, .null, .null, .null, .null, .null, .int 0, .null, .null, .null, .int 0, .null, .null, .int 0, .int 0, .null, .null, .null, .null, .null, .null, .null, .null, .int 0, .null, .null, .null, .null, .int 0, .null, .null, .null, .null, .null, .null, .null, .null, .null, .int 0, .int 0, .null, .null, .null, .int 0, .int 0, .int 0, .int 0, .int 0, .int 0, .int 0, .null, .null, .int 0, .int 0, .int 0, .int 0, .int 0, .int 0, .int 0, .int 0, .int 0, .int 0, .int 0, .null, .int 0, .null, .int 0, .null, .null, .null, .null, .null, .null, .null, .null, .null, .int 0, .int 0, .int 0, .null, .int 0, .int 0, .null, .null, .null, .null, .null, .null, .null, .null, .int 0, .null, .null, .null, .int 0, .int 0, .int 0, .int 0, .int 0, .int 0, .int 0, .int 0, .int 0, .int 0, .int 0, .int 0, .null, .int 0, .null, .int 0, .null, .null, .null]))] s.heap := hP
  generalize va_A [(h0, .inr (9, [.int 0, .null, .int 0, .null, .int 0, .null, .null, .null, .null, .int 0, .null, .null, .null, .int 0, .int 0, .int 0, .int 0, .null, .null, .null, .null, .null, .null, .null, .null, .null, .null, .int 0, .null, .null, .null, .int 0, .null, .null, .int 0, .int 0, .null, .null, .null, .null, .null, .null, .null, .null, .int 0, .null, .null, .null, .null, .int 0, .null, .null, .null, .null, .null, .null, .null, .null, .null, .int 0, .int 0, .null, .null, .null, .int 0, .int 0, .int 0, .int 0, .int 0, .int 0, .int 0, .null, .null, .int 0, .int 0, .int 0, .int 0, .int 0, .int 0, .int 0, .int 0, .int 0, .int 0, .int 0, .null, .int 0, .null, .int 0, .null, .null, .null, .null, .null, .null, .null, .null, .null, .int 0, .int 0, .int 0, .null, .int 0, .int 0, .null, .null, .null, .null, .null, .null, .null, .null, .int 0, .null, .null, .null, .int 0, .int 0, .int 0, .int 0, .int 0, .int 0, .int 0, .int 0, .int 0, .int 0, .int 0, .int 0, .null, .int 0, .null, .int 0, .null, .null, .null]))] s.heap.size = A at hD hE hA ⊢
  have hS : va_S A s.heap s.heap [] := va_S.rf
  have hl := lv_entry ([.ref h0]) (n := 1) (Nat.le_of_ble_eq_true rfl)
  rw [lg_entry_eq]
  generalize (lg_sl ([.ref h0]) ++ List.replicate (1 - (lg_sl ([.ref h0])).length) Slot.unset).toArray = ls at hl ⊢
  have hl : lv_has ls 1 [(0, .ref h0)] := hl
  obtain ⟨fs, e0⟩ : ∃ z : List Value, z = [.int 0, .null, .int 0, .null, .int 0, .null, .null, .null, .null, .int 0, .null, .null, .null, .int 0, .int 0, .int 0, .int 0, .null, .null, .null, .null, .null, .null, .null, .null, .null, .null, .int 0, .null, .null, .null, .int 0, .null, .null, .int 0, .int 0, .null, .null, .null, .null, .null, .null, .null, .null, .int 0, .null, .null, .null, .null, .int 0, .null, .null, .null, .null, .null, .null, .null, .null, .null, .int 0, .int 0, .null, .null, .null, .int 0, .int 0, .int 0, .int 0, .int 0, .int 0, .int 0, .null, .null, .int 0, .int 0, .int 0, .int 0, .int 0, .int 0, .int 0, .int 0, .int 0, .int 0, .int 0, .null, .int 0, .null, .int 0, .null, .null, .null, .null, .null, .null, .null, .null, .null, .int 0, .int 0, .int 0, .null, .int 0, .int 0, .null, .null, .null, .null, .null, .null, .null, .null, .int 0, .null, .null, .null, .int 0, .int 0, .int 0, .int 0, .int 0, .int 0, .int 0, .int 0, .int 0, .int 0, .int 0, .int 0, .null, .int 0, .null, .int 0, .null, .null, .null] := ⟨_, rfl⟩
  have hn : fs.length = 134 := by rw [e0]; rfl
  obtain ⟨wa, ew0⟩ : ∃ z : va_W, z = [] := ⟨_, rfl⟩
  have hP : va_P G.1 pCl ((h0, .inr (9, fs)) :: wa) s.heap := by rw [e0, ew0]; exact hP
  have hD : va_D A ((h0, .inr (9, fs)) :: wa) := by rw [e0, ew0]; exact hD
  refine lv_aload_n hx hb dX12_init_0 rfl (lv_at hl 0 rfl) ?_
  refine W.objInit hx hb hown (hq _ pw_177) (hq _ pw_634) (hq _ pw_635) rfl (by rw [hml]; exact hl.1) rfl dX12_init_1 (Nat.le_of_ble_eq_true rfl) (Nat.le_of_ble_eq_true rfl) ?_
  refine W.eq (g2 := F0 m 4 ls []) rfl ?_
  refine lv_aload_n hx hb dX12_init_4 rfl (lv_at hl 0 rfl) ?_
  refine lv_sipush (v := 5000) hx hb dX12_init_5 (by decide) ?_
  refine pn_newa (G := G) (atype := .int) (a0 := (5000, .inl (fun _ => 0))) (N' := 5000) hx hb (hq _ pw_636) rfl hE.1.2.1 hP hD hS hA (fun _ => rfl) (by decide) (by decide) (by decide) (Nat.le_of_ble_eq_true rfl) (Nat.le_of_ble_eq_true rfl) dX12_init_8 (fun q1 H hP hD hS => ?_)
  obtain ⟨wa2, ew3⟩ : ∃ z : va_W, z = wa ++ [(q1, .inl (G.2.1 0, 5000, .inl (fun _ => 0)))] := ⟨_, rfl⟩
  have hP : va_P G.1 pCl ((h0, .inr (9, fs)) :: wa2) H := by rw [ew3]; exact hP
  have hD : va_D A ((h0, .inr (9, fs)) :: wa2) := by rw [ew3]; exact hD
  refine W.widen (k := 1) (n := 5000) (Nat.le_of_ble_eq_true rfl) (Nat.le_of_ble_eq_true rfl) ?_
  refine va_putF (D := G.1) (ci := 9) (v := .ref q1) (ty := (.array .int)) (C := RX12) (T := TX12) (N := 134) hx hb hq pin_wsX120 tyX12 tyX12_ok nmX12 hown hE.1.1 hP hD hS 0 rfl rfl 1 (by decide) (by rw [tFX12_1]; exact hq _ pw_178) (fun _ h9 => h9) (by rw [tFX12_1]) hin (by rw [tFX12_1]; rfl) (by rw [tFX12_1]; decide +kernel) rfl rfl (by rw [hn]; decide) dX12_init_10 (fun H locs hP hD hS => ?_)
  obtain ⟨fs4, e5⟩ : ∃ z : List Value, z = fs.set 1 (.ref q1) := ⟨_, rfl⟩
  have hn6 : fs4.length = 134 := by rw [e5, List.length_set]; exact hn
  have hP : va_P G.1 pCl ((h0, .inr (9, fs4)) :: wa2) H := by rw [e5]; exact hP
  have hD : va_D A ((h0, .inr (9, fs4)) :: wa2) := by rw [e5]; exact hD
  refine lv_aload_n hx hb dX12_init_13 rfl (lv_at hl 0 rfl) ?_
  refine lv_sipush (v := 5000) hx hb dX12_init_14 (by decide) ?_
  refine pn_newa (G := G) (atype := .int) (a0 := (5000, .inl (fun _ => 0))) (N' := 5000) hx hb (hq _ pw_636) rfl hE.1.2.1 hP hD hS hA (fun _ => rfl) (by decide) (by decide) (by decide) (Nat.le_of_ble_eq_true rfl) (Nat.le_of_ble_eq_true rfl) dX12_init_17 (fun q7 H hP hD hS => ?_)
  obtain ⟨wa8, ew9⟩ : ∃ z : va_W, z = wa2 ++ [(q7, .inl (G.2.1 0, 5000, .inl (fun _ => 0)))] := ⟨_, rfl⟩
  have hP : va_P G.1 pCl ((h0, .inr (9, fs4)) :: wa8) H := by rw [ew9]; exact hP
  have hD : va_D A ((h0, .inr (9, fs4)) :: wa8) := by rw [ew9]; exact hD
  refine W.widen (k := 2) (n := 10000) (Nat.le_of_ble_eq_true rfl) (Nat.le_of_ble_eq_true rfl) ?_
  refine va_putF (D := G.1) (ci := 9) (v := .ref q7) (ty := (.array .int)) (C := RX12) (T := TX12) (N := 134) hx hb hq pin_wsX120 tyX12 tyX12_ok nmX12 hown hE.1.1 hP hD hS 0 rfl rfl 3 (by decide) (by rw [tFX12_3]; exact hq _ pw_179) (fun _ h9 => h9) (by rw [tFX12_3]) hin (by rw [tFX12_3]; rfl) (by rw [tFX12_3]; decide +kernel) rfl rfl (by rw [hn6]; decide) dX12_init_19 (fun H locs hP hD hS => ?_)
  obtain ⟨fs10, e11⟩ : ∃ z : List Value, z = fs4.set 3 (.ref q7) := ⟨_, rfl⟩
  have hn12 : fs10.length = 134 := by rw [e11, List.length_set]; exact hn6
  have hP : va_P G.1 pCl ((h0, .inr (9, fs10)) :: wa8) H := by rw [e11]; exact hP
  have hD : va_D A ((h0, .inr (9, fs10)) :: wa8) := by rw [e11]; exact hD
  refine lv_aload_n hx hb dX12_init_22 rfl (lv_at hl 0 rfl) ?_
  refine lv_sipush (v := 5001) hx hb dX12_init_23 (by decide) ?_
  refine pn_newa (G := G) (atype := .int) (a0 := (5001, .inl (fun _ => 0))) (N' := 5001) hx hb (hq _ pw_636) rfl hE.1.2.1 hP hD hS hA (fun _ => rfl) (by decide) (by decide) (by decide) (Nat.le_of_ble_eq_true rfl) (Nat.le_of_ble_eq_true rfl) dX12_init_26 (fun q13 H hP hD hS => ?_)
  obtain ⟨wa14, ew15⟩ : ∃ z : va_W, z = wa8 ++ [(q13, .inl (G.2.1 0, 5001, .inl (fun _ => 0)))] := ⟨_, rfl⟩
  have hP : va_P G.1 pCl ((h0, .inr (9, fs10)) :: wa14) H := by rw [ew15]; exact hP
  have hD : va_D A ((h0, .inr (9, fs10)) :: wa14) := by rw [ew15]; exact hD
  refine W.widen (k := 3) (n := 15001) (Nat.le_of_ble_eq_true rfl) (Nat.le_of_ble_eq_true rfl) ?_
  refine va_putF (D := G.1) (ci := 9) (v := .ref q13) (ty := (.array .int)) (C := RX12) (T := TX12) (N := 134) hx hb hq pin_wsX120 tyX12 tyX12_ok nmX12 hown hE.1.1 hP hD hS 0 rfl rfl 5 (by decide) (by rw [tFX12_5]; exact hq _ pw_180) (fun _ h9 => h9) (by rw [tFX12_5]) hin (by rw [tFX12_5]; rfl) (by rw [tFX12_5]; decide +kernel) rfl rfl (by rw [hn12]; decide) dX12_init_28 (fun H locs hP hD hS => ?_)
  obtain ⟨fs16, e17⟩ : ∃ z : List Value, z = fs10.set 5 (.ref q13) := ⟨_, rfl⟩
  have hn18 : fs16.length = 134 := by rw [e17, List.length_set]; exact hn12
  have hP : va_P G.1 pCl ((h0, .inr (9, fs16)) :: wa14) H := by rw [e17]; exact hP
  have hD : va_D A ((h0, .inr (9, fs16)) :: wa14) := by rw [e17]; exact hD
  refine lv_aload_n hx hb dX12_init_31 rfl (lv_at hl 0 rfl) ?_
  refine lv_sipush (v := 5001) hx hb dX12_init_32 (by decide) ?_
  refine pn_newa (G := G) (atype := .int) (a0 := (5001, .inl (fun _ => 0))) (N' := 5001) hx hb (hq _ pw_636) rfl hE.1.2.1 hP hD hS hA (fun _ => rfl) (by decide) (by decide) (by decide) (Nat.le_of_ble_eq_true rfl) (Nat.le_of_ble_eq_true rfl) dX12_init_35 (fun q19 H hP hD hS => ?_)
  obtain ⟨wa20, ew21⟩ : ∃ z : va_W, z = wa14 ++ [(q19, .inl (G.2.1 0, 5001, .inl (fun _ => 0)))] := ⟨_, rfl⟩
  have hP : va_P G.1 pCl ((h0, .inr (9, fs16)) :: wa20) H := by rw [ew21]; exact hP
  have hD : va_D A ((h0, .inr (9, fs16)) :: wa20) := by rw [ew21]; exact hD
  refine W.widen (k := 4) (n := 20002) (Nat.le_of_ble_eq_true rfl) (Nat.le_of_ble_eq_true rfl) ?_
  refine va_putF (D := G.1) (ci := 9) (v := .ref q19) (ty := (.array .int)) (C := RX12) (T := TX12) (N := 134) hx hb hq pin_wsX120 tyX12 tyX12_ok nmX12 hown hE.1.1 hP hD hS 0 rfl rfl 6 (by decide) (by rw [tFX12_6]; exact hq _ pw_181) (fun _ h9 => h9) (by rw [tFX12_6]) hin (by rw [tFX12_6]; rfl) (by rw [tFX12_6]; decide +kernel) rfl rfl (by rw [hn18]; decide) dX12_init_37 (fun H locs hP hD hS => ?_)
  obtain ⟨fs22, e23⟩ : ∃ z : List Value, z = fs16.set 6 (.ref q19) := ⟨_, rfl⟩
  have hn24 : fs22.length = 134 := by rw [e23, List.length_set]; exact hn18
  have hP : va_P G.1 pCl ((h0, .inr (9, fs22)) :: wa20) H := by rw [e23]; exact hP
  have hD : va_D A ((h0, .inr (9, fs22)) :: wa20) := by rw [e23]; exact hD
  refine lv_aload_n hx hb dX12_init_40 rfl (lv_at hl 0 rfl) ?_
  refine lv_sipush (v := 5001) hx hb dX12_init_41 (by decide) ?_
  refine pn_newa (G := G) (atype := .int) (a0 := (5001, .inl (fun _ => 0))) (N' := 5001) hx hb (hq _ pw_636) rfl hE.1.2.1 hP hD hS hA (fun _ => rfl) (by decide) (by decide) (by decide) (Nat.le_of_ble_eq_true rfl) (Nat.le_of_ble_eq_true rfl) dX12_init_44 (fun q25 H hP hD hS => ?_)
  obtain ⟨wa26, ew27⟩ : ∃ z : va_W, z = wa20 ++ [(q25, .inl (G.2.1 0, 5001, .inl (fun _ => 0)))] := ⟨_, rfl⟩
  have hP : va_P G.1 pCl ((h0, .inr (9, fs22)) :: wa26) H := by rw [ew27]; exact hP
  have hD : va_D A ((h0, .inr (9, fs22)) :: wa26) := by rw [ew27]; exact hD
  refine W.widen (k := 5) (n := 25003) (Nat.le_of_ble_eq_true rfl) (Nat.le_of_ble_eq_true rfl) ?_
  refine va_putF (D := G.1) (ci := 9) (v := .ref q25) (ty := (.array .int)) (C := RX12) (T := TX12) (N := 134) hx hb hq pin_wsX120 tyX12 tyX12_ok nmX12 hown hE.1.1 hP hD hS 0 rfl rfl 7 (by decide) (by rw [tFX12_7]; exact hq _ pw_182) (fun _ h9 => h9) (by rw [tFX12_7]) hin (by rw [tFX12_7]; rfl) (by rw [tFX12_7]; decide +kernel) rfl rfl (by rw [hn24]; decide) dX12_init_46 (fun H locs hP hD hS => ?_)
  obtain ⟨fs28, e29⟩ : ∃ z : List Value, z = fs22.set 7 (.ref q25) := ⟨_, rfl⟩
  have hn30 : fs28.length = 134 := by rw [e29, List.length_set]; exact hn24
  have hP : va_P G.1 pCl ((h0, .inr (9, fs28)) :: wa26) H := by rw [e29]; exact hP
  have hD : va_D A ((h0, .inr (9, fs28)) :: wa26) := by rw [e29]; exact hD
  refine lv_aload_n hx hb dX12_init_49 rfl (lv_at hl 0 rfl) ?_
  refine lv_sipush (v := 5001) hx hb dX12_init_50 (by decide) ?_
  refine pn_newa (G := G) (atype := .int) (a0 := (5001, .inl (fun _ => 0))) (N' := 5001) hx hb (hq _ pw_636) rfl hE.1.2.1 hP hD hS hA (fun _ => rfl) (by decide) (by decide) (by decide) (Nat.le_of_ble_eq_true rfl) (Nat.le_of_ble_eq_true rfl) dX12_init_53 (fun q31 H hP hD hS => ?_)
  obtain ⟨wa32, ew33⟩ : ∃ z : va_W, z = wa26 ++ [(q31, .inl (G.2.1 0, 5001, .inl (fun _ => 0)))] := ⟨_, rfl⟩
  have hP : va_P G.1 pCl ((h0, .inr (9, fs28)) :: wa32) H := by rw [ew33]; exact hP
  have hD : va_D A ((h0, .inr (9, fs28)) :: wa32) := by rw [ew33]; exact hD
  refine W.widen (k := 6) (n := 30004) (Nat.le_of_ble_eq_true rfl) (Nat.le_of_ble_eq_true rfl) ?_
  refine va_putF (D := G.1) (ci := 9) (v := .ref q31) (ty := (.array .int)) (C := RX12) (T := TX12) (N := 134) hx hb hq pin_wsX120 tyX12 tyX12_ok nmX12 hown hE.1.1 hP hD hS 0 rfl rfl 8 (by decide) (by rw [tFX12_8]; exact hq _ pw_183) (fun _ h9 => h9) (by rw [tFX12_8]) hin (by rw [tFX12_8]; rfl) (by rw [tFX12_8]; decide +kernel) rfl rfl (by rw [hn30]; decide) dX12_init_55 (fun H locs hP hD hS => ?_)
  obtain ⟨fs34, e35⟩ : ∃ z : List Value, z = fs28.set 8 (.ref q31) := ⟨_, rfl⟩
  have hn36 : fs34.length = 134 := by rw [e35, List.length_set]; exact hn30
  have hP : va_P G.1 pCl ((h0, .inr (9, fs34)) :: wa32) H := by rw [e35]; exact hP
  have hD : va_D A ((h0, .inr (9, fs34)) :: wa32) := by rw [e35]; exact hD
  refine lv_aload_n hx hb dX12_init_58 rfl (lv_at hl 0 rfl) ?_
  refine lv_sipush (v := 5100) hx hb dX12_init_59 (by decide) ?_
  refine pn_newa (G := G) (atype := .int) (a0 := (5100, .inl (fun _ => 0))) (N' := 5100) hx hb (hq _ pw_636) rfl hE.1.2.1 hP hD hS hA (fun _ => rfl) (by decide) (by decide) (by decide) (Nat.le_of_ble_eq_true rfl) (Nat.le_of_ble_eq_true rfl) dX12_init_62 (fun q37 H hP hD hS => ?_)
  have en38 : fs34 = [.int 0, .ref q1, .int 0, .ref q7, .int 0, .ref q13, .ref q19, .ref q25, .ref q31, .int 0, .null, .null, .null, .int 0, .int 0, .int 0, .int 0, .null, .null, .null, .null, .null, .null, .null, .null, .null, .null, .int 0, .null, .null, .null, .int 0, .null, .null, .int 0, .int 0, .null, .null, .null, .null, .null, .null, .null, .null, .int 0, .null, .null, .null, .null, .int 0, .null, .null, .null, .null, .null, .null, .null, .null, .null, .int 0, .int 0, .null, .null, .null, .int 0, .int 0, .int 0, .int 0, .int 0, .int 0, .int 0, .null, .null, .int 0, .int 0, .int 0, .int 0, .int 0, .int 0, .int 0, .int 0, .int 0, .int 0, .int 0, .null, .int 0, .null, .int 0, .null, .null, .null, .null, .null, .null, .null, .null, .null, .int 0, .int 0, .int 0, .null, .int 0, .int 0, .null, .null, .null, .null, .null, .null, .null, .null, .int 0, .null, .null, .null, .int 0, .int 0, .int 0, .int 0, .int 0, .int 0, .int 0, .int 0, .int 0, .int 0, .int 0, .int 0, .null, .int 0, .null, .int 0, .null, .null, .null] := by rw [e35, e29, e23, e17, e11, e5, e0]; rfl
  have en39 : wa32 = [(q1, .inl (G.2.1 0, 5000, .inl (fun _ => 0))), (q7, .inl (G.2.1 0, 5000, .inl (fun _ => 0))), (q13, .inl (G.2.1 0, 5001, .inl (fun _ => 0))), (q19, .inl (G.2.1 0, 5001, .inl (fun _ => 0))), (q25, .inl (G.2.1 0, 5001, .inl (fun _ => 0))), (q31, .inl (G.2.1 0, 5001, .inl (fun _ => 0)))] := by rw [ew33, ew27, ew21, ew15, ew9, ew3, ew0]; rfl
  obtain ⟨wa40, ew41⟩ : ∃ z : va_W, z = wa32 ++ [(q37, .inl (G.2.1 0, 5100, .inl (fun _ => 0)))] := ⟨_, rfl⟩
  have hP : va_P G.1 pCl ((h0, .inr (9, fs34)) :: wa40) H := by rw [ew41]; exact hP
  have hD : va_D A ((h0, .inr (9, fs34)) :: wa40) := by rw [ew41]; exact hD
  refine W.widen (k := 7) (n := 35104) (Nat.le_of_ble_eq_true rfl) (Nat.le_of_ble_eq_true rfl) ?_
  refine va_putF (D := G.1) (ci := 9) (v := .ref q37) (ty := (.array .int)) (C := RX12) (T := TX12) (N := 134) hx hb hq pin_wsX120 tyX12 tyX12_ok nmX12 hown hE.1.1 hP hD hS 0 rfl rfl 10 (by decide) (by rw [tFX12_10]; exact hq _ pw_184) (fun _ h9 => h9) (by rw [tFX12_10]) hin (by rw [tFX12_10]; rfl) (by rw [tFX12_10]; decide +kernel) rfl rfl (by rw [hn36]; decide) dX12_init_64 (fun H locs hP hD hS => ?_)
  obtain ⟨fs42, e43⟩ : ∃ z : List Value, z = fs34.set 10 (.ref q37) := ⟨_, rfl⟩
  have hn44 : fs42.length = 134 := by rw [e43, List.length_set]; exact hn36
  have hP : va_P G.1 pCl ((h0, .inr (9, fs42)) :: wa40) H := by rw [e43]; exact hP
  have hD : va_D A ((h0, .inr (9, fs42)) :: wa40) := by rw [e43]; exact hD
  refine lv_aload_n hx hb dX12_init_67 rfl (lv_at hl 0 rfl) ?_
  refine lv_sipush (v := 5100) hx hb dX12_init_68 (by decide) ?_
  refine pn_newa (G := G) (atype := .int) (a0 := (5100, .inl (fun _ => 0))) (N' := 5100) hx hb (hq _ pw_636) rfl hE.1.2.1 hP hD hS hA (fun _ => rfl) (by decide) (by decide) (by decide) (Nat.le_of_ble_eq_true rfl) (Nat.le_of_ble_eq_true rfl) dX12_init_71 (fun q45 H hP hD hS => ?_)
  obtain ⟨wa46, ew47⟩ : ∃ z : va_W, z = wa40 ++ [(q45, .inl (G.2.1 0, 5100, .inl (fun _ => 0)))] := ⟨_, rfl⟩
  have hP : va_P G.1 pCl ((h0, .inr (9, fs42)) :: wa46) H := by rw [ew47]; exact hP
  have hD : va_D A ((h0, .inr (9, fs42)) :: wa46) := by rw [ew47]; exact hD
  refine W.widen (k := 8) (n := 40204) (Nat.le_of_ble_eq_true rfl) (Nat.le_of_ble_eq_true rfl) ?_
  refine va_putF (D := G.1) (ci := 9) (v := .ref q45) (ty := (.array .int)) (C := RX12) (T := TX12) (N := 134) hx hb hq pin_wsX120 tyX12 tyX12_ok nmX12 hown hE.1.1 hP hD hS 0 rfl rfl 11 (by decide) (by rw [tFX12_11]; exact hq _ pw_185) (fun _ h9 => h9) (by rw [tFX12_11]) hin (by rw [tFX12_11]; rfl) (by rw [tFX12_11]; decide +kernel) rfl rfl (by rw [hn44]; decide) dX12_init_73 (fun H locs hP hD hS => ?_)
  obtain ⟨fs48, e49⟩ : ∃ z : List Value, z = fs42.set 11 (.ref q45) := ⟨_, rfl⟩
  have hn50 : fs48.length = 134 := by rw [e49, List.length_set]; exact hn44
  have hP : va_P G.1 pCl ((h0, .inr (9, fs48)) :: wa46) H := by rw [e49]; exact hP
  have hD : va_D A ((h0, .inr (9, fs48)) :: wa46) := by rw [e49]; exact hD
  refine lv_aload_n hx hb dX12_init_76 rfl (lv_at hl 0 rfl) ?_
  refine lv_sipush (v := 5100) hx hb dX12_init_77 (by decide) ?_
  refine pn_newa (G := G) (atype := .byte) (a0 := (5100, .inl (fun _ => 0))) (N' := 5100) hx hb (hq _ pw_661) rfl hE.1.2.2.1 hP hD hS hA (fun _ => rfl) (by decide) (by decide) (by decide) (Nat.le_of_ble_eq_true rfl) (Nat.le_of_ble_eq_true rfl) dX12_init_80 (fun q51 H hP hD hS => ?_)
  obtain ⟨wa52, ew53⟩ : ∃ z : va_W, z = wa46 ++ [(q51, .inl (G.2.1 1, 5100, .inl (fun _ => 0)))] := ⟨_, rfl⟩
  have hP : va_P G.1 pCl ((h0, .inr (9, fs48)) :: wa52) H := by rw [ew53]; exact hP
  have hD : va_D A ((h0, .inr (9, fs48)) :: wa52) := by rw [ew53]; exact hD
  refine W.widen (k := 9) (n := 45304) (Nat.le_of_ble_eq_true rfl) (Nat.le_of_ble_eq_true rfl) ?_
  refine va_putF (D := G.1) (ci := 9) (v := .ref q51) (ty := (.array .byte)) (C := RX12) (T := TX12) (N := 134) hx hb hq pin_wsX120 tyX12 tyX12_ok nmX12 hown hE.1.1 hP hD hS 0 rfl rfl 12 (by decide) (by rw [tFX12_12]; exact hq _ pw_186) (fun _ h9 => h9) (by rw [tFX12_12]) hin (by rw [tFX12_12]; rfl) (by rw [tFX12_12]; decide +kernel) rfl rfl (by rw [hn50]; decide) dX12_init_82 (fun H locs hP hD hS => ?_)
  obtain ⟨fs54, e55⟩ : ∃ z : List Value, z = fs48.set 12 (.ref q51) := ⟨_, rfl⟩
  have hn56 : fs54.length = 134 := by rw [e55, List.length_set]; exact hn50
  have hP : va_P G.1 pCl ((h0, .inr (9, fs54)) :: wa52) H := by rw [e55]; exact hP
  have hD : va_D A ((h0, .inr (9, fs54)) :: wa52) := by rw [e55]; exact hD
  refine lv_aload_n hx hb dX12_init_85 rfl (lv_at hl 0 rfl) ?_
  refine lv_sipush (v := 12000) hx hb dX12_init_86 (by decide) ?_
  refine pn_newa (G := G) (atype := .int) (a0 := (12000, .inl (fun _ => 0))) (N' := 12000) hx hb (hq _ pw_636) rfl hE.1.2.1 hP hD hS hA (fun _ => rfl) (by decide) (by decide) (by decide) (Nat.le_of_ble_eq_true rfl) (Nat.le_of_ble_eq_true rfl) dX12_init_89 (fun q57 H hP hD hS => ?_)
  obtain ⟨wa58, ew59⟩ : ∃ z : va_W, z = wa52 ++ [(q57, .inl (G.2.1 0, 12000, .inl (fun _ => 0)))] := ⟨_, rfl⟩
  have hP : va_P G.1 pCl ((h0, .inr (9, fs54)) :: wa58) H := by rw [ew59]; exact hP
  have hD : va_D A ((h0, .inr (9, fs54)) :: wa58) := by rw [ew59]; exact hD
  refine W.widen (k := 10) (n := 57304) (Nat.le_of_ble_eq_true rfl) (Nat.le_of_ble_eq_true rfl) ?_
  refine va_putF (D := G.1) (ci := 9) (v := .ref q57) (ty := (.array .int)) (C := RX12) (T := TX12) (N := 134) hx hb hq pin_wsX120 tyX12 tyX12_ok nmX12 hown hE.1.1 hP hD hS 0 rfl rfl 17 (by decide) (by rw [tFX12_17]; exact hq _ pw_187) (fun _ h9 => h9) (by rw [tFX12_17]) hin (by rw [tFX12_17]; rfl) (by rw [tFX12_17]; decide +kernel) rfl rfl (by rw [hn56]; decide) dX12_init_91 (fun H locs hP hD hS => ?_)
  obtain ⟨fs60, e61⟩ : ∃ z : List Value, z = fs54.set 17 (.ref q57) := ⟨_, rfl⟩
  have hn62 : fs60.length = 134 := by rw [e61, List.length_set]; exact hn56
  have hP : va_P G.1 pCl ((h0, .inr (9, fs60)) :: wa58) H := by rw [e61]; exact hP
  have hD : va_D A ((h0, .inr (9, fs60)) :: wa58) := by rw [e61]; exact hD
  refine lv_aload_n hx hb dX12_init_94 rfl (lv_at hl 0 rfl) ?_
  refine lv_sipush (v := 12000) hx hb dX12_init_95 (by decide) ?_
  refine pn_newa (G := G) (atype := .int) (a0 := (12000, .inl (fun _ => 0))) (N' := 12000) hx hb (hq _ pw_636) rfl hE.1.2.1 hP hD hS hA (fun _ => rfl) (by decide) (by decide) (by decide) (Nat.le_of_ble_eq_true rfl) (Nat.le_of_ble_eq_true rfl) dX12_init_98 (fun q63 H hP hD hS => ?_)
  obtain ⟨wa64, ew65⟩ : ∃ z : va_W, z = wa58 ++ [(q63, .inl (G.2.1 0, 12000, .inl (fun _ => 0)))] := ⟨_, rfl⟩
  have hP : va_P G.1 pCl ((h0, .inr (9, fs60)) :: wa64) H := by rw [ew65]; exact hP
  have hD : va_D A ((h0, .inr (9, fs60)) :: wa64) := by rw [ew65]; exact hD
  refine W.widen (k := 11) (n := 69304) (Nat.le_of_ble_eq_true rfl) (Nat.le_of_ble_eq_true rfl) ?_
  refine va_putF (D := G.1) (ci := 9) (v := .ref q63) (ty := (.array .int)) (C := RX12) (T := TX12) (N := 134) hx hb hq pin_wsX120 tyX12 tyX12_ok nmX12 hown hE.1.1 hP hD hS 0 rfl rfl 18 (by decide) (by rw [tFX12_18]; exact hq _ pw_188) (fun _ h9 => h9) (by rw [tFX12_18]) hin (by rw [tFX12_18]; rfl) (by rw [tFX12_18]; decide +kernel) rfl rfl (by rw [hn62]; decide) dX12_init_100 (fun H locs hP hD hS => ?_)
  obtain ⟨fs66, e67⟩ : ∃ z : List Value, z = fs60.set 18 (.ref q63) := ⟨_, rfl⟩
  have hn68 : fs66.length = 134 := by rw [e67, List.length_set]; exact hn62
  have hP : va_P G.1 pCl ((h0, .inr (9, fs66)) :: wa64) H := by rw [e67]; exact hP
  have hD : va_D A ((h0, .inr (9, fs66)) :: wa64) := by rw [e67]; exact hD
  refine lv_aload_n hx hb dX12_init_103 rfl (lv_at hl 0 rfl) ?_
  refine lv_sipush (v := 12000) hx hb dX12_init_104 (by decide) ?_
  refine pn_newa (G := G) (atype := .int) (a0 := (12000, .inl (fun _ => 0))) (N' := 12000) hx hb (hq _ pw_636) rfl hE.1.2.1 hP hD hS hA (fun _ => rfl) (by decide) (by decide) (by decide) (Nat.le_of_ble_eq_true rfl) (Nat.le_of_ble_eq_true rfl) dX12_init_107 (fun q69 H hP hD hS => ?_)
  obtain ⟨wa70, ew71⟩ : ∃ z : va_W, z = wa64 ++ [(q69, .inl (G.2.1 0, 12000, .inl (fun _ => 0)))] := ⟨_, rfl⟩
  have hP : va_P G.1 pCl ((h0, .inr (9, fs66)) :: wa70) H := by rw [ew71]; exact hP
  have hD : va_D A ((h0, .inr (9, fs66)) :: wa70) := by rw [ew71]; exact hD
  refine W.widen (k := 12) (n := 81304) (Nat.le_of_ble_eq_true rfl) (Nat.le_of_ble_eq_true rfl) ?_
  refine va_putF (D := G.1) (ci := 9) (v := .ref q69) (ty := (.array .int)) (C := RX12) (T := TX12) (N := 134) hx hb hq pin_wsX120 tyX12 tyX12_ok nmX12 hown hE.1.1 hP hD hS 0 rfl rfl 19 (by decide) (by rw [tFX12_19]; exact hq _ pw_189) (fun _ h9 => h9) (by rw [tFX12_19]) hin (by rw [tFX12_19]; rfl) (by rw [tFX12_19]; decide +kernel) rfl rfl (by rw [hn68]; decide) dX12_init_109 (fun H locs hP hD hS => ?_)
  obtain ⟨fs72, e73⟩ : ∃ z : List Value, z = fs66.set 19 (.ref q69) := ⟨_, rfl⟩
  have hn74 : fs72.length = 134 := by rw [e73, List.length_set]; exact hn68
  have hP : va_P G.1 pCl ((h0, .inr (9, fs72)) :: wa70) H := by rw [e73]; exact hP
  have hD : va_D A ((h0, .inr (9, fs72)) :: wa70) := by rw [e73]; exact hD
  refine lv_aload_n hx hb dX12_init_112 rfl (lv_at hl 0 rfl) ?_
  refine lv_sipush (v := 12000) hx hb dX12_init_113 (by decide) ?_
  refine pn_newa (G := G) (atype := .int) (a0 := (12000, .inl (fun _ => 0))) (N' := 12000) hx hb (hq _ pw_636) rfl hE.1.2.1 hP hD hS hA (fun _ => rfl) (by decide) (by decide) (by decide) (Nat.le_of_ble_eq_true rfl) (Nat.le_of_ble_eq_true rfl) dX12_init_116 (fun q75 H hP hD hS => ?_)
  have en76 : fs72 = [.int 0, .ref q1, .int 0, .ref q7, .int 0, .ref q13, .ref q19, .ref q25, .ref q31, .int 0, .ref q37, .ref q45, .ref q51, .int 0, .int 0, .int 0, .int 0, .ref q57, .ref q63, .ref q69, .null, .null, .null, .null, .null, .null, .null, .int 0, .null, .null, .null, .int 0, .null, .null, .int 0, .int 0, .null, .null, .null, .null, .null, .null, .null, .null, .int 0, .null, .null, .null, .null, .int 0, .null, .null, .null, .null, .null, .null, .null, .null, .null, .int 0, .int 0, .null, .null, .null, .int 0, .int 0, .int 0, .int 0, .int 0, .int 0, .int 0, .null, .null, .int 0, .int 0, .int 0, .int 0, .int 0, .int 0, .int 0, .int 0, .int 0, .int 0, .int 0, .null, .int 0, .null, .int 0, .null, .null, .null, .null, .null, .null, .null, .null, .null, .int 0, .int 0, .int 0, .null, .int 0, .int 0, .null, .null, .null, .null, .null, .null, .null, .null, .int 0, .null, .null, .null, .int 0, .int 0, .int 0, .int 0, .int 0, .int 0, .int 0, .int 0, .int 0, .int 0, .int 0, .int 0, .null, .int 0, .null, .int 0, .null, .null, .null] := by rw [e73, e67, e61, e55, e49, e43, en38]; rfl
  have en77 : wa70 = [(q1, .inl (G.2.1 0, 5000, .inl (fun _ => 0))), (q7, .inl (G.2.1 0, 5000, .inl (fun _ => 0))), (q13, .inl (G.2.1 0, 5001, .inl (fun _ => 0))), (q19, .inl (G.2.1 0, 5001, .inl (fun _ => 0))), (q25, .inl (G.2.1 0, 5001, .inl (fun _ => 0))), (q31, .inl (G.2.1 0, 5001, .inl (fun _ => 0))), (q37, .inl (G.2.1 0, 5100, .inl (fun _ => 0))), (q45, .inl (G.2.1 0, 5100, .inl (fun _ => 0))), (q51, .inl (G.2.1 1, 5100, .inl (fun _ => 0))), (q57, .inl (G.2.1 0, 12000, .inl (fun _ => 0))), (q63, .inl (G.2.1 0, 12000, .inl (fun _ => 0))), (q69, .inl (G.2.1 0, 12000, .inl (fun _ => 0)))] := by rw [ew71, ew65, ew59, ew53, ew47, ew41, en39]; rfl
  obtain ⟨wa78, ew79⟩ : ∃ z : va_W, z = wa70 ++ [(q75, .inl (G.2.1 0, 12000, .inl (fun _ => 0)))] := ⟨_, rfl⟩
  have hP : va_P G.1 pCl ((h0, .inr (9, fs72)) :: wa78) H := by rw [ew79]; exact hP
  have hD : va_D A ((h0, .inr (9, fs72)) :: wa78) := by rw [ew79]; exact hD
  refine W.widen (k := 13) (n := 93304) (Nat.le_of_ble_eq_true rfl) (Nat.le_of_ble_eq_true rfl) ?_
  refine va_putF (D := G.1) (ci := 9) (v := .ref q75) (ty := (.array .int)) (C := RX12) (T := TX12) (N := 134) hx hb hq pin_wsX120 tyX12 tyX12_ok nmX12 hown hE.1.1 hP hD hS 0 rfl rfl 20 (by decide) (by rw [tFX12_20]; exact hq _ pw_190) (fun _ h9 => h9) (by rw [tFX12_20]) hin (by rw [tFX12_20]; rfl) (by rw [tFX12_20]; decide +kernel) rfl rfl (by rw [hn74]; decide) dX12_init_118 (fun H locs hP hD hS => ?_)
  obtain ⟨fs80, e81⟩ : ∃ z : List Value, z = fs72.set 20 (.ref q75) := ⟨_, rfl⟩
  have hn82 : fs80.length = 134 := by rw [e81, List.length_set]; exact hn74
  have hP : va_P G.1 pCl ((h0, .inr (9, fs80)) :: wa78) H := by rw [e81]; exact hP
  have hD : va_D A ((h0, .inr (9, fs80)) :: wa78) := by rw [e81]; exact hD
  refine lv_aload_n hx hb dX12_init_121 rfl (lv_at hl 0 rfl) ?_
  refine lv_sipush (v := 12000) hx hb dX12_init_122 (by decide) ?_
  refine pn_newa (G := G) (atype := .int) (a0 := (12000, .inl (fun _ => 0))) (N' := 12000) hx hb (hq _ pw_636) rfl hE.1.2.1 hP hD hS hA (fun _ => rfl) (by decide) (by decide) (by decide) (Nat.le_of_ble_eq_true rfl) (Nat.le_of_ble_eq_true rfl) dX12_init_125 (fun q83 H hP hD hS => ?_)
  obtain ⟨wa84, ew85⟩ : ∃ z : va_W, z = wa78 ++ [(q83, .inl (G.2.1 0, 12000, .inl (fun _ => 0)))] := ⟨_, rfl⟩
  have hP : va_P G.1 pCl ((h0, .inr (9, fs80)) :: wa84) H := by rw [ew85]; exact hP
  have hD : va_D A ((h0, .inr (9, fs80)) :: wa84) := by rw [ew85]; exact hD
  refine W.widen (k := 14) (n := 105304) (Nat.le_of_ble_eq_true rfl) (Nat.le_of_ble_eq_true rfl) ?_
  refine va_putF (D := G.1) (ci := 9) (v := .ref q83) (ty := (.array .int)) (C := RX12) (T := TX12) (N := 134) hx hb hq pin_wsX120 tyX12 tyX12_ok nmX12 hown hE.1.1 hP hD hS 0 rfl rfl 21 (by decide) (by rw [tFX12_21]; exact hq _ pw_191) (fun _ h9 => h9) (by rw [tFX12_21]) hin (by rw [tFX12_21]; rfl) (by rw [tFX12_21]; decide +kernel) rfl rfl (by rw [hn82]; decide) dX12_init_127 (fun H locs hP hD hS => ?_)
  obtain ⟨fs86, e87⟩ : ∃ z : List Value, z = fs80.set 21 (.ref q83) := ⟨_, rfl⟩
  have hn88 : fs86.length = 134 := by rw [e87, List.length_set]; exact hn82
  have hP : va_P G.1 pCl ((h0, .inr (9, fs86)) :: wa84) H := by rw [e87]; exact hP
  have hD : va_D A ((h0, .inr (9, fs86)) :: wa84) := by rw [e87]; exact hD
  refine lv_aload_n hx hb dX12_init_130 rfl (lv_at hl 0 rfl) ?_
  refine lv_sipush (v := 12000) hx hb dX12_init_131 (by decide) ?_
  refine pn_newa (G := G) (atype := .int) (a0 := (12000, .inl (fun _ => 0))) (N' := 12000) hx hb (hq _ pw_636) rfl hE.1.2.1 hP hD hS hA (fun _ => rfl) (by decide) (by decide) (by decide) (Nat.le_of_ble_eq_true rfl) (Nat.le_of_ble_eq_true rfl) dX12_init_134 (fun q89 H hP hD hS => ?_)
  obtain ⟨wa90, ew91⟩ : ∃ z : va_W, z = wa84 ++ [(q89, .inl (G.2.1 0, 12000, .inl (fun _ => 0)))] := ⟨_, rfl⟩
  have hP : va_P G.1 pCl ((h0, .inr (9, fs86)) :: wa90) H := by rw [ew91]; exact hP
  have hD : va_D A ((h0, .inr (9, fs86)) :: wa90) := by rw [ew91]; exact hD
  refine W.widen (k := 15) (n := 117304) (Nat.le_of_ble_eq_true rfl) (Nat.le_of_ble_eq_true rfl) ?_
  refine va_putF (D := G.1) (ci := 9) (v := .ref q89) (ty := (.array .int)) (C := RX12) (T := TX12) (N := 134) hx hb hq pin_wsX120 tyX12 tyX12_ok nmX12 hown hE.1.1 hP hD hS 0 rfl rfl 22 (by decide) (by rw [tFX12_22]; exact hq _ pw_192) (fun _ h9 => h9) (by rw [tFX12_22]) hin (by rw [tFX12_22]; rfl) (by rw [tFX12_22]; decide +kernel) rfl rfl (by rw [hn88]; decide) dX12_init_136 (fun H locs hP hD hS => ?_)
  obtain ⟨fs92, e93⟩ : ∃ z : List Value, z = fs86.set 22 (.ref q89) := ⟨_, rfl⟩
  have hn94 : fs92.length = 134 := by rw [e93, List.length_set]; exact hn88
  have hP : va_P G.1 pCl ((h0, .inr (9, fs92)) :: wa90) H := by rw [e93]; exact hP
  have hD : va_D A ((h0, .inr (9, fs92)) :: wa90) := by rw [e93]; exact hD
  refine lv_aload_n hx hb dX12_init_139 rfl (lv_at hl 0 rfl) ?_
  refine lv_sipush (v := 12000) hx hb dX12_init_140 (by decide) ?_
  refine pn_newa (G := G) (atype := .int) (a0 := (12000, .inl (fun _ => 0))) (N' := 12000) hx hb (hq _ pw_636) rfl hE.1.2.1 hP hD hS hA (fun _ => rfl) (by decide) (by decide) (by decide) (Nat.le_of_ble_eq_true rfl) (Nat.le_of_ble_eq_true rfl) dX12_init_143 (fun q95 H hP hD hS => ?_)
  obtain ⟨wa96, ew97⟩ : ∃ z : va_W, z = wa90 ++ [(q95, .inl (G.2.1 0, 12000, .inl (fun _ => 0)))] := ⟨_, rfl⟩
  have hP : va_P G.1 pCl ((h0, .inr (9, fs92)) :: wa96) H := by rw [ew97]; exact hP
  have hD : va_D A ((h0, .inr (9, fs92)) :: wa96) := by rw [ew97]; exact hD
  refine W.widen (k := 16) (n := 129304) (Nat.le_of_ble_eq_true rfl) (Nat.le_of_ble_eq_true rfl) ?_
  refine va_putF (D := G.1) (ci := 9) (v := .ref q95) (ty := (.array .int)) (C := RX12) (T := TX12) (N := 134) hx hb hq pin_wsX120 tyX12 tyX12_ok nmX12 hown hE.1.1 hP hD hS 0 rfl rfl 23 (by decide) (by rw [tFX12_23]; exact hq _ pw_193) (fun _ h9 => h9) (by rw [tFX12_23]) hin (by rw [tFX12_23]; rfl) (by rw [tFX12_23]; decide +kernel) rfl rfl (by rw [hn94]; decide) dX12_init_145 (fun H locs hP hD hS => ?_)
  obtain ⟨fs98, e99⟩ : ∃ z : List Value, z = fs92.set 23 (.ref q95) := ⟨_, rfl⟩
  have hn100 : fs98.length = 134 := by rw [e99, List.length_set]; exact hn94
  have hP : va_P G.1 pCl ((h0, .inr (9, fs98)) :: wa96) H := by rw [e99]; exact hP
  have hD : va_D A ((h0, .inr (9, fs98)) :: wa96) := by rw [e99]; exact hD
  refine lv_aload_n hx hb dX12_init_148 rfl (lv_at hl 0 rfl) ?_
  refine lv_sipush (v := 12000) hx hb dX12_init_149 (by decide) ?_
  refine pn_newa (G := G) (atype := .int) (a0 := (12000, .inl (fun _ => 0))) (N' := 12000) hx hb (hq _ pw_636) rfl hE.1.2.1 hP hD hS hA (fun _ => rfl) (by decide) (by decide) (by decide) (Nat.le_of_ble_eq_true rfl) (Nat.le_of_ble_eq_true rfl) dX12_init_152 (fun q101 H hP hD hS => ?_)
  obtain ⟨wa102, ew103⟩ : ∃ z : va_W, z = wa96 ++ [(q101, .inl (G.2.1 0, 12000, .inl (fun _ => 0)))] := ⟨_, rfl⟩
  have hP : va_P G.1 pCl ((h0, .inr (9, fs98)) :: wa102) H := by rw [ew103]; exact hP
  have hD : va_D A ((h0, .inr (9, fs98)) :: wa102) := by rw [ew103]; exact hD
  refine W.widen (k := 17) (n := 141304) (Nat.le_of_ble_eq_true rfl) (Nat.le_of_ble_eq_true rfl) ?_
  refine va_putF (D := G.1) (ci := 9) (v := .ref q101) (ty := (.array .int)) (C := RX12) (T := TX12) (N := 134) hx hb hq pin_wsX120 tyX12 tyX12_ok nmX12 hown hE.1.1 hP hD hS 0 rfl rfl 24 (by decide) (by rw [tFX12_24]; exact hq _ pw_194) (fun _ h9 => h9) (by rw [tFX12_24]) hin (by rw [tFX12_24]; rfl) (by rw [tFX12_24]; decide +kernel) rfl rfl (by rw [hn100]; decide) dX12_init_154 (fun H locs hP hD hS => ?_)
  obtain ⟨fs104, e105⟩ : ∃ z : List Value, z = fs98.set 24 (.ref q101) := ⟨_, rfl⟩
  have hn106 : fs104.length = 134 := by rw [e105, List.length_set]; exact hn100
  have hP : va_P G.1 pCl ((h0, .inr (9, fs104)) :: wa102) H := by rw [e105]; exact hP
  have hD : va_D A ((h0, .inr (9, fs104)) :: wa102) := by rw [e105]; exact hD
  refine lv_aload_n hx hb dX12_init_157 rfl (lv_at hl 0 rfl) ?_
  refine lv_sipush (v := 12000) hx hb dX12_init_158 (by decide) ?_
  refine pn_newa (G := G) (atype := .int) (a0 := (12000, .inl (fun _ => 0))) (N' := 12000) hx hb (hq _ pw_636) rfl hE.1.2.1 hP hD hS hA (fun _ => rfl) (by decide) (by decide) (by decide) (Nat.le_of_ble_eq_true rfl) (Nat.le_of_ble_eq_true rfl) dX12_init_161 (fun q107 H hP hD hS => ?_)
  obtain ⟨wa108, ew109⟩ : ∃ z : va_W, z = wa102 ++ [(q107, .inl (G.2.1 0, 12000, .inl (fun _ => 0)))] := ⟨_, rfl⟩
  have hP : va_P G.1 pCl ((h0, .inr (9, fs104)) :: wa108) H := by rw [ew109]; exact hP
  have hD : va_D A ((h0, .inr (9, fs104)) :: wa108) := by rw [ew109]; exact hD
  refine W.widen (k := 18) (n := 153304) (Nat.le_of_ble_eq_true rfl) (Nat.le_of_ble_eq_true rfl) ?_
  refine va_putF (D := G.1) (ci := 9) (v := .ref q107) (ty := (.array .int)) (C := RX12) (T := TX12) (N := 134) hx hb hq pin_wsX120 tyX12 tyX12_ok nmX12 hown hE.1.1 hP hD hS 0 rfl rfl 25 (by decide) (by rw [tFX12_25]; exact hq _ pw_195) (fun _ h9 => h9) (by rw [tFX12_25]) hin (by rw [tFX12_25]; rfl) (by rw [tFX12_25]; decide +kernel) rfl rfl (by rw [hn106]; decide) dX12_init_163 (fun H locs hP hD hS => ?_)
  obtain ⟨fs110, e111⟩ : ∃ z : List Value, z = fs104.set 25 (.ref q107) := ⟨_, rfl⟩
  have hn112 : fs110.length = 134 := by rw [e111, List.length_set]; exact hn106
  have hP : va_P G.1 pCl ((h0, .inr (9, fs110)) :: wa108) H := by rw [e111]; exact hP
  have hD : va_D A ((h0, .inr (9, fs110)) :: wa108) := by rw [e111]; exact hD
  refine lv_aload_n hx hb dX12_init_166 rfl (lv_at hl 0 rfl) ?_
  refine lv_sipush (v := 12000) hx hb dX12_init_167 (by decide) ?_
  refine pn_newa (G := G) (atype := .int) (a0 := (12000, .inl (fun _ => 0))) (N' := 12000) hx hb (hq _ pw_636) rfl hE.1.2.1 hP hD hS hA (fun _ => rfl) (by decide) (by decide) (by decide) (Nat.le_of_ble_eq_true rfl) (Nat.le_of_ble_eq_true rfl) dX12_init_170 (fun q113 H hP hD hS => ?_)
  have en114 : fs110 = [.int 0, .ref q1, .int 0, .ref q7, .int 0, .ref q13, .ref q19, .ref q25, .ref q31, .int 0, .ref q37, .ref q45, .ref q51, .int 0, .int 0, .int 0, .int 0, .ref q57, .ref q63, .ref q69, .ref q75, .ref q83, .ref q89, .ref q95, .ref q101, .ref q107, .null, .int 0, .null, .null, .null, .int 0, .null, .null, .int 0, .int 0, .null, .null, .null, .null, .null, .null, .null, .null, .int 0, .null, .null, .null, .null, .int 0, .null, .null, .null, .null, .null, .null, .null, .null, .null, .int 0, .int 0, .null, .null, .null, .int 0, .int 0, .int 0, .int 0, .int 0, .int 0, .int 0, .null, .null, .int 0, .int 0, .int 0, .int 0, .int 0, .int 0, .int 0, .int 0, .int 0, .int 0, .int 0, .null, .int 0, .null, .int 0, .null, .null, .null, .null, .null, .null, .null, .null, .null, .int 0, .int 0, .int 0, .null, .int 0, .int 0, .null, .null, .null, .null, .null, .null, .null, .null, .int 0, .null, .null, .null, .int 0, .int 0, .int 0, .int 0, .int 0, .int 0, .int 0, .int 0, .int 0, .int 0, .int 0, .int 0, .null, .int 0, .null, .int 0, .null, .null, .null] := by rw [e111, e105, e99, e93, e87, e81, en76]; rfl
  have en115 : wa108 = [(q1, .inl (G.2.1 0, 5000, .inl (fun _ => 0))), (q7, .inl (G.2.1 0, 5000, .inl (fun _ => 0))), (q13, .inl (G.2.1 0, 5001, .inl (fun _ => 0))), (q19, .inl (G.2.1 0, 5001, .inl (fun _ => 0))), (q25, .inl (G.2.1 0, 5001, .inl (fun _ => 0))), (q31, .inl (G.2.1 0, 5001, .inl (fun _ => 0))), (q37, .inl (G.2.1 0, 5100, .inl (fun _ => 0))), (q45, .inl (G.2.1 0, 5100, .inl (fun _ => 0))), (q51, .inl (G.2.1 1, 5100, .inl (fun _ => 0))), (q57, .inl (G.2.1 0, 12000, .inl (fun _ => 0))), (q63, .inl (G.2.1 0, 12000, .inl (fun _ => 0))), (q69, .inl (G.2.1 0, 12000, .inl (fun _ => 0))), (q75, .inl (G.2.1 0, 12000, .inl (fun _ => 0))), (q83, .inl (G.2.1 0, 12000, .inl (fun _ => 0))), (q89, .inl (G.2.1 0, 12000, .inl (fun _ => 0))), (q95, .inl (G.2.1 0, 12000, .inl (fun _ => 0))), (q101, .inl (G.2.1 0, 12000, .inl (fun _ => 0))), (q107, .inl (G.2.1 0, 12000, .inl (fun _ => 0)))] := by rw [ew109, ew103, ew97, ew91, ew85, ew79, en77]; rfl
  obtain ⟨wa116, ew117⟩ : ∃ z : va_W, z = wa108 ++ [(q113, .inl (G.2.1 0, 12000, .inl (fun _ => 0)))] := ⟨_, rfl⟩
  have hP : va_P G.1 pCl ((h0, .inr (9, fs110)) :: wa116) H := by rw [ew117]; exact hP
  have hD : va_D A ((h0, .inr (9, fs110)) :: wa116) := by rw [ew117]; exact hD
  refine W.widen (k := 19) (n := 165304) (Nat.le_of_ble_eq_true rfl) (Nat.le_of_ble_eq_true rfl) ?_
  refine va_putF (D := G.1) (ci := 9) (v := .ref q113) (ty := (.array .int)) (C := RX12) (T := TX12) (N := 134) hx hb hq pin_wsX120 tyX12 tyX12_ok nmX12 hown hE.1.1 hP hD hS 0 rfl rfl 26 (by decide) (by rw [tFX12_26]; exact hq _ pw_196) (fun _ h9 => h9) (by rw [tFX12_26]) hin (by rw [tFX12_26]; rfl) (by rw [tFX12_26]; decide +kernel) rfl rfl (by rw [hn112]; decide) dX12_init_172 (fun H locs hP hD hS => ?_)
  obtain ⟨fs118, e119⟩ : ∃ z : List Value, z = fs110.set 26 (.ref q113) := ⟨_, rfl⟩
  have hn120 : fs118.length = 134 := by rw [e119, List.length_set]; exact hn112
  have hP : va_P G.1 pCl ((h0, .inr (9, fs118)) :: wa116) H := by rw [e119]; exact hP
  have hD : va_D A ((h0, .inr (9, fs118)) :: wa116) := by rw [e119]; exact hD
  refine lv_aload_n hx hb dX12_init_175 rfl (lv_at hl 0 rfl) ?_
  refine lv_sipush (v := 5000) hx hb dX12_init_176 (by decide) ?_
  refine pn_newa (G := G) (atype := .int) (a0 := (5000, .inl (fun _ => 0))) (N' := 5000) hx hb (hq _ pw_636) rfl hE.1.2.1 hP hD hS hA (fun _ => rfl) (by decide) (by decide) (by decide) (Nat.le_of_ble_eq_true rfl) (Nat.le_of_ble_eq_true rfl) dX12_init_179 (fun q121 H hP hD hS => ?_)
  obtain ⟨wa122, ew123⟩ : ∃ z : va_W, z = wa116 ++ [(q121, .inl (G.2.1 0, 5000, .inl (fun _ => 0)))] := ⟨_, rfl⟩
  have hP : va_P G.1 pCl ((h0, .inr (9, fs118)) :: wa122) H := by rw [ew123]; exact hP
  have hD : va_D A ((h0, .inr (9, fs118)) :: wa122) := by rw [ew123]; exact hD
  refine W.widen (k := 20) (n := 170304) (Nat.le_of_ble_eq_true rfl) (Nat.le_of_ble_eq_true rfl) ?_
  refine va_putF (D := G.1) (ci := 9) (v := .ref q121) (ty := (.array .int)) (C := RX12) (T := TX12) (N := 134) hx hb hq pin_wsX120 tyX12 tyX12_ok nmX12 hown hE.1.1 hP hD hS 0 rfl rfl 28 (by decide) (by rw [tFX12_28]; exact hq _ pw_197) (fun _ h9 => h9) (by rw [tFX12_28]) hin (by rw [tFX12_28]; rfl) (by rw [tFX12_28]; decide +kernel) rfl rfl (by rw [hn120]; decide) dX12_init_181 (fun H locs hP hD hS => ?_)
  obtain ⟨fs124, e125⟩ : ∃ z : List Value, z = fs118.set 28 (.ref q121) := ⟨_, rfl⟩
  have hn126 : fs124.length = 134 := by rw [e125, List.length_set]; exact hn120
  have hP : va_P G.1 pCl ((h0, .inr (9, fs124)) :: wa122) H := by rw [e125]; exact hP
  have hD : va_D A ((h0, .inr (9, fs124)) :: wa122) := by rw [e125]; exact hD
  refine lv_aload_n hx hb dX12_init_184 rfl (lv_at hl 0 rfl) ?_
  refine lv_sipush (v := 5000) hx hb dX12_init_185 (by decide) ?_
  refine pn_newa (G := G) (atype := .boolean) (a0 := (5000, .inl (fun _ => 0))) (N' := 5000) hx hb (hq _ pw_670) rfl hE.1.2.2.2.2 hP hD hS hA (fun _ => rfl) (by decide) (by decide) (by decide) (Nat.le_of_ble_eq_true rfl) (Nat.le_of_ble_eq_true rfl) dX12_init_188 (fun q127 H hP hD hS => ?_)
  obtain ⟨wa128, ew129⟩ : ∃ z : va_W, z = wa122 ++ [(q127, .inl (G.2.1 3, 5000, .inl (fun _ => 0)))] := ⟨_, rfl⟩
  have hP : va_P G.1 pCl ((h0, .inr (9, fs124)) :: wa128) H := by rw [ew129]; exact hP
  have hD : va_D A ((h0, .inr (9, fs124)) :: wa128) := by rw [ew129]; exact hD
  refine W.widen (k := 21) (n := 175304) (Nat.le_of_ble_eq_true rfl) (Nat.le_of_ble_eq_true rfl) ?_
  refine va_putF (D := G.1) (ci := 9) (v := .ref q127) (ty := (.array .boolean)) (C := RX12) (T := TX12) (N := 134) hx hb hq pin_wsX120 tyX12 tyX12_ok nmX12 hown hE.1.1 hP hD hS 0 rfl rfl 29 (by decide) (by rw [tFX12_29]; exact hq _ pw_198) (fun _ h9 => h9) (by rw [tFX12_29]) hin (by rw [tFX12_29]; rfl) (by rw [tFX12_29]; decide +kernel) rfl rfl (by rw [hn126]; decide) dX12_init_190 (fun H locs hP hD hS => ?_)
  obtain ⟨fs130, e131⟩ : ∃ z : List Value, z = fs124.set 29 (.ref q127) := ⟨_, rfl⟩
  have hn132 : fs130.length = 134 := by rw [e131, List.length_set]; exact hn126
  have hP : va_P G.1 pCl ((h0, .inr (9, fs130)) :: wa128) H := by rw [e131]; exact hP
  have hD : va_D A ((h0, .inr (9, fs130)) :: wa128) := by rw [e131]; exact hD
  refine lv_aload_n hx hb dX12_init_193 rfl (lv_at hl 0 rfl) ?_
  refine lv_sipush (v := 5000) hx hb dX12_init_194 (by decide) ?_
  refine pn_newa (G := G) (atype := .int) (a0 := (5000, .inl (fun _ => 0))) (N' := 5000) hx hb (hq _ pw_636) rfl hE.1.2.1 hP hD hS hA (fun _ => rfl) (by decide) (by decide) (by decide) (Nat.le_of_ble_eq_true rfl) (Nat.le_of_ble_eq_true rfl) dX12_init_197 (fun q133 H hP hD hS => ?_)
  obtain ⟨wa134, ew135⟩ : ∃ z : va_W, z = wa128 ++ [(q133, .inl (G.2.1 0, 5000, .inl (fun _ => 0)))] := ⟨_, rfl⟩
  have hP : va_P G.1 pCl ((h0, .inr (9, fs130)) :: wa134) H := by rw [ew135]; exact hP
  have hD : va_D A ((h0, .inr (9, fs130)) :: wa134) := by rw [ew135]; exact hD
  refine W.widen (k := 22) (n := 180304) (Nat.le_of_ble_eq_true rfl) (Nat.le_of_ble_eq_true rfl) ?_
  refine va_putF (D := G.1) (ci := 9) (v := .ref q133) (ty := (.array .int)) (C := RX12) (T := TX12) (N := 134) hx hb hq pin_wsX120 tyX12 tyX12_ok nmX12 hown hE.1.1 hP hD hS 0 rfl rfl 30 (by decide) (by rw [tFX12_30]; exact hq _ pw_199) (fun _ h9 => h9) (by rw [tFX12_30]) hin (by rw [tFX12_30]; rfl) (by rw [tFX12_30]; decide +kernel) rfl rfl (by rw [hn132]; decide) dX12_init_199 (fun H locs hP hD hS => ?_)
  obtain ⟨fs136, e137⟩ : ∃ z : List Value, z = fs130.set 30 (.ref q133) := ⟨_, rfl⟩
  have hn138 : fs136.length = 134 := by rw [e137, List.length_set]; exact hn132
  have hP : va_P G.1 pCl ((h0, .inr (9, fs136)) :: wa134) H := by rw [e137]; exact hP
  have hD : va_D A ((h0, .inr (9, fs136)) :: wa134) := by rw [e137]; exact hD
  refine lv_aload_n hx hb dX12_init_202 rfl (lv_at hl 0 rfl) ?_
  refine lv_sipush (v := 5000) hx hb dX12_init_203 (by decide) ?_
  refine pn_newa (G := G) (atype := .int) (a0 := (5000, .inl (fun _ => 0))) (N' := 5000) hx hb (hq _ pw_636) rfl hE.1.2.1 hP hD hS hA (fun _ => rfl) (by decide) (by decide) (by decide) (Nat.le_of_ble_eq_true rfl) (Nat.le_of_ble_eq_true rfl) dX12_init_206 (fun q139 H hP hD hS => ?_)
  obtain ⟨wa140, ew141⟩ : ∃ z : va_W, z = wa134 ++ [(q139, .inl (G.2.1 0, 5000, .inl (fun _ => 0)))] := ⟨_, rfl⟩
  have hP : va_P G.1 pCl ((h0, .inr (9, fs136)) :: wa140) H := by rw [ew141]; exact hP
  have hD : va_D A ((h0, .inr (9, fs136)) :: wa140) := by rw [ew141]; exact hD
  refine W.widen (k := 23) (n := 185304) (Nat.le_of_ble_eq_true rfl) (Nat.le_of_ble_eq_true rfl) ?_
  refine va_putF (D := G.1) (ci := 9) (v := .ref q139) (ty := (.array .int)) (C := RX12) (T := TX12) (N := 134) hx hb hq pin_wsX120 tyX12 tyX12_ok nmX12 hown hE.1.1 hP hD hS 0 rfl rfl 32 (by decide) (by rw [tFX12_32]; exact hq _ pw_200) (fun _ h9 => h9) (by rw [tFX12_32]) hin (by rw [tFX12_32]; rfl) (by rw [tFX12_32]; decide +kernel) rfl rfl (by rw [hn138]; decide) dX12_init_208 (fun H locs hP hD hS => ?_)
  obtain ⟨fs142, e143⟩ : ∃ z : List Value, z = fs136.set 32 (.ref q139) := ⟨_, rfl⟩
  have hn144 : fs142.length = 134 := by rw [e143, List.length_set]; exact hn138
  have hP : va_P G.1 pCl ((h0, .inr (9, fs142)) :: wa140) H := by rw [e143]; exact hP
  have hD : va_D A ((h0, .inr (9, fs142)) :: wa140) := by rw [e143]; exact hD
  refine lv_aload_n hx hb dX12_init_211 rfl (lv_at hl 0 rfl) ?_
  refine lv_sipush (v := 5000) hx hb dX12_init_212 (by decide) ?_
  refine pn_newa (G := G) (atype := .int) (a0 := (5000, .inl (fun _ => 0))) (N' := 5000) hx hb (hq _ pw_636) rfl hE.1.2.1 hP hD hS hA (fun _ => rfl) (by decide) (by decide) (by decide) (Nat.le_of_ble_eq_true rfl) (Nat.le_of_ble_eq_true rfl) dX12_init_215 (fun q145 H hP hD hS => ?_)
  obtain ⟨wa146, ew147⟩ : ∃ z : va_W, z = wa140 ++ [(q145, .inl (G.2.1 0, 5000, .inl (fun _ => 0)))] := ⟨_, rfl⟩
  have hP : va_P G.1 pCl ((h0, .inr (9, fs142)) :: wa146) H := by rw [ew147]; exact hP
  have hD : va_D A ((h0, .inr (9, fs142)) :: wa146) := by rw [ew147]; exact hD
  refine W.widen (k := 24) (n := 190304) (Nat.le_of_ble_eq_true rfl) (Nat.le_of_ble_eq_true rfl) ?_
  refine va_putF (D := G.1) (ci := 9) (v := .ref q145) (ty := (.array .int)) (C := RX12) (T := TX12) (N := 134) hx hb hq pin_wsX120 tyX12 tyX12_ok nmX12 hown hE.1.1 hP hD hS 0 rfl rfl 33 (by decide) (by rw [tFX12_33]; exact hq _ pw_201) (fun _ h9 => h9) (by rw [tFX12_33]) hin (by rw [tFX12_33]; rfl) (by rw [tFX12_33]; decide +kernel) rfl rfl (by rw [hn144]; decide) dX12_init_217 (fun H locs hP hD hS => ?_)
  obtain ⟨fs148, e149⟩ : ∃ z : List Value, z = fs142.set 33 (.ref q145) := ⟨_, rfl⟩
  have hn150 : fs148.length = 134 := by rw [e149, List.length_set]; exact hn144
  have hP : va_P G.1 pCl ((h0, .inr (9, fs148)) :: wa146) H := by rw [e149]; exact hP
  have hD : va_D A ((h0, .inr (9, fs148)) :: wa146) := by rw [e149]; exact hD
  refine lv_aload_n hx hb dX12_init_220 rfl (lv_at hl 0 rfl) ?_
  refine lv_bipush (v := 40) hx hb dX12_init_221 (by decide) ?_
  refine pn_newa (G := G) (atype := .int) (a0 := (40, .inl (fun _ => 0))) (N' := 40) hx hb (hq _ pw_636) rfl hE.1.2.1 hP hD hS hA (fun _ => rfl) (by decide) (by decide) (by decide) (Nat.le_of_ble_eq_true rfl) (Nat.le_of_ble_eq_true rfl) dX12_init_223 (fun q151 H hP hD hS => ?_)
  have en152 : fs148 = [.int 0, .ref q1, .int 0, .ref q7, .int 0, .ref q13, .ref q19, .ref q25, .ref q31, .int 0, .ref q37, .ref q45, .ref q51, .int 0, .int 0, .int 0, .int 0, .ref q57, .ref q63, .ref q69, .ref q75, .ref q83, .ref q89, .ref q95, .ref q101, .ref q107, .ref q113, .int 0, .ref q121, .ref q127, .ref q133, .int 0, .ref q139, .ref q145, .int 0, .int 0, .null, .null, .null, .null, .null, .null, .null, .null, .int 0, .null, .null, .null, .null, .int 0, .null, .null, .null, .null, .null, .null, .null, .null, .null, .int 0, .int 0, .null, .null, .null, .int 0, .int 0, .int 0, .int 0, .int 0, .int 0, .int 0, .null, .null, .int 0, .int 0, .int 0, .int 0, .int 0, .int 0, .int 0, .int 0, .int 0, .int 0, .int 0, .null, .int 0, .null, .int 0, .null, .null, .null, .null, .null, .null, .null, .null, .null, .int 0, .int 0, .int 0, .null, .int 0, .int 0, .null, .null, .null, .null, .null, .null, .null, .null, .int 0, .null, .null, .null, .int 0, .int 0, .int 0, .int 0, .int 0, .int 0, .int 0, .int 0, .int 0, .int 0, .int 0, .int 0, .null, .int 0, .null, .int 0, .null, .null, .null] := by rw [e149, e143, e137, e131, e125, e119, en114]; rfl
  have en153 : wa146 = [(q1, .inl (G.2.1 0, 5000, .inl (fun _ => 0))), (q7, .inl (G.2.1 0, 5000, .inl (fun _ => 0))), (q13, .inl (G.2.1 0, 5001, .inl (fun _ => 0))), (q19, .inl (G.2.1 0, 5001, .inl (fun _ => 0))), (q25, .inl (G.2.1 0, 5001, .inl (fun _ => 0))), (q31, .inl (G.2.1 0, 5001, .inl (fun _ => 0))), (q37, .inl (G.2.1 0, 5100, .inl (fun _ => 0))), (q45, .inl (G.2.1 0, 5100, .inl (fun _ => 0))), (q51, .inl (G.2.1 1, 5100, .inl (fun _ => 0))), (q57, .inl (G.2.1 0, 12000, .inl (fun _ => 0))), (q63, .inl (G.2.1 0, 12000, .inl (fun _ => 0))), (q69, .inl (G.2.1 0, 12000, .inl (fun _ => 0))), (q75, .inl (G.2.1 0, 12000, .inl (fun _ => 0))), (q83, .inl (G.2.1 0, 12000, .inl (fun _ => 0))), (q89, .inl (G.2.1 0, 12000, .inl (fun _ => 0))), (q95, .inl (G.2.1 0, 12000, .inl (fun _ => 0))), (q101, .inl (G.2.1 0, 12000, .inl (fun _ => 0))), (q107, .inl (G.2.1 0, 12000, .inl (fun _ => 0))), (q113, .inl (G.2.1 0, 12000, .inl (fun _ => 0))), (q121, .inl (G.2.1 0, 5000, .inl (fun _ => 0))), (q127, .inl (G.2.1 3, 5000, .inl (fun _ => 0))), (q133, .inl (G.2.1 0, 5000, .inl (fun _ => 0))), (q139, .inl (G.2.1 0, 5000, .inl (fun _ => 0))), (q145, .inl (G.2.1 0, 5000, .inl (fun _ => 0)))] := by rw [ew147, ew141, ew135, ew129, ew123, ew117, en115]; rfl
  obtain ⟨wa154, ew155⟩ : ∃ z : va_W, z = wa146 ++ [(q151, .inl (G.2.1 0, 40, .inl (fun _ => 0)))] := ⟨_, rfl⟩
  have hP : va_P G.1 pCl ((h0, .inr (9, fs148)) :: wa154) H := by rw [ew155]; exact hP
  have hD : va_D A ((h0, .inr (9, fs148)) :: wa154) := by rw [ew155]; exact hD
  refine W.widen (k := 25) (n := 190344) (Nat.le_of_ble_eq_true rfl) (Nat.le_of_ble_eq_true rfl) ?_
  refine va_putF (D := G.1) (ci := 9) (v := .ref q151) (ty := (.array .int)) (C := RX12) (T := TX12) (N := 134) hx hb hq pin_wsX120 tyX12 tyX12_ok nmX12 hown hE.1.1 hP hD hS 0 rfl rfl 36 (by decide) (by rw [tFX12_36]; exact hq _ pw_202) (fun _ h9 => h9) (by rw [tFX12_36]) hin (by rw [tFX12_36]; rfl) (by rw [tFX12_36]; decide +kernel) rfl rfl (by rw [hn150]; decide) dX12_init_225 (fun H locs hP hD hS => ?_)
  obtain ⟨fs156, e157⟩ : ∃ z : List Value, z = fs148.set 36 (.ref q151) := ⟨_, rfl⟩
  have hn158 : fs156.length = 134 := by rw [e157, List.length_set]; exact hn150
  have hP : va_P G.1 pCl ((h0, .inr (9, fs156)) :: wa154) H := by rw [e157]; exact hP
  have hD : va_D A ((h0, .inr (9, fs156)) :: wa154) := by rw [e157]; exact hD
  refine lv_aload_n hx hb dX12_init_228 rfl (lv_at hl 0 rfl) ?_
  refine lv_bipush (v := 40) hx hb dX12_init_229 (by decide) ?_
  refine pn_newa (G := G) (atype := .int) (a0 := (40, .inl (fun _ => 0))) (N' := 40) hx hb (hq _ pw_636) rfl hE.1.2.1 hP hD hS hA (fun _ => rfl) (by decide) (by decide) (by decide) (Nat.le_of_ble_eq_true rfl) (Nat.le_of_ble_eq_true rfl) dX12_init_231 (fun q159 H hP hD hS => ?_)
  obtain ⟨wa160, ew161⟩ : ∃ z : va_W, z = wa154 ++ [(q159, .inl (G.2.1 0, 40, .inl (fun _ => 0)))] := ⟨_, rfl⟩
  have hP : va_P G.1 pCl ((h0, .inr (9, fs156)) :: wa160) H := by rw [ew161]; exact hP
  have hD : va_D A ((h0, .inr (9, fs156)) :: wa160) := by rw [ew161]; exact hD
  refine W.widen (k := 26) (n := 190384) (Nat.le_of_ble_eq_true rfl) (Nat.le_of_ble_eq_true rfl) ?_
  refine va_putF (D := G.1) (ci := 9) (v := .ref q159) (ty := (.array .int)) (C := RX12) (T := TX12) (N := 134) hx hb hq pin_wsX120 tyX12 tyX12_ok nmX12 hown hE.1.1 hP hD hS 0 rfl rfl 37 (by decide) (by rw [tFX12_37]; exact hq _ pw_203) (fun _ h9 => h9) (by rw [tFX12_37]) hin (by rw [tFX12_37]; rfl) (by rw [tFX12_37]; decide +kernel) rfl rfl (by rw [hn158]; decide) dX12_init_233 (fun H locs hP hD hS => ?_)
  obtain ⟨fs162, e163⟩ : ∃ z : List Value, z = fs156.set 37 (.ref q159) := ⟨_, rfl⟩
  have hn164 : fs162.length = 134 := by rw [e163, List.length_set]; exact hn158
  have hP : va_P G.1 pCl ((h0, .inr (9, fs162)) :: wa160) H := by rw [e163]; exact hP
  have hD : va_D A ((h0, .inr (9, fs162)) :: wa160) := by rw [e163]; exact hD
  refine lv_aload_n hx hb dX12_init_236 rfl (lv_at hl 0 rfl) ?_
  refine lv_bipush (v := 40) hx hb dX12_init_237 (by decide) ?_
  refine pn_newa (G := G) (atype := .boolean) (a0 := (40, .inl (fun _ => 0))) (N' := 40) hx hb (hq _ pw_670) rfl hE.1.2.2.2.2 hP hD hS hA (fun _ => rfl) (by decide) (by decide) (by decide) (Nat.le_of_ble_eq_true rfl) (Nat.le_of_ble_eq_true rfl) dX12_init_239 (fun q165 H hP hD hS => ?_)
  obtain ⟨wa166, ew167⟩ : ∃ z : va_W, z = wa160 ++ [(q165, .inl (G.2.1 3, 40, .inl (fun _ => 0)))] := ⟨_, rfl⟩
  have hP : va_P G.1 pCl ((h0, .inr (9, fs162)) :: wa166) H := by rw [ew167]; exact hP
  have hD : va_D A ((h0, .inr (9, fs162)) :: wa166) := by rw [ew167]; exact hD
  refine W.widen (k := 27) (n := 190424) (Nat.le_of_ble_eq_true rfl) (Nat.le_of_ble_eq_true rfl) ?_
  refine va_putF (D := G.1) (ci := 9) (v := .ref q165) (ty := (.array .boolean)) (C := RX12) (T := TX12) (N := 134) hx hb hq pin_wsX120 tyX12 tyX12_ok nmX12 hown hE.1.1 hP hD hS 0 rfl rfl 38 (by decide) (by rw [tFX12_38]; exact hq _ pw_204) (fun _ h9 => h9) (by rw [tFX12_38]) hin (by rw [tFX12_38]; rfl) (by rw [tFX12_38]; decide +kernel) rfl rfl (by rw [hn164]; decide) dX12_init_241 (fun H locs hP hD hS => ?_)
  obtain ⟨fs168, e169⟩ : ∃ z : List Value, z = fs162.set 38 (.ref q165) := ⟨_, rfl⟩
  have hn170 : fs168.length = 134 := by rw [e169, List.length_set]; exact hn164
  have hP : va_P G.1 pCl ((h0, .inr (9, fs168)) :: wa166) H := by rw [e169]; exact hP
  have hD : va_D A ((h0, .inr (9, fs168)) :: wa166) := by rw [e169]; exact hD
  refine lv_aload_n hx hb dX12_init_244 rfl (lv_at hl 0 rfl) ?_
  refine lv_bipush (v := 40) hx hb dX12_init_245 (by decide) ?_
  refine pn_newa (G := G) (atype := .int) (a0 := (40, .inl (fun _ => 0))) (N' := 40) hx hb (hq _ pw_636) rfl hE.1.2.1 hP hD hS hA (fun _ => rfl) (by decide) (by decide) (by decide) (Nat.le_of_ble_eq_true rfl) (Nat.le_of_ble_eq_true rfl) dX12_init_247 (fun q171 H hP hD hS => ?_)
  obtain ⟨wa172, ew173⟩ : ∃ z : va_W, z = wa166 ++ [(q171, .inl (G.2.1 0, 40, .inl (fun _ => 0)))] := ⟨_, rfl⟩
  have hP : va_P G.1 pCl ((h0, .inr (9, fs168)) :: wa172) H := by rw [ew173]; exact hP
  have hD : va_D A ((h0, .inr (9, fs168)) :: wa172) := by rw [ew173]; exact hD
  refine W.widen (k := 28) (n := 190464) (Nat.le_of_ble_eq_true rfl) (Nat.le_of_ble_eq_true rfl) ?_
  refine va_putF (D := G.1) (ci := 9) (v := .ref q171) (ty := (.array .int)) (C := RX12) (T := TX12) (N := 134) hx hb hq pin_wsX120 tyX12 tyX12_ok nmX12 hown hE.1.1 hP hD hS 0 rfl rfl 39 (by decide) (by rw [tFX12_39]; exact hq _ pw_205) (fun _ h9 => h9) (by rw [tFX12_39]) hin (by rw [tFX12_39]; rfl) (by rw [tFX12_39]; decide +kernel) rfl rfl (by rw [hn170]; decide) dX12_init_249 (fun H locs hP hD hS => ?_)
  obtain ⟨fs174, e175⟩ : ∃ z : List Value, z = fs168.set 39 (.ref q171) := ⟨_, rfl⟩
  have hn176 : fs174.length = 134 := by rw [e175, List.length_set]; exact hn170
  have hP : va_P G.1 pCl ((h0, .inr (9, fs174)) :: wa172) H := by rw [e175]; exact hP
  have hD : va_D A ((h0, .inr (9, fs174)) :: wa172) := by rw [e175]; exact hD
  refine lv_aload_n hx hb dX12_init_252 rfl (lv_at hl 0 rfl) ?_
  refine lv_bipush (v := 40) hx hb dX12_init_253 (by decide) ?_
  refine pn_newa (G := G) (atype := .int) (a0 := (40, .inl (fun _ => 0))) (N' := 40) hx hb (hq _ pw_636) rfl hE.1.2.1 hP hD hS hA (fun _ => rfl) (by decide) (by decide) (by decide) (Nat.le_of_ble_eq_true rfl) (Nat.le_of_ble_eq_true rfl) dX12_init_255 (fun q177 H hP hD hS => ?_)
  obtain ⟨wa178, ew179⟩ : ∃ z : va_W, z = wa172 ++ [(q177, .inl (G.2.1 0, 40, .inl (fun _ => 0)))] := ⟨_, rfl⟩
  have hP : va_P G.1 pCl ((h0, .inr (9, fs174)) :: wa178) H := by rw [ew179]; exact hP
  have hD : va_D A ((h0, .inr (9, fs174)) :: wa178) := by rw [ew179]; exact hD
  refine W.widen (k := 29) (n := 190504) (Nat.le_of_ble_eq_true rfl) (Nat.le_of_ble_eq_true rfl) ?_
  refine va_putF (D := G.1) (ci := 9) (v := .ref q177) (ty := (.array .int)) (C := RX12) (T := TX12) (N := 134) hx hb hq pin_wsX120 tyX12 tyX12_ok nmX12 hown hE.1.1 hP hD hS 0 rfl rfl 40 (by decide) (by rw [tFX12_40]; exact hq _ pw_206) (fun _ h9 => h9) (by rw [tFX12_40]) hin (by rw [tFX12_40]; rfl) (by rw [tFX12_40]; decide +kernel) rfl rfl (by rw [hn176]; decide) dX12_init_257 (fun H locs hP hD hS => ?_)
  obtain ⟨fs180, e181⟩ : ∃ z : List Value, z = fs174.set 40 (.ref q177) := ⟨_, rfl⟩
  have hn182 : fs180.length = 134 := by rw [e181, List.length_set]; exact hn176
  have hP : va_P G.1 pCl ((h0, .inr (9, fs180)) :: wa178) H := by rw [e181]; exact hP
  have hD : va_D A ((h0, .inr (9, fs180)) :: wa178) := by rw [e181]; exact hD
  refine lv_aload_n hx hb dX12_init_260 rfl (lv_at hl 0 rfl) ?_
  refine lv_bipush (v := 40) hx hb dX12_init_261 (by decide) ?_
  refine pn_newa (G := G) (atype := .int) (a0 := (40, .inl (fun _ => 0))) (N' := 40) hx hb (hq _ pw_636) rfl hE.1.2.1 hP hD hS hA (fun _ => rfl) (by decide) (by decide) (by decide) (Nat.le_of_ble_eq_true rfl) (Nat.le_of_ble_eq_true rfl) dX12_init_263 (fun q183 H hP hD hS => ?_)
  obtain ⟨wa184, ew185⟩ : ∃ z : va_W, z = wa178 ++ [(q183, .inl (G.2.1 0, 40, .inl (fun _ => 0)))] := ⟨_, rfl⟩
  have hP : va_P G.1 pCl ((h0, .inr (9, fs180)) :: wa184) H := by rw [ew185]; exact hP
  have hD : va_D A ((h0, .inr (9, fs180)) :: wa184) := by rw [ew185]; exact hD
  refine W.widen (k := 30) (n := 190544) (Nat.le_of_ble_eq_true rfl) (Nat.le_of_ble_eq_true rfl) ?_
  refine va_putF (D := G.1) (ci := 9) (v := .ref q183) (ty := (.array .int)) (C := RX12) (T := TX12) (N := 134) hx hb hq pin_wsX120 tyX12 tyX12_ok nmX12 hown hE.1.1 hP hD hS 0 rfl rfl 41 (by decide) (by rw [tFX12_41]; exact hq _ pw_207) (fun _ h9 => h9) (by rw [tFX12_41]) hin (by rw [tFX12_41]; rfl) (by rw [tFX12_41]; decide +kernel) rfl rfl (by rw [hn182]; decide) dX12_init_265 (fun H locs hP hD hS => ?_)
  obtain ⟨fs186, e187⟩ : ∃ z : List Value, z = fs180.set 41 (.ref q183) := ⟨_, rfl⟩
  have hn188 : fs186.length = 134 := by rw [e187, List.length_set]; exact hn182
  have hP : va_P G.1 pCl ((h0, .inr (9, fs186)) :: wa184) H := by rw [e187]; exact hP
  have hD : va_D A ((h0, .inr (9, fs186)) :: wa184) := by rw [e187]; exact hD
  refine lv_aload_n hx hb dX12_init_268 rfl (lv_at hl 0 rfl) ?_
  refine lv_bipush (v := 40) hx hb dX12_init_269 (by decide) ?_
  refine pn_newa (G := G) (atype := .int) (a0 := (40, .inl (fun _ => 0))) (N' := 40) hx hb (hq _ pw_636) rfl hE.1.2.1 hP hD hS hA (fun _ => rfl) (by decide) (by decide) (by decide) (Nat.le_of_ble_eq_true rfl) (Nat.le_of_ble_eq_true rfl) dX12_init_271 (fun q189 H hP hD hS => ?_)
  have en190 : fs186 = [.int 0, .ref q1, .int 0, .ref q7, .int 0, .ref q13, .ref q19, .ref q25, .ref q31, .int 0, .ref q37, .ref q45, .ref q51, .int 0, .int 0, .int 0, .int 0, .ref q57, .ref q63, .ref q69, .ref q75, .ref q83, .ref q89, .ref q95, .ref q101, .ref q107, .ref q113, .int 0, .ref q121, .ref q127, .ref q133, .int 0, .ref q139, .ref q145, .int 0, .int 0, .ref q151, .ref q159, .ref q165, .ref q171, .ref q177, .ref q183, .null, .null, .int 0, .null, .null, .null, .null, .int 0, .null, .null, .null, .null, .null, .null, .null, .null, .null, .int 0, .int 0, .null, .null, .null, .int 0, .int 0, .int 0, .int 0, .int 0, .int 0, .int 0, .null, .null, .int 0, .int 0, .int 0, .int 0, .int 0, .int 0, .int 0, .int 0, .int 0, .int 0, .int 0, .null, .int 0, .null, .int 0, .null, .null, .null, .null, .null, .null, .null, .null, .null, .int 0, .int 0, .int 0, .null, .int 0, .int 0, .null, .null, .null, .null, .null, .null, .null, .null, .int 0, .null, .null, .null, .int 0, .int 0, .int 0, .int 0, .int 0, .int 0, .int 0, .int 0, .int 0, .int 0, .int 0, .int 0, .null, .int 0, .null, .int 0, .null, .null, .null] := by rw [e187, e181, e175, e169, e163, e157, en152]; rfl
  have en191 : wa184 = [(q1, .inl (G.2.1 0, 5000, .inl (fun _ => 0))), (q7, .inl (G.2.1 0, 5000, .inl (fun _ => 0))), (q13, .inl (G.2.1 0, 5001, .inl (fun _ => 0))), (q19, .inl (G.2.1 0, 5001, .inl (fun _ => 0))), (q25, .inl (G.2.1 0, 5001, .inl (fun _ => 0))), (q31, .inl (G.2.1 0, 5001, .inl (fun _ => 0))), (q37, .inl (G.2.1 0, 5100, .inl (fun _ => 0))), (q45, .inl (G.2.1 0, 5100, .inl (fun _ => 0))), (q51, .inl (G.2.1 1, 5100, .inl (fun _ => 0))), (q57, .inl (G.2.1 0, 12000, .inl (fun _ => 0))), (q63, .inl (G.2.1 0, 12000, .inl (fun _ => 0))), (q69, .inl (G.2.1 0, 12000, .inl (fun _ => 0))), (q75, .inl (G.2.1 0, 12000, .inl (fun _ => 0))), (q83, .inl (G.2.1 0, 12000, .inl (fun _ => 0))), (q89, .inl (G.2.1 0, 12000, .inl (fun _ => 0))), (q95, .inl (G.2.1 0, 12000, .inl (fun _ => 0))), (q101, .inl (G.2.1 0, 12000, .inl (fun _ => 0))), (q107, .inl (G.2.1 0, 12000, .inl (fun _ => 0))), (q113, .inl (G.2.1 0, 12000, .inl (fun _ => 0))), (q121, .inl (G.2.1 0, 5000, .inl (fun _ => 0))), (q127, .inl (G.2.1 3, 5000, .inl (fun _ => 0))), (q133, .inl (G.2.1 0, 5000, .inl (fun _ => 0))), (q139, .inl (G.2.1 0, 5000, .inl (fun _ => 0))), (q145, .inl (G.2.1 0, 5000, .inl (fun _ => 0))), (q151, .inl (G.2.1 0, 40, .inl (fun _ => 0))), (q159, .inl (G.2.1 0, 40, .inl (fun _ => 0))), (q165, .inl (G.2.1 3, 40, .inl (fun _ => 0))), (q171, .inl (G.2.1 0, 40, .inl (fun _ => 0))), (q177, .inl (G.2.1 0, 40, .inl (fun _ => 0))), (q183, .inl (G.2.1 0, 40, .inl (fun _ => 0)))] := by rw [ew185, ew179, ew173, ew167, ew161, ew155, en153]; rfl
  obtain ⟨wa192, ew193⟩ : ∃ z : va_W, z = wa184 ++ [(q189, .inl (G.2.1 0, 40, .inl (fun _ => 0)))] := ⟨_, rfl⟩
  have hP : va_P G.1 pCl ((h0, .inr (9, fs186)) :: wa192) H := by rw [ew193]; exact hP
  have hD : va_D A ((h0, .inr (9, fs186)) :: wa192) := by rw [ew193]; exact hD
  refine W.widen (k := 31) (n := 190584) (Nat.le_of_ble_eq_true rfl) (Nat.le_of_ble_eq_true rfl) ?_
  refine va_putF (D := G.1) (ci := 9) (v := .ref q189) (ty := (.array .int)) (C := RX12) (T := TX12) (N := 134) hx hb hq pin_wsX120 tyX12 tyX12_ok nmX12 hown hE.1.1 hP hD hS 0 rfl rfl 42 (by decide) (by rw [tFX12_42]; exact hq _ pw_208) (fun _ h9 => h9) (by rw [tFX12_42]) hin (by rw [tFX12_42]; rfl) (by rw [tFX12_42]; decide +kernel) rfl rfl (by rw [hn188]; decide) dX12_init_273 (fun H locs hP hD hS => ?_)
  obtain ⟨fs194, e195⟩ : ∃ z : List Value, z = fs186.set 42 (.ref q189) := ⟨_, rfl⟩
  have hn196 : fs194.length = 134 := by rw [e195, List.length_set]; exact hn188
  have hP : va_P G.1 pCl ((h0, .inr (9, fs194)) :: wa192) H := by rw [e195]; exact hP
  have hD : va_D A ((h0, .inr (9, fs194)) :: wa192) := by rw [e195]; exact hD
  refine lv_aload_n hx hb dX12_init_276 rfl (lv_at hl 0 rfl) ?_
  refine lv_sipush (v := 1600) hx hb dX12_init_277 (by decide) ?_
  refine pn_newa (G := G) (atype := .boolean) (a0 := (1600, .inl (fun _ => 0))) (N' := 1600) hx hb (hq _ pw_670) rfl hE.1.2.2.2.2 hP hD hS hA (fun _ => rfl) (by decide) (by decide) (by decide) (Nat.le_of_ble_eq_true rfl) (Nat.le_of_ble_eq_true rfl) dX12_init_280 (fun q197 H hP hD hS => ?_)
  obtain ⟨wa198, ew199⟩ : ∃ z : va_W, z = wa192 ++ [(q197, .inl (G.2.1 3, 1600, .inl (fun _ => 0)))] := ⟨_, rfl⟩
  have hP : va_P G.1 pCl ((h0, .inr (9, fs194)) :: wa198) H := by rw [ew199]; exact hP
  have hD : va_D A ((h0, .inr (9, fs194)) :: wa198) := by rw [ew199]; exact hD
  refine W.widen (k := 32) (n := 192184) (Nat.le_of_ble_eq_true rfl) (Nat.le_of_ble_eq_true rfl) ?_
  refine va_putF (D := G.1) (ci := 9) (v := .ref q197) (ty := (.array .boolean)) (C := RX12) (T := TX12) (N := 134) hx hb hq pin_wsX120 tyX12 tyX12_ok nmX12 hown hE.1.1 hP hD hS 0 rfl rfl 43 (by decide) (by rw [tFX12_43]; exact hq _ pw_209) (fun _ h9 => h9) (by rw [tFX12_43]) hin (by rw [tFX12_43]; rfl) (by rw [tFX12_43]; decide +kernel) rfl rfl (by rw [hn196]; decide) dX12_init_282 (fun H locs hP hD hS => ?_)
  obtain ⟨fs200, e201⟩ : ∃ z : List Value, z = fs194.set 43 (.ref q197) := ⟨_, rfl⟩
  have hn202 : fs200.length = 134 := by rw [e201, List.length_set]; exact hn196
  have hP : va_P G.1 pCl ((h0, .inr (9, fs200)) :: wa198) H := by rw [e201]; exact hP
  have hD : va_D A ((h0, .inr (9, fs200)) :: wa198) := by rw [e201]; exact hD
  refine lv_aload_n hx hb dX12_init_285 rfl (lv_at hl 0 rfl) ?_
  refine lv_sipush (v := 620) hx hb dX12_init_286 (by decide) ?_
  refine pn_newa (G := G) (atype := .int) (a0 := (620, .inl (fun _ => 0))) (N' := 620) hx hb (hq _ pw_636) rfl hE.1.2.1 hP hD hS hA (fun _ => rfl) (by decide) (by decide) (by decide) (Nat.le_of_ble_eq_true rfl) (Nat.le_of_ble_eq_true rfl) dX12_init_289 (fun q203 H hP hD hS => ?_)
  obtain ⟨wa204, ew205⟩ : ∃ z : va_W, z = wa198 ++ [(q203, .inl (G.2.1 0, 620, .inl (fun _ => 0)))] := ⟨_, rfl⟩
  have hP : va_P G.1 pCl ((h0, .inr (9, fs200)) :: wa204) H := by rw [ew205]; exact hP
  have hD : va_D A ((h0, .inr (9, fs200)) :: wa204) := by rw [ew205]; exact hD
  refine W.widen (k := 33) (n := 192804) (Nat.le_of_ble_eq_true rfl) (Nat.le_of_ble_eq_true rfl) ?_
  refine va_putF (D := G.1) (ci := 9) (v := .ref q203) (ty := (.array .int)) (C := RX12) (T := TX12) (N := 134) hx hb hq pin_wsX120 tyX12 tyX12_ok nmX12 hown hE.1.1 hP hD hS 0 rfl rfl 45 (by decide) (by rw [tFX12_45]; exact hq _ pw_210) (fun _ h9 => h9) (by rw [tFX12_45]) hin (by rw [tFX12_45]; rfl) (by rw [tFX12_45]; decide +kernel) rfl rfl (by rw [hn202]; decide) dX12_init_291 (fun H locs hP hD hS => ?_)
  obtain ⟨fs206, e207⟩ : ∃ z : List Value, z = fs200.set 45 (.ref q203) := ⟨_, rfl⟩
  have hn208 : fs206.length = 134 := by rw [e207, List.length_set]; exact hn202
  have hP : va_P G.1 pCl ((h0, .inr (9, fs206)) :: wa204) H := by rw [e207]; exact hP
  have hD : va_D A ((h0, .inr (9, fs206)) :: wa204) := by rw [e207]; exact hD
  refine lv_aload_n hx hb dX12_init_294 rfl (lv_at hl 0 rfl) ?_
  refine lv_sipush (v := 620) hx hb dX12_init_295 (by decide) ?_
  refine pn_newa (G := G) (atype := .int) (a0 := (620, .inl (fun _ => 0))) (N' := 620) hx hb (hq _ pw_636) rfl hE.1.2.1 hP hD hS hA (fun _ => rfl) (by decide) (by decide) (by decide) (Nat.le_of_ble_eq_true rfl) (Nat.le_of_ble_eq_true rfl) dX12_init_298 (fun q209 H hP hD hS => ?_)
  obtain ⟨wa210, ew211⟩ : ∃ z : va_W, z = wa204 ++ [(q209, .inl (G.2.1 0, 620, .inl (fun _ => 0)))] := ⟨_, rfl⟩
  have hP : va_P G.1 pCl ((h0, .inr (9, fs206)) :: wa210) H := by rw [ew211]; exact hP
  have hD : va_D A ((h0, .inr (9, fs206)) :: wa210) := by rw [ew211]; exact hD
  refine W.widen (k := 34) (n := 193424) (Nat.le_of_ble_eq_true rfl) (Nat.le_of_ble_eq_true rfl) ?_
  refine va_putF (D := G.1) (ci := 9) (v := .ref q209) (ty := (.array .int)) (C := RX12) (T := TX12) (N := 134) hx hb hq pin_wsX120 tyX12 tyX12_ok nmX12 hown hE.1.1 hP hD hS 0 rfl rfl 46 (by decide) (by rw [tFX12_46]; exact hq _ pw_211) (fun _ h9 => h9) (by rw [tFX12_46]) hin (by rw [tFX12_46]; rfl) (by rw [tFX12_46]; decide +kernel) rfl rfl (by rw [hn208]; decide) dX12_init_300 (fun H locs hP hD hS => ?_)
  obtain ⟨fs212, e213⟩ : ∃ z : List Value, z = fs206.set 46 (.ref q209) := ⟨_, rfl⟩
  have hn214 : fs212.length = 134 := by rw [e213, List.length_set]; exact hn208
  have hP : va_P G.1 pCl ((h0, .inr (9, fs212)) :: wa210) H := by rw [e213]; exact hP
  have hD : va_D A ((h0, .inr (9, fs212)) :: wa210) := by rw [e213]; exact hD
  refine lv_aload_n hx hb dX12_init_303 rfl (lv_at hl 0 rfl) ?_
  refine lv_sipush (v := 620) hx hb dX12_init_304 (by decide) ?_
  refine pn_newa (G := G) (atype := .int) (a0 := (620, .inl (fun _ => 0))) (N' := 620) hx hb (hq _ pw_636) rfl hE.1.2.1 hP hD hS hA (fun _ => rfl) (by decide) (by decide) (by decide) (Nat.le_of_ble_eq_true rfl) (Nat.le_of_ble_eq_true rfl) dX12_init_307 (fun q215 H hP hD hS => ?_)
  obtain ⟨wa216, ew217⟩ : ∃ z : va_W, z = wa210 ++ [(q215, .inl (G.2.1 0, 620, .inl (fun _ => 0)))] := ⟨_, rfl⟩
  have hP : va_P G.1 pCl ((h0, .inr (9, fs212)) :: wa216) H := by rw [ew217]; exact hP
  have hD : va_D A ((h0, .inr (9, fs212)) :: wa216) := by rw [ew217]; exact hD
  refine W.widen (k := 35) (n := 194044) (Nat.le_of_ble_eq_true rfl) (Nat.le_of_ble_eq_true rfl) ?_
  refine va_putF (D := G.1) (ci := 9) (v := .ref q215) (ty := (.array .int)) (C := RX12) (T := TX12) (N := 134) hx hb hq pin_wsX120 tyX12 tyX12_ok nmX12 hown hE.1.1 hP hD hS 0 rfl rfl 47 (by decide) (by rw [tFX12_47]; exact hq _ pw_212) (fun _ h9 => h9) (by rw [tFX12_47]) hin (by rw [tFX12_47]; rfl) (by rw [tFX12_47]; decide +kernel) rfl rfl (by rw [hn214]; decide) dX12_init_309 (fun H locs hP hD hS => ?_)
  obtain ⟨fs218, e219⟩ : ∃ z : List Value, z = fs212.set 47 (.ref q215) := ⟨_, rfl⟩
  have hn220 : fs218.length = 134 := by rw [e219, List.length_set]; exact hn214
  have hP : va_P G.1 pCl ((h0, .inr (9, fs218)) :: wa216) H := by rw [e219]; exact hP
  have hD : va_D A ((h0, .inr (9, fs218)) :: wa216) := by rw [e219]; exact hD
  refine lv_aload_n hx hb dX12_init_312 rfl (lv_at hl 0 rfl) ?_
  refine lv_sipush (v := 620) hx hb dX12_init_313 (by decide) ?_
  refine pn_newa (G := G) (atype := .int) (a0 := (620, .inl (fun _ => 0))) (N' := 620) hx hb (hq _ pw_636) rfl hE.1.2.1 hP hD hS hA (fun _ => rfl) (by decide) (by decide) (by decide) (Nat.le_of_ble_eq_true rfl) (Nat.le_of_ble_eq_true rfl) dX12_init_316 (fun q221 H hP hD hS => ?_)
  obtain ⟨wa222, ew223⟩ : ∃ z : va_W, z = wa216 ++ [(q221, .inl (G.2.1 0, 620, .inl (fun _ => 0)))] := ⟨_, rfl⟩
  have hP : va_P G.1 pCl ((h0, .inr (9, fs218)) :: wa222) H := by rw [ew223]; exact hP
  have hD : va_D A ((h0, .inr (9, fs218)) :: wa222) := by rw [ew223]; exact hD
  refine W.widen (k := 36) (n := 194664) (Nat.le_of_ble_eq_true rfl) (Nat.le_of_ble_eq_true rfl) ?_
  refine va_putF (D := G.1) (ci := 9) (v := .ref q221) (ty := (.array .int)) (C := RX12) (T := TX12) (N := 134) hx hb hq pin_wsX120 tyX12 tyX12_ok nmX12 hown hE.1.1 hP hD hS 0 rfl rfl 48 (by decide) (by rw [tFX12_48]; exact hq _ pw_213) (fun _ h9 => h9) (by rw [tFX12_48]) hin (by rw [tFX12_48]; rfl) (by rw [tFX12_48]; decide +kernel) rfl rfl (by rw [hn220]; decide) dX12_init_318 (fun H locs hP hD hS => ?_)
  obtain ⟨fs224, e225⟩ : ∃ z : List Value, z = fs218.set 48 (.ref q221) := ⟨_, rfl⟩
  have hn226 : fs224.length = 134 := by rw [e225, List.length_set]; exact hn220
  have hP : va_P G.1 pCl ((h0, .inr (9, fs224)) :: wa222) H := by rw [e225]; exact hP
  have hD : va_D A ((h0, .inr (9, fs224)) :: wa222) := by rw [e225]; exact hD
  refine lv_aload_n hx hb dX12_init_321 rfl (lv_at hl 0 rfl) ?_
  refine lv_sipush (v := 920) hx hb dX12_init_322 (by decide) ?_
  refine pn_newa (G := G) (atype := .int) (a0 := (920, .inl (fun _ => 0))) (N' := 920) hx hb (hq _ pw_636) rfl hE.1.2.1 hP hD hS hA (fun _ => rfl) (by decide) (by decide) (by decide) (Nat.le_of_ble_eq_true rfl) (Nat.le_of_ble_eq_true rfl) dX12_init_325 (fun q227 H hP hD hS => ?_)
  have en228 : fs224 = [.int 0, .ref q1, .int 0, .ref q7, .int 0, .ref q13, .ref q19, .ref q25, .ref q31, .int 0, .ref q37, .ref q45, .ref q51, .int 0, .int 0, .int 0, .int 0, .ref q57, .ref q63, .ref q69, .ref q75, .ref q83, .ref q89, .ref q95, .ref q101, .ref q107, .ref q113, .int 0, .ref q121, .ref q127, .ref q133, .int 0, .ref q139, .ref q145, .int 0, .int 0, .ref q151, .ref q159, .ref q165, .ref q171, .ref q177, .ref q183, .ref q189, .ref q197, .int 0, .ref q203, .ref q209, .ref q215, .ref q221, .int 0, .null, .null, .null, .null, .null, .null, .null, .null, .null, .int 0, .int 0, .null, .null, .null, .int 0, .int 0, .int 0, .int 0, .int 0, .int 0, .int 0, .null, .null, .int 0, .int 0, .int 0, .int 0, .int 0, .int 0, .int 0, .int 0, .int 0, .int 0, .int 0, .null, .int 0, .null, .int 0, .null, .null, .null, .null, .null, .null, .null, .null, .null, .int 0, .int 0, .int 0, .null, .int 0, .int 0, .null, .null, .null, .null, .null, .null, .null, .null, .int 0, .null, .null, .null, .int 0, .int 0, .int 0, .int 0, .int 0, .int 0, .int 0, .int 0, .int 0, .int 0, .int 0, .int 0, .null, .int 0, .null, .int 0, .null, .null, .null] := by rw [e225, e219, e213, e207, e201, e195, en190]; rfl
  have en229 : wa222 = [(q1, .inl (G.2.1 0, 5000, .inl (fun _ => 0))), (q7, .inl (G.2.1 0, 5000, .inl (fun _ => 0))), (q13, .inl (G.2.1 0, 5001, .inl (fun _ => 0))), (q19, .inl (G.2.1 0, 5001, .inl (fun _ => 0))), (q25, .inl (G.2.1 0, 5001, .inl (fun _ => 0))), (q31, .inl (G.2.1 0, 5001, .inl (fun _ => 0))), (q37, .inl (G.2.1 0, 5100, .inl (fun _ => 0))), (q45, .inl (G.2.1 0, 5100, .inl (fun _ => 0))), (q51, .inl (G.2.1 1, 5100, .inl (fun _ => 0))), (q57, .inl (G.2.1 0, 12000, .inl (fun _ => 0))), (q63, .inl (G.2.1 0, 12000, .inl (fun _ => 0))), (q69, .inl (G.2.1 0, 12000, .inl (fun _ => 0))), (q75, .inl (G.2.1 0, 12000, .inl (fun _ => 0))), (q83, .inl (G.2.1 0, 12000, .inl (fun _ => 0))), (q89, .inl (G.2.1 0, 12000, .inl (fun _ => 0))), (q95, .inl (G.2.1 0, 12000, .inl (fun _ => 0))), (q101, .inl (G.2.1 0, 12000, .inl (fun _ => 0))), (q107, .inl (G.2.1 0, 12000, .inl (fun _ => 0))), (q113, .inl (G.2.1 0, 12000, .inl (fun _ => 0))), (q121, .inl (G.2.1 0, 5000, .inl (fun _ => 0))), (q127, .inl (G.2.1 3, 5000, .inl (fun _ => 0))), (q133, .inl (G.2.1 0, 5000, .inl (fun _ => 0))), (q139, .inl (G.2.1 0, 5000, .inl (fun _ => 0))), (q145, .inl (G.2.1 0, 5000, .inl (fun _ => 0))), (q151, .inl (G.2.1 0, 40, .inl (fun _ => 0))), (q159, .inl (G.2.1 0, 40, .inl (fun _ => 0))), (q165, .inl (G.2.1 3, 40, .inl (fun _ => 0))), (q171, .inl (G.2.1 0, 40, .inl (fun _ => 0))), (q177, .inl (G.2.1 0, 40, .inl (fun _ => 0))), (q183, .inl (G.2.1 0, 40, .inl (fun _ => 0))), (q189, .inl (G.2.1 0, 40, .inl (fun _ => 0))), (q197, .inl (G.2.1 3, 1600, .inl (fun _ => 0))), (q203, .inl (G.2.1 0, 620, .inl (fun _ => 0))), (q209, .inl (G.2.1 0, 620, .inl (fun _ => 0))), (q215, .inl (G.2.1 0, 620, .inl (fun _ => 0))), (q221, .inl (G.2.1 0, 620, .inl (fun _ => 0)))] := by rw [ew223, ew217, ew211, ew205, ew199, ew193, en191]; rfl
  obtain ⟨wa230, ew231⟩ : ∃ z : va_W, z = wa222 ++ [(q227, .inl (G.2.1 0, 920, .inl (fun _ => 0)))] := ⟨_, rfl⟩
  have hP : va_P G.1 pCl ((h0, .inr (9, fs224)) :: wa230) H := by rw [ew231]; exact hP
  have hD : va_D A ((h0, .inr (9, fs224)) :: wa230) := by rw [ew231]; exact hD
  refine W.widen (k := 37) (n := 195584) (Nat.le_of_ble_eq_true rfl) (Nat.le_of_ble_eq_true rfl) ?_
  refine va_putF (D := G.1) (ci := 9) (v := .ref q227) (ty := (.array .int)) (C := RX12) (T := TX12) (N := 134) hx hb hq pin_wsX120 tyX12 tyX12_ok nmX12 hown hE.1.1 hP hD hS 0 rfl rfl 50 (by decide) (by rw [tFX12_50]; exact hq _ pw_214) (fun _ h9 => h9) (by rw [tFX12_50]) hin (by rw [tFX12_50]; rfl) (by rw [tFX12_50]; decide +kernel) rfl rfl (by rw [hn226]; decide) dX12_init_327 (fun H locs hP hD hS => ?_)
  obtain ⟨fs232, e233⟩ : ∃ z : List Value, z = fs224.set 50 (.ref q227) := ⟨_, rfl⟩
  have hn234 : fs232.length = 134 := by rw [e233, List.length_set]; exact hn226
  have hP : va_P G.1 pCl ((h0, .inr (9, fs232)) :: wa230) H := by rw [e233]; exact hP
  have hD : va_D A ((h0, .inr (9, fs232)) :: wa230) := by rw [e233]; exact hD
  refine lv_aload_n hx hb dX12_init_330 rfl (lv_at hl 0 rfl) ?_
  refine lv_sipush (v := 920) hx hb dX12_init_331 (by decide) ?_
  refine pn_newa (G := G) (atype := .int) (a0 := (920, .inl (fun _ => 0))) (N' := 920) hx hb (hq _ pw_636) rfl hE.1.2.1 hP hD hS hA (fun _ => rfl) (by decide) (by decide) (by decide) (Nat.le_of_ble_eq_true rfl) (Nat.le_of_ble_eq_true rfl) dX12_init_334 (fun q235 H hP hD hS => ?_)
  obtain ⟨wa236, ew237⟩ : ∃ z : va_W, z = wa230 ++ [(q235, .inl (G.2.1 0, 920, .inl (fun _ => 0)))] := ⟨_, rfl⟩
  have hP : va_P G.1 pCl ((h0, .inr (9, fs232)) :: wa236) H := by rw [ew237]; exact hP
  have hD : va_D A ((h0, .inr (9, fs232)) :: wa236) := by rw [ew237]; exact hD
  refine W.widen (k := 38) (n := 196504) (Nat.le_of_ble_eq_true rfl) (Nat.le_of_ble_eq_true rfl) ?_
  refine va_putF (D := G.1) (ci := 9) (v := .ref q235) (ty := (.array .int)) (C := RX12) (T := TX12) (N := 134) hx hb hq pin_wsX120 tyX12 tyX12_ok nmX12 hown hE.1.1 hP hD hS 0 rfl rfl 51 (by decide) (by rw [tFX12_51]; exact hq _ pw_215) (fun _ h9 => h9) (by rw [tFX12_51]) hin (by rw [tFX12_51]; rfl) (by rw [tFX12_51]; decide +kernel) rfl rfl (by rw [hn234]; decide) dX12_init_336 (fun H locs hP hD hS => ?_)
  obtain ⟨fs238, e239⟩ : ∃ z : List Value, z = fs232.set 51 (.ref q235) := ⟨_, rfl⟩
  have hn240 : fs238.length = 134 := by rw [e239, List.length_set]; exact hn234
  have hP : va_P G.1 pCl ((h0, .inr (9, fs238)) :: wa236) H := by rw [e239]; exact hP
  have hD : va_D A ((h0, .inr (9, fs238)) :: wa236) := by rw [e239]; exact hD
  refine lv_aload_n hx hb dX12_init_339 rfl (lv_at hl 0 rfl) ?_
  refine lv_sipush (v := 920) hx hb dX12_init_340 (by decide) ?_
  refine pn_newa (G := G) (atype := .int) (a0 := (920, .inl (fun _ => 0))) (N' := 920) hx hb (hq _ pw_636) rfl hE.1.2.1 hP hD hS hA (fun _ => rfl) (by decide) (by decide) (by decide) (Nat.le_of_ble_eq_true rfl) (Nat.le_of_ble_eq_true rfl) dX12_init_343 (fun q241 H hP hD hS => ?_)
  obtain ⟨wa242, ew243⟩ : ∃ z : va_W, z = wa236 ++ [(q241, .inl (G.2.1 0, 920, .inl (fun _ => 0)))] := ⟨_, rfl⟩
  have hP : va_P G.1 pCl ((h0, .inr (9, fs238)) :: wa242) H := by rw [ew243]; exact hP
  have hD : va_D A ((h0, .inr (9, fs238)) :: wa242) := by rw [ew243]; exact hD
  refine W.widen (k := 39) (n := 197424) (Nat.le_of_ble_eq_true rfl) (Nat.le_of_ble_eq_true rfl) ?_
  refine va_putF (D := G.1) (ci := 9) (v := .ref q241) (ty := (.array .int)) (C := RX12) (T := TX12) (N := 134) hx hb hq pin_wsX120 tyX12 tyX12_ok nmX12 hown hE.1.1 hP hD hS 0 rfl rfl 52 (by decide) (by rw [tFX12_52]; exact hq _ pw_216) (fun _ h9 => h9) (by rw [tFX12_52]) hin (by rw [tFX12_52]; rfl) (by rw [tFX12_52]; decide +kernel) rfl rfl (by rw [hn240]; decide) dX12_init_345 (fun H locs hP hD hS => ?_)
  obtain ⟨fs244, e245⟩ : ∃ z : List Value, z = fs238.set 52 (.ref q241) := ⟨_, rfl⟩
  have hn246 : fs244.length = 134 := by rw [e245, List.length_set]; exact hn240
  have hP : va_P G.1 pCl ((h0, .inr (9, fs244)) :: wa242) H := by rw [e245]; exact hP
  have hD : va_D A ((h0, .inr (9, fs244)) :: wa242) := by rw [e245]; exact hD
  refine lv_aload_n hx hb dX12_init_348 rfl (lv_at hl 0 rfl) ?_
  refine lv_sipush (v := 920) hx hb dX12_init_349 (by decide) ?_
  refine pn_newa (G := G) (atype := .int) (a0 := (920, .inl (fun _ => 0))) (N' := 920) hx hb (hq _ pw_636) rfl hE.1.2.1 hP hD hS hA (fun _ => rfl) (by decide) (by decide) (by decide) (Nat.le_of_ble_eq_true rfl) (Nat.le_of_ble_eq_true rfl) dX12_init_352 (fun q247 H hP hD hS => ?_)
  obtain ⟨wa248, ew249⟩ : ∃ z : va_W, z = wa242 ++ [(q247, .inl (G.2.1 0, 920, .inl (fun _ => 0)))] := ⟨_, rfl⟩
  have hP : va_P G.1 pCl ((h0, .inr (9, fs244)) :: wa248) H := by rw [ew249]; exact hP
  have hD : va_D A ((h0, .inr (9, fs244)) :: wa248) := by rw [ew249]; exact hD
  refine W.widen (k := 40) (n := 198344) (Nat.le_of_ble_eq_true rfl) (Nat.le_of_ble_eq_true rfl) ?_
  refine va_putF (D := G.1) (ci := 9) (v := .ref q247) (ty := (.array .int)) (C := RX12) (T := TX12) (N := 134) hx hb hq pin_wsX120 tyX12 tyX12_ok nmX12 hown hE.1.1 hP hD hS 0 rfl rfl 53 (by decide) (by rw [tFX12_53]; exact hq _ pw_217) (fun _ h9 => h9) (by rw [tFX12_53]) hin (by rw [tFX12_53]; rfl) (by rw [tFX12_53]; decide +kernel) rfl rfl (by rw [hn246]; decide) dX12_init_354 (fun H locs hP hD hS => ?_)
  obtain ⟨fs250, e251⟩ : ∃ z : List Value, z = fs244.set 53 (.ref q247) := ⟨_, rfl⟩
  have hn252 : fs250.length = 134 := by rw [e251, List.length_set]; exact hn246
  have hP : va_P G.1 pCl ((h0, .inr (9, fs250)) :: wa248) H := by rw [e251]; exact hP
  have hD : va_D A ((h0, .inr (9, fs250)) :: wa248) := by rw [e251]; exact hD
  refine lv_aload_n hx hb dX12_init_357 rfl (lv_at hl 0 rfl) ?_
  refine lv_sipush (v := 920) hx hb dX12_init_358 (by decide) ?_
  refine pn_newa (G := G) (atype := .int) (a0 := (920, .inl (fun _ => 0))) (N' := 920) hx hb (hq _ pw_636) rfl hE.1.2.1 hP hD hS hA (fun _ => rfl) (by decide) (by decide) (by decide) (Nat.le_of_ble_eq_true rfl) (Nat.le_of_ble_eq_true rfl) dX12_init_361 (fun q253 H hP hD hS => ?_)
  obtain ⟨wa254, ew255⟩ : ∃ z : va_W, z = wa248 ++ [(q253, .inl (G.2.1 0, 920, .inl (fun _ => 0)))] := ⟨_, rfl⟩
  have hP : va_P G.1 pCl ((h0, .inr (9, fs250)) :: wa254) H := by rw [ew255]; exact hP
  have hD : va_D A ((h0, .inr (9, fs250)) :: wa254) := by rw [ew255]; exact hD
  refine W.widen (k := 41) (n := 199264) (Nat.le_of_ble_eq_true rfl) (Nat.le_of_ble_eq_true rfl) ?_
  refine va_putF (D := G.1) (ci := 9) (v := .ref q253) (ty := (.array .int)) (C := RX12) (T := TX12) (N := 134) hx hb hq pin_wsX120 tyX12 tyX12_ok nmX12 hown hE.1.1 hP hD hS 0 rfl rfl 54 (by decide) (by rw [tFX12_54]; exact hq _ pw_218) (fun _ h9 => h9) (by rw [tFX12_54]) hin (by rw [tFX12_54]; rfl) (by rw [tFX12_54]; decide +kernel) rfl rfl (by rw [hn252]; decide) dX12_init_363 (fun H locs hP hD hS => ?_)
  obtain ⟨fs256, e257⟩ : ∃ z : List Value, z = fs250.set 54 (.ref q253) := ⟨_, rfl⟩
  have hn258 : fs256.length = 134 := by rw [e257, List.length_set]; exact hn252
  have hP : va_P G.1 pCl ((h0, .inr (9, fs256)) :: wa254) H := by rw [e257]; exact hP
  have hD : va_D A ((h0, .inr (9, fs256)) :: wa254) := by rw [e257]; exact hD
  refine lv_aload_n hx hb dX12_init_366 rfl (lv_at hl 0 rfl) ?_
  refine lv_sipush (v := 920) hx hb dX12_init_367 (by decide) ?_
  refine pn_newa (G := G) (atype := .int) (a0 := (920, .inl (fun _ => 0))) (N' := 920) hx hb (hq _ pw_636) rfl hE.1.2.1 hP hD hS hA (fun _ => rfl) (by decide) (by decide) (by decide) (Nat.le_of_ble_eq_true rfl) (Nat.le_of_ble_eq_true rfl) dX12_init_370 (fun q259 H hP hD hS => ?_)
  obtain ⟨wa260, ew261⟩ : ∃ z : va_W, z = wa254 ++ [(q259, .inl (G.2.1 0, 920, .inl (fun _ => 0)))] := ⟨_, rfl⟩
  have hP : va_P G.1 pCl ((h0, .inr (9, fs256)) :: wa260) H := by rw [ew261]; exact hP
  have hD : va_D A ((h0, .inr (9, fs256)) :: wa260) := by rw [ew261]; exact hD
  refine W.widen (k := 42) (n := 200184) (Nat.le_of_ble_eq_true rfl) (Nat.le_of_ble_eq_true rfl) ?_
  refine va_putF (D := G.1) (ci := 9) (v := .ref q259) (ty := (.array .int)) (C := RX12) (T := TX12) (N := 134) hx hb hq pin_wsX120 tyX12 tyX12_ok nmX12 hown hE.1.1 hP hD hS 0 rfl rfl 55 (by decide) (by rw [tFX12_55]; exact hq _ pw_219) (fun _ h9 => h9) (by rw [tFX12_55]) hin (by rw [tFX12_55]; rfl) (by rw [tFX12_55]; decide +kernel) rfl rfl (by rw [hn258]; decide) dX12_init_372 (fun H locs hP hD hS => ?_)
  obtain ⟨fs262, e263⟩ : ∃ z : List Value, z = fs256.set 55 (.ref q259) := ⟨_, rfl⟩
  have hn264 : fs262.length = 134 := by rw [e263, List.length_set]; exact hn258
  have hP : va_P G.1 pCl ((h0, .inr (9, fs262)) :: wa260) H := by rw [e263]; exact hP
  have hD : va_D A ((h0, .inr (9, fs262)) :: wa260) := by rw [e263]; exact hD
  refine lv_aload_n hx hb dX12_init_375 rfl (lv_at hl 0 rfl) ?_
  refine lv_sipush (v := 920) hx hb dX12_init_376 (by decide) ?_
  refine pn_newa (G := G) (atype := .int) (a0 := (920, .inl (fun _ => 0))) (N' := 920) hx hb (hq _ pw_636) rfl hE.1.2.1 hP hD hS hA (fun _ => rfl) (by decide) (by decide) (by decide) (Nat.le_of_ble_eq_true rfl) (Nat.le_of_ble_eq_true rfl) dX12_init_379 (fun q265 H hP hD hS => ?_)
  have en266 : fs262 = [.int 0, .ref q1, .int 0, .ref q7, .int 0, .ref q13, .ref q19, .ref q25, .ref q31, .int 0, .ref q37, .ref q45, .ref q51, .int 0, .int 0, .int 0, .int 0, .ref q57, .ref q63, .ref q69, .ref q75, .ref q83, .ref q89, .ref q95, .ref q101, .ref q107, .ref q113, .int 0, .ref q121, .ref q127, .ref q133, .int 0, .ref q139, .ref q145, .int 0, .int 0, .ref q151, .ref q159, .ref q165, .ref q171, .ref q177, .ref q183, .ref q189, .ref q197, .int 0, .ref q203, .ref q209, .ref q215, .ref q221, .int 0, .ref q227, .ref q235, .ref q241, .ref q247, .ref q253, .ref q259, .null, .null, .null, .int 0, .int 0, .null, .null, .null, .int 0, .int 0, .int 0, .int 0, .int 0, .int 0, .int 0, .null, .null, .int 0, .int 0, .int 0, .int 0, .int 0, .int 0, .int 0, .int 0, .int 0, .int 0, .int 0, .null, .int 0, .null, .int 0, .null, .null, .null, .null, .null, .null, .null, .null, .null, .int 0, .int 0, .int 0, .null, .int 0, .int 0, .null, .null, .null, .null, .null, .null, .null, .null, .int 0, .null, .null, .null, .int 0, .int 0, .int 0, .int 0, .int 0, .int 0, .int 0, .int 0, .int 0, .int 0, .int 0, .int 0, .null, .int 0, .null, .int 0, .null, .null, .null] := by rw [e263, e257, e251, e245, e239, e233, en228]; rfl
  have en267 : wa260 = [(q1, .inl (G.2.1 0, 5000, .inl (fun _ => 0))), (q7, .inl (G.2.1 0, 5000, .inl (fun _ => 0))), (q13, .inl (G.2.1 0, 5001, .inl (fun _ => 0))), (q19, .inl (G.2.1 0, 5001, .inl (fun _ => 0))), (q25, .inl (G.2.1 0, 5001, .inl (fun _ => 0))), (q31, .inl (G.2.1 0, 5001, .inl (fun _ => 0))), (q37, .inl (G.2.1 0, 5100, .inl (fun _ => 0))), (q45, .inl (G.2.1 0, 5100, .inl (fun _ => 0))), (q51, .inl (G.2.1 1, 5100, .inl (fun _ => 0))), (q57, .inl (G.2.1 0, 12000, .inl (fun _ => 0))), (q63, .inl (G.2.1 0, 12000, .inl (fun _ => 0))), (q69, .inl (G.2.1 0, 12000, .inl (fun _ => 0))), (q75, .inl (G.2.1 0, 12000, .inl (fun _ => 0))), (q83, .inl (G.2.1 0, 12000, .inl (fun _ => 0))), (q89, .inl (G.2.1 0, 12000, .inl (fun _ => 0))), (q95, .inl (G.2.1 0, 12000, .inl (fun _ => 0))), (q101, .inl (G.2.1 0, 12000, .inl (fun _ => 0))), (q107, .inl (G.2.1 0, 12000, .inl (fun _ => 0))), (q113, .inl (G.2.1 0, 12000, .inl (fun _ => 0))), (q121, .inl (G.2.1 0, 5000, .inl (fun _ => 0))), (q127, .inl (G.2.1 3, 5000, .inl (fun _ => 0))), (q133, .inl (G.2.1 0, 5000, .inl (fun _ => 0))), (q139, .inl (G.2.1 0, 5000, .inl (fun _ => 0))), (q145, .inl (G.2.1 0, 5000, .inl (fun _ => 0))), (q151, .inl (G.2.1 0, 40, .inl (fun _ => 0))), (q159, .inl (G.2.1 0, 40, .inl (fun _ => 0))), (q165, .inl (G.2.1 3, 40, .inl (fun _ => 0))), (q171, .inl (G.2.1 0, 40, .inl (fun _ => 0))), (q177, .inl (G.2.1 0, 40, .inl (fun _ => 0))), (q183, .inl (G.2.1 0, 40, .inl (fun _ => 0))), (q189, .inl (G.2.1 0, 40, .inl (fun _ => 0))), (q197, .inl (G.2.1 3, 1600, .inl (fun _ => 0))), (q203, .inl (G.2.1 0, 620, .inl (fun _ => 0))), (q209, .inl (G.2.1 0, 620, .inl (fun _ => 0))), (q215, .inl (G.2.1 0, 620, .inl (fun _ => 0))), (q221, .inl (G.2.1 0, 620, .inl (fun _ => 0))), (q227, .inl (G.2.1 0, 920, .inl (fun _ => 0))), (q235, .inl (G.2.1 0, 920, .inl (fun _ => 0))), (q241, .inl (G.2.1 0, 920, .inl (fun _ => 0))), (q247, .inl (G.2.1 0, 920, .inl (fun _ => 0))), (q253, .inl (G.2.1 0, 920, .inl (fun _ => 0))), (q259, .inl (G.2.1 0, 920, .inl (fun _ => 0)))] := by rw [ew261, ew255, ew249, ew243, ew237, ew231, en229]; rfl
  obtain ⟨wa268, ew269⟩ : ∃ z : va_W, z = wa260 ++ [(q265, .inl (G.2.1 0, 920, .inl (fun _ => 0)))] := ⟨_, rfl⟩
  have hP : va_P G.1 pCl ((h0, .inr (9, fs262)) :: wa268) H := by rw [ew269]; exact hP
  have hD : va_D A ((h0, .inr (9, fs262)) :: wa268) := by rw [ew269]; exact hD
  refine W.widen (k := 43) (n := 201104) (Nat.le_of_ble_eq_true rfl) (Nat.le_of_ble_eq_true rfl) ?_
  refine va_putF (D := G.1) (ci := 9) (v := .ref q265) (ty := (.array .int)) (C := RX12) (T := TX12) (N := 134) hx hb hq pin_wsX120 tyX12 tyX12_ok nmX12 hown hE.1.1 hP hD hS 0 rfl rfl 56 (by decide) (by rw [tFX12_56]; exact hq _ pw_220) (fun _ h9 => h9) (by rw [tFX12_56]) hin (by rw [tFX12_56]; rfl) (by rw [tFX12_56]; decide +kernel) rfl rfl (by rw [hn264]; decide) dX12_init_381 (fun H locs hP hD hS => ?_)
  obtain ⟨fs270, e271⟩ : ∃ z : List Value, z = fs262.set 56 (.ref q265) := ⟨_, rfl⟩
  have hn272 : fs270.length = 134 := by rw [e271, List.length_set]; exact hn264
  have hP : va_P G.1 pCl ((h0, .inr (9, fs270)) :: wa268) H := by rw [e271]; exact hP
  have hD : va_D A ((h0, .inr (9, fs270)) :: wa268) := by rw [e271]; exact hD
  refine lv_aload_n hx hb dX12_init_384 rfl (lv_at hl 0 rfl) ?_
  refine lv_sipush (v := 920) hx hb dX12_init_385 (by decide) ?_
  refine pn_newa (G := G) (atype := .int) (a0 := (920, .inl (fun _ => 0))) (N' := 920) hx hb (hq _ pw_636) rfl hE.1.2.1 hP hD hS hA (fun _ => rfl) (by decide) (by decide) (by decide) (Nat.le_of_ble_eq_true rfl) (Nat.le_of_ble_eq_true rfl) dX12_init_388 (fun q273 H hP hD hS => ?_)
  obtain ⟨wa274, ew275⟩ : ∃ z : va_W, z = wa268 ++ [(q273, .inl (G.2.1 0, 920, .inl (fun _ => 0)))] := ⟨_, rfl⟩
  have hP : va_P G.1 pCl ((h0, .inr (9, fs270)) :: wa274) H := by rw [ew275]; exact hP
  have hD : va_D A ((h0, .inr (9, fs270)) :: wa274) := by rw [ew275]; exact hD
  refine W.widen (k := 44) (n := 202024) (Nat.le_of_ble_eq_true rfl) (Nat.le_of_ble_eq_true rfl) ?_
  refine va_putF (D := G.1) (ci := 9) (v := .ref q273) (ty := (.array .int)) (C := RX12) (T := TX12) (N := 134) hx hb hq pin_wsX120 tyX12 tyX12_ok nmX12 hown hE.1.1 hP hD hS 0 rfl rfl 57 (by decide) (by rw [tFX12_57]; exact hq _ pw_221) (fun _ h9 => h9) (by rw [tFX12_57]) hin (by rw [tFX12_57]; rfl) (by rw [tFX12_57]; decide +kernel) rfl rfl (by rw [hn272]; decide) dX12_init_390 (fun H locs hP hD hS => ?_)
  obtain ⟨fs276, e277⟩ : ∃ z : List Value, z = fs270.set 57 (.ref q273) := ⟨_, rfl⟩
  have hn278 : fs276.length = 134 := by rw [e277, List.length_set]; exact hn272
  have hP : va_P G.1 pCl ((h0, .inr (9, fs276)) :: wa274) H := by rw [e277]; exact hP
  have hD : va_D A ((h0, .inr (9, fs276)) :: wa274) := by rw [e277]; exact hD
  refine lv_aload_n hx hb dX12_init_393 rfl (lv_at hl 0 rfl) ?_
  refine lv_sipush (v := 920) hx hb dX12_init_394 (by decide) ?_
  refine pn_newa (G := G) (atype := .int) (a0 := (920, .inl (fun _ => 0))) (N' := 920) hx hb (hq _ pw_636) rfl hE.1.2.1 hP hD hS hA (fun _ => rfl) (by decide) (by decide) (by decide) (Nat.le_of_ble_eq_true rfl) (Nat.le_of_ble_eq_true rfl) dX12_init_397 (fun q279 H hP hD hS => ?_)
  obtain ⟨wa280, ew281⟩ : ∃ z : va_W, z = wa274 ++ [(q279, .inl (G.2.1 0, 920, .inl (fun _ => 0)))] := ⟨_, rfl⟩
  have hP : va_P G.1 pCl ((h0, .inr (9, fs276)) :: wa280) H := by rw [ew281]; exact hP
  have hD : va_D A ((h0, .inr (9, fs276)) :: wa280) := by rw [ew281]; exact hD
  refine W.widen (k := 45) (n := 202944) (Nat.le_of_ble_eq_true rfl) (Nat.le_of_ble_eq_true rfl) ?_
  refine va_putF (D := G.1) (ci := 9) (v := .ref q279) (ty := (.array .int)) (C := RX12) (T := TX12) (N := 134) hx hb hq pin_wsX120 tyX12 tyX12_ok nmX12 hown hE.1.1 hP hD hS 0 rfl rfl 58 (by decide) (by rw [tFX12_58]; exact hq _ pw_222) (fun _ h9 => h9) (by rw [tFX12_58]) hin (by rw [tFX12_58]; rfl) (by rw [tFX12_58]; decide +kernel) rfl rfl (by rw [hn278]; decide) dX12_init_399 (fun H locs hP hD hS => ?_)
  obtain ⟨fs282, e283⟩ : ∃ z : List Value, z = fs276.set 58 (.ref q279) := ⟨_, rfl⟩
  have hn284 : fs282.length = 134 := by rw [e283, List.length_set]; exact hn278
  have hP : va_P G.1 pCl ((h0, .inr (9, fs282)) :: wa280) H := by rw [e283]; exact hP
  have hD : va_D A ((h0, .inr (9, fs282)) :: wa280) := by rw [e283]; exact hD
  refine lv_aload_n hx hb dX12_init_402 rfl (lv_at hl 0 rfl) ?_
  refine lv_sipush (v := 5000) hx hb dX12_init_403 (by decide) ?_
  refine pn_newa (G := G) (atype := .int) (a0 := (5000, .inl (fun _ => 0))) (N' := 5000) hx hb (hq _ pw_636) rfl hE.1.2.1 hP hD hS hA (fun _ => rfl) (by decide) (by decide) (by decide) (Nat.le_of_ble_eq_true rfl) (Nat.le_of_ble_eq_true rfl) dX12_init_406 (fun q285 H hP hD hS => ?_)
  obtain ⟨wa286, ew287⟩ : ∃ z : va_W, z = wa280 ++ [(q285, .inl (G.2.1 0, 5000, .inl (fun _ => 0)))] := ⟨_, rfl⟩
  have hP : va_P G.1 pCl ((h0, .inr (9, fs282)) :: wa286) H := by rw [ew287]; exact hP
  have hD : va_D A ((h0, .inr (9, fs282)) :: wa286) := by rw [ew287]; exact hD
  refine W.widen (k := 46) (n := 207944) (Nat.le_of_ble_eq_true rfl) (Nat.le_of_ble_eq_true rfl) ?_
  refine va_putF (D := G.1) (ci := 9) (v := .ref q285) (ty := (.array .int)) (C := RX12) (T := TX12) (N := 134) hx hb hq pin_wsX120 tyX12 tyX12_ok nmX12 hown hE.1.1 hP hD hS 0 rfl rfl 61 (by decide) (by rw [tFX12_61]; exact hq _ pw_223) (fun _ h9 => h9) (by rw [tFX12_61]) hin (by rw [tFX12_61]; rfl) (by rw [tFX12_61]; decide +kernel) rfl rfl (by rw [hn284]; decide) dX12_init_408 (fun H locs hP hD hS => ?_)
  obtain ⟨fs288, e289⟩ : ∃ z : List Value, z = fs282.set 61 (.ref q285) := ⟨_, rfl⟩
  have hn290 : fs288.length = 134 := by rw [e289, List.length_set]; exact hn284
  have hP : va_P G.1 pCl ((h0, .inr (9, fs288)) :: wa286) H := by rw [e289]; exact hP
  have hD : va_D A ((h0, .inr (9, fs288)) :: wa286) := by rw [e289]; exact hD
  refine lv_aload_n hx hb dX12_init_411 rfl (lv_at hl 0 rfl) ?_
  refine lv_sipush (v := 5000) hx hb dX12_init_412 (by decide) ?_
  refine pn_newa (G := G) (atype := .int) (a0 := (5000, .inl (fun _ => 0))) (N' := 5000) hx hb (hq _ pw_636) rfl hE.1.2.1 hP hD hS hA (fun _ => rfl) (by decide) (by decide) (by decide) (Nat.le_of_ble_eq_true rfl) (Nat.le_of_ble_eq_true rfl) dX12_init_415 (fun q291 H hP hD hS => ?_)
  obtain ⟨wa292, ew293⟩ : ∃ z : va_W, z = wa286 ++ [(q291, .inl (G.2.1 0, 5000, .inl (fun _ => 0)))] := ⟨_, rfl⟩
  have hP : va_P G.1 pCl ((h0, .inr (9, fs288)) :: wa292) H := by rw [ew293]; exact hP
  have hD : va_D A ((h0, .inr (9, fs288)) :: wa292) := by rw [ew293]; exact hD
  refine W.widen (k := 47) (n := 212944) (Nat.le_of_ble_eq_true rfl) (Nat.le_of_ble_eq_true rfl) ?_
  refine va_putF (D := G.1) (ci := 9) (v := .ref q291) (ty := (.array .int)) (C := RX12) (T := TX12) (N := 134) hx hb hq pin_wsX120 tyX12 tyX12_ok nmX12 hown hE.1.1 hP hD hS 0 rfl rfl 62 (by decide) (by rw [tFX12_62]; exact hq _ pw_224) (fun _ h9 => h9) (by rw [tFX12_62]) hin (by rw [tFX12_62]; rfl) (by rw [tFX12_62]; decide +kernel) rfl rfl (by rw [hn290]; decide) dX12_init_417 (fun H locs hP hD hS => ?_)
  obtain ⟨fs294, e295⟩ : ∃ z : List Value, z = fs288.set 62 (.ref q291) := ⟨_, rfl⟩
  have hn296 : fs294.length = 134 := by rw [e295, List.length_set]; exact hn290
  have hP : va_P G.1 pCl ((h0, .inr (9, fs294)) :: wa292) H := by rw [e295]; exact hP
  have hD : va_D A ((h0, .inr (9, fs294)) :: wa292) := by rw [e295]; exact hD
  refine lv_aload_n hx hb dX12_init_420 rfl (lv_at hl 0 rfl) ?_
  refine lv_sipush (v := 5000) hx hb dX12_init_421 (by decide) ?_
  refine pn_newa (G := G) (atype := .int) (a0 := (5000, .inl (fun _ => 0))) (N' := 5000) hx hb (hq _ pw_636) rfl hE.1.2.1 hP hD hS hA (fun _ => rfl) (by decide) (by decide) (by decide) (Nat.le_of_ble_eq_true rfl) (Nat.le_of_ble_eq_true rfl) dX12_init_424 (fun q297 H hP hD hS => ?_)
  obtain ⟨wa298, ew299⟩ : ∃ z : va_W, z = wa292 ++ [(q297, .inl (G.2.1 0, 5000, .inl (fun _ => 0)))] := ⟨_, rfl⟩
  have hP : va_P G.1 pCl ((h0, .inr (9, fs294)) :: wa298) H := by rw [ew299]; exact hP
  have hD : va_D A ((h0, .inr (9, fs294)) :: wa298) := by rw [ew299]; exact hD
  refine W.widen (k := 48) (n := 217944) (Nat.le_of_ble_eq_true rfl) (Nat.le_of_ble_eq_true rfl) ?_
  refine va_putF (D := G.1) (ci := 9) (v := .ref q297) (ty := (.array .int)) (C := RX12) (T := TX12) (N := 134) hx hb hq pin_wsX120 tyX12 tyX12_ok nmX12 hown hE.1.1 hP hD hS 0 rfl rfl 63 (by decide) (by rw [tFX12_63]; exact hq _ pw_225) (fun _ h9 => h9) (by rw [tFX12_63]) hin (by rw [tFX12_63]; rfl) (by rw [tFX12_63]; decide +kernel) rfl rfl (by rw [hn296]; decide) dX12_init_426 (fun H locs hP hD hS => ?_)
  obtain ⟨fs300, e301⟩ : ∃ z : List Value, z = fs294.set 63 (.ref q297) := ⟨_, rfl⟩
  have hn302 : fs300.length = 134 := by rw [e301, List.length_set]; exact hn296
  have hP : va_P G.1 pCl ((h0, .inr (9, fs300)) :: wa298) H := by rw [e301]; exact hP
  have hD : va_D A ((h0, .inr (9, fs300)) :: wa298) := by rw [e301]; exact hD
  refine lv_aload_n hx hb dX12_init_429 rfl (lv_at hl 0 rfl) ?_
  refine lv_bipush (v := 40) hx hb dX12_init_430 (by decide) ?_
  refine pn_newa (G := G) (atype := .int) (a0 := (40, .inl (fun _ => 0))) (N' := 40) hx hb (hq _ pw_636) rfl hE.1.2.1 hP hD hS hA (fun _ => rfl) (by decide) (by decide) (by decide) (Nat.le_of_ble_eq_true rfl) (Nat.le_of_ble_eq_true rfl) dX12_init_432 (fun q303 H hP hD hS => ?_)
  have en304 : fs300 = [.int 0, .ref q1, .int 0, .ref q7, .int 0, .ref q13, .ref q19, .ref q25, .ref q31, .int 0, .ref q37, .ref q45, .ref q51, .int 0, .int 0, .int 0, .int 0, .ref q57, .ref q63, .ref q69, .ref q75, .ref q83, .ref q89, .ref q95, .ref q101, .ref q107, .ref q113, .int 0, .ref q121, .ref q127, .ref q133, .int 0, .ref q139, .ref q145, .int 0, .int 0, .ref q151, .ref q159, .ref q165, .ref q171, .ref q177, .ref q183, .ref q189, .ref q197, .int 0, .ref q203, .ref q209, .ref q215, .ref q221, .int 0, .ref q227, .ref q235, .ref q241, .ref q247, .ref q253, .ref q259, .ref q265, .ref q273, .ref q279, .int 0, .int 0, .ref q285, .ref q291, .ref q297, .int 0, .int 0, .int 0, .int 0, .int 0, .int 0, .int 0, .null, .null, .int 0, .int 0, .int 0, .int 0, .int 0, .int 0, .int 0, .int 0, .int 0, .int 0, .int 0, .null, .int 0, .null, .int 0, .null, .null, .null, .null, .null, .null, .null, .null, .null, .int 0, .int 0, .int 0, .null, .int 0, .int 0, .null, .null, .null, .null, .null, .null, .null, .null, .int 0, .null, .null, .null, .int 0, .int 0, .int 0, .int 0, .int 0, .int 0, .int 0, .int 0, .int 0, .int 0, .int 0, .int 0, .null, .int 0, .null, .int 0, .null, .null, .null] := by rw [e301, e295, e289, e283, e277, e271, en266]; rfl
  have en305 : wa298 = [(q1, .inl (G.2.1 0, 5000, .inl (fun _ => 0))), (q7, .inl (G.2.1 0, 5000, .inl (fun _ => 0))), (q13, .inl (G.2.1 0, 5001, .inl (fun _ => 0))), (q19, .inl (G.2.1 0, 5001, .inl (fun _ => 0))), (q25, .inl (G.2.1 0, 5001, .inl (fun _ => 0))), (q31, .inl (G.2.1 0, 5001, .inl (fun _ => 0))), (q37, .inl (G.2.1 0, 5100, .inl (fun _ => 0))), (q45, .inl (G.2.1 0, 5100, .inl (fun _ => 0))), (q51, .inl (G.2.1 1, 5100, .inl (fun _ => 0))), (q57, .inl (G.2.1 0, 12000, .inl (fun _ => 0))), (q63, .inl (G.2.1 0, 12000, .inl (fun _ => 0))), (q69, .inl (G.2.1 0, 12000, .inl (fun _ => 0))), (q75, .inl (G.2.1 0, 12000, .inl (fun _ => 0))), (q83, .inl (G.2.1 0, 12000, .inl (fun _ => 0))), (q89, .inl (G.2.1 0, 12000, .inl (fun _ => 0))), (q95, .inl (G.2.1 0, 12000, .inl (fun _ => 0))), (q101, .inl (G.2.1 0, 12000, .inl (fun _ => 0))), (q107, .inl (G.2.1 0, 12000, .inl (fun _ => 0))), (q113, .inl (G.2.1 0, 12000, .inl (fun _ => 0))), (q121, .inl (G.2.1 0, 5000, .inl (fun _ => 0))), (q127, .inl (G.2.1 3, 5000, .inl (fun _ => 0))), (q133, .inl (G.2.1 0, 5000, .inl (fun _ => 0))), (q139, .inl (G.2.1 0, 5000, .inl (fun _ => 0))), (q145, .inl (G.2.1 0, 5000, .inl (fun _ => 0))), (q151, .inl (G.2.1 0, 40, .inl (fun _ => 0))), (q159, .inl (G.2.1 0, 40, .inl (fun _ => 0))), (q165, .inl (G.2.1 3, 40, .inl (fun _ => 0))), (q171, .inl (G.2.1 0, 40, .inl (fun _ => 0))), (q177, .inl (G.2.1 0, 40, .inl (fun _ => 0))), (q183, .inl (G.2.1 0, 40, .inl (fun _ => 0))), (q189, .inl (G.2.1 0, 40, .inl (fun _ => 0))), (q197, .inl (G.2.1 3, 1600, .inl (fun _ => 0))), (q203, .inl (G.2.1 0, 620, .inl (fun _ => 0))), (q209, .inl (G.2.1 0, 620, .inl (fun _ => 0))), (q215, .inl (G.2.1 0, 620, .inl (fun _ => 0))), (q221, .inl (G.2.1 0, 620, .inl (fun _ => 0))), (q227, .inl (G.2.1 0, 920, .inl (fun _ => 0))), (q235, .inl (G.2.1 0, 920, .inl (fun _ => 0))), (q241, .inl (G.2.1 0, 920, .inl (fun _ => 0))), (q247, .inl (G.2.1 0, 920, .inl (fun _ => 0))), (q253, .inl (G.2.1 0, 920, .inl (fun _ => 0))), (q259, .inl (G.2.1 0, 920, .inl (fun _ => 0))), (q265, .inl (G.2.1 0, 920, .inl (fun _ => 0))), (q273, .inl (G.2.1 0, 920, .inl (fun _ => 0))), (q279, .inl (G.2.1 0, 920, .inl (fun _ => 0))), (q285, .inl (G.2.1 0, 5000, .inl (fun _ => 0))), (q291, .inl (G.2.1 0, 5000, .inl (fun _ => 0))), (q297, .inl (G.2.1 0, 5000, .inl (fun _ => 0)))] := by rw [ew299, ew293, ew287, ew281, ew275, ew269, en267]; rfl
  obtain ⟨wa306, ew307⟩ : ∃ z : va_W, z = wa298 ++ [(q303, .inl (G.2.1 0, 40, .inl (fun _ => 0)))] := ⟨_, rfl⟩
  have hP : va_P G.1 pCl ((h0, .inr (9, fs300)) :: wa306) H := by rw [ew307]; exact hP
  have hD : va_D A ((h0, .inr (9, fs300)) :: wa306) := by rw [ew307]; exact hD
  refine W.widen (k := 49) (n := 217984) (Nat.le_of_ble_eq_true rfl) (Nat.le_of_ble_eq_true rfl) ?_
  refine va_putF (D := G.1) (ci := 9) (v := .ref q303) (ty := (.array .int)) (C := RX12) (T := TX12) (N := 134) hx hb hq pin_wsX120 tyX12 tyX12_ok nmX12 hown hE.1.1 hP hD hS 0 rfl rfl 71 (by decide) (by rw [tFX12_71]; exact hq _ pw_226) (fun _ h9 => h9) (by rw [tFX12_71]) hin (by rw [tFX12_71]; rfl) (by rw [tFX12_71]; decide +kernel) rfl rfl (by rw [hn302]; decide) dX12_init_434 (fun H locs hP hD hS => ?_)
  obtain ⟨fs308, e309⟩ : ∃ z : List Value, z = fs300.set 71 (.ref q303) := ⟨_, rfl⟩
  have hn310 : fs308.length = 134 := by rw [e309, List.length_set]; exact hn302
  have hP : va_P G.1 pCl ((h0, .inr (9, fs308)) :: wa306) H := by rw [e309]; exact hP
  have hD : va_D A ((h0, .inr (9, fs308)) :: wa306) := by rw [e309]; exact hD
  refine lv_aload_n hx hb dX12_init_437 rfl (lv_at hl 0 rfl) ?_
  refine lv_bipush (v := 40) hx hb dX12_init_438 (by decide) ?_
  refine pn_newa (G := G) (atype := .int) (a0 := (40, .inl (fun _ => 0))) (N' := 40) hx hb (hq _ pw_636) rfl hE.1.2.1 hP hD hS hA (fun _ => rfl) (by decide) (by decide) (by decide) (Nat.le_of_ble_eq_true rfl) (Nat.le_of_ble_eq_true rfl) dX12_init_440 (fun q311 H hP hD hS => ?_)
  obtain ⟨wa312, ew313⟩ : ∃ z : va_W, z = wa306 ++ [(q311, .inl (G.2.1 0, 40, .inl (fun _ => 0)))] := ⟨_, rfl⟩
  have hP : va_P G.1 pCl ((h0, .inr (9, fs308)) :: wa312) H := by rw [ew313]; exact hP
  have hD : va_D A ((h0, .inr (9, fs308)) :: wa312) := by rw [ew313]; exact hD
  refine W.widen (k := 50) (n := 218024) (Nat.le_of_ble_eq_true rfl) (Nat.le_of_ble_eq_true rfl) ?_
  refine va_putF (D := G.1) (ci := 9) (v := .ref q311) (ty := (.array .int)) (C := RX12) (T := TX12) (N := 134) hx hb hq pin_wsX120 tyX12 tyX12_ok nmX12 hown hE.1.1 hP hD hS 0 rfl rfl 72 (by decide) (by rw [tFX12_72]; exact hq _ pw_227) (fun _ h9 => h9) (by rw [tFX12_72]) hin (by rw [tFX12_72]; rfl) (by rw [tFX12_72]; decide +kernel) rfl rfl (by rw [hn310]; decide) dX12_init_442 (fun H locs hP hD hS => ?_)
  obtain ⟨fs314, e315⟩ : ∃ z : List Value, z = fs308.set 72 (.ref q311) := ⟨_, rfl⟩
  have hn316 : fs314.length = 134 := by rw [e315, List.length_set]; exact hn310
  have hP : va_P G.1 pCl ((h0, .inr (9, fs314)) :: wa312) H := by rw [e315]; exact hP
  have hD : va_D A ((h0, .inr (9, fs314)) :: wa312) := by rw [e315]; exact hD
  refine lv_aload_n hx hb dX12_init_445 rfl (lv_at hl 0 rfl) ?_
  refine lv_sipush (v := 200) hx hb dX12_init_446 (by decide) ?_
  refine pn_newa (G := G) (atype := .int) (a0 := (200, .inl (fun _ => 0))) (N' := 200) hx hb (hq _ pw_636) rfl hE.1.2.1 hP hD hS hA (fun _ => rfl) (by decide) (by decide) (by decide) (Nat.le_of_ble_eq_true rfl) (Nat.le_of_ble_eq_true rfl) dX12_init_449 (fun q317 H hP hD hS => ?_)
  obtain ⟨wa318, ew319⟩ : ∃ z : va_W, z = wa312 ++ [(q317, .inl (G.2.1 0, 200, .inl (fun _ => 0)))] := ⟨_, rfl⟩
  have hP : va_P G.1 pCl ((h0, .inr (9, fs314)) :: wa318) H := by rw [ew319]; exact hP
  have hD : va_D A ((h0, .inr (9, fs314)) :: wa318) := by rw [ew319]; exact hD
  refine W.widen (k := 51) (n := 218224) (Nat.le_of_ble_eq_true rfl) (Nat.le_of_ble_eq_true rfl) ?_
  refine va_putF (D := G.1) (ci := 9) (v := .ref q317) (ty := (.array .int)) (C := RX12) (T := TX12) (N := 134) hx hb hq pin_wsX120 tyX12 tyX12_ok nmX12 hown hE.1.1 hP hD hS 0 rfl rfl 84 (by decide) (by rw [tFX12_84]; exact hq _ pw_228) (fun _ h9 => h9) (by rw [tFX12_84]) hin (by rw [tFX12_84]; rfl) (by rw [tFX12_84]; decide +kernel) rfl rfl (by rw [hn316]; decide) dX12_init_451 (fun H locs hP hD hS => ?_)
  obtain ⟨fs320, e321⟩ : ∃ z : List Value, z = fs314.set 84 (.ref q317) := ⟨_, rfl⟩
  have hn322 : fs320.length = 134 := by rw [e321, List.length_set]; exact hn316
  have hP : va_P G.1 pCl ((h0, .inr (9, fs320)) :: wa318) H := by rw [e321]; exact hP
  have hD : va_D A ((h0, .inr (9, fs320)) :: wa318) := by rw [e321]; exact hD
  refine lv_aload_n hx hb dX12_init_454 rfl (lv_at hl 0 rfl) ?_
  refine lv_sipush (v := 400) hx hb dX12_init_455 (by decide) ?_
  refine pn_newa (G := G) (atype := .int) (a0 := (400, .inl (fun _ => 0))) (N' := 400) hx hb (hq _ pw_636) rfl hE.1.2.1 hP hD hS hA (fun _ => rfl) (by decide) (by decide) (by decide) (Nat.le_of_ble_eq_true rfl) (Nat.le_of_ble_eq_true rfl) dX12_init_458 (fun q323 H hP hD hS => ?_)
  obtain ⟨wa324, ew325⟩ : ∃ z : va_W, z = wa318 ++ [(q323, .inl (G.2.1 0, 400, .inl (fun _ => 0)))] := ⟨_, rfl⟩
  have hP : va_P G.1 pCl ((h0, .inr (9, fs320)) :: wa324) H := by rw [ew325]; exact hP
  have hD : va_D A ((h0, .inr (9, fs320)) :: wa324) := by rw [ew325]; exact hD
  refine W.widen (k := 52) (n := 218624) (Nat.le_of_ble_eq_true rfl) (Nat.le_of_ble_eq_true rfl) ?_
  refine va_putF (D := G.1) (ci := 9) (v := .ref q323) (ty := (.array .int)) (C := RX12) (T := TX12) (N := 134) hx hb hq pin_wsX120 tyX12 tyX12_ok nmX12 hown hE.1.1 hP hD hS 0 rfl rfl 86 (by decide) (by rw [tFX12_86]; exact hq _ pw_229) (fun _ h9 => h9) (by rw [tFX12_86]) hin (by rw [tFX12_86]; rfl) (by rw [tFX12_86]; decide +kernel) rfl rfl (by rw [hn322]; decide) dX12_init_460 (fun H locs hP hD hS => ?_)
  obtain ⟨fs326, e327⟩ : ∃ z : List Value, z = fs320.set 86 (.ref q323) := ⟨_, rfl⟩
  have hn328 : fs326.length = 134 := by rw [e327, List.length_set]; exact hn322
  have hP : va_P G.1 pCl ((h0, .inr (9, fs326)) :: wa324) H := by rw [e327]; exact hP
  have hD : va_D A ((h0, .inr (9, fs326)) :: wa324) := by rw [e327]; exact hD
  refine lv_aload_n hx hb dX12_init_463 rfl (lv_at hl 0 rfl) ?_
  refine lv_sipush (v := 12000) hx hb dX12_init_464 (by decide) ?_
  refine pn_newa (G := G) (atype := .int) (a0 := (12000, .inl (fun _ => 0))) (N' := 12000) hx hb (hq _ pw_636) rfl hE.1.2.1 hP hD hS hA (fun _ => rfl) (by decide) (by decide) (by decide) (Nat.le_of_ble_eq_true rfl) (Nat.le_of_ble_eq_true rfl) dX12_init_467 (fun q329 H hP hD hS => ?_)
  obtain ⟨wa330, ew331⟩ : ∃ z : va_W, z = wa324 ++ [(q329, .inl (G.2.1 0, 12000, .inl (fun _ => 0)))] := ⟨_, rfl⟩
  have hP : va_P G.1 pCl ((h0, .inr (9, fs326)) :: wa330) H := by rw [ew331]; exact hP
  have hD : va_D A ((h0, .inr (9, fs326)) :: wa330) := by rw [ew331]; exact hD
  refine W.widen (k := 53) (n := 230624) (Nat.le_of_ble_eq_true rfl) (Nat.le_of_ble_eq_true rfl) ?_
  refine va_putF (D := G.1) (ci := 9) (v := .ref q329) (ty := (.array .int)) (C := RX12) (T := TX12) (N := 134) hx hb hq pin_wsX120 tyX12 tyX12_ok nmX12 hown hE.1.1 hP hD hS 0 rfl rfl 88 (by decide) (by rw [tFX12_88]; exact hq _ pw_230) (fun _ h9 => h9) (by rw [tFX12_88]) hin (by rw [tFX12_88]; rfl) (by rw [tFX12_88]; decide +kernel) rfl rfl (by rw [hn328]; decide) dX12_init_469 (fun H locs hP hD hS => ?_)
  obtain ⟨fs332, e333⟩ : ∃ z : List Value, z = fs326.set 88 (.ref q329) := ⟨_, rfl⟩
  have hn334 : fs332.length = 134 := by rw [e333, List.length_set]; exact hn328
  have hP : va_P G.1 pCl ((h0, .inr (9, fs332)) :: wa330) H := by rw [e333]; exact hP
  have hD : va_D A ((h0, .inr (9, fs332)) :: wa330) := by rw [e333]; exact hD
  refine lv_aload_n hx hb dX12_init_472 rfl (lv_at hl 0 rfl) ?_
  refine lv_sipush (v := 620) hx hb dX12_init_473 (by decide) ?_
  refine pn_newa (G := G) (atype := .int) (a0 := (620, .inl (fun _ => 0))) (N' := 620) hx hb (hq _ pw_636) rfl hE.1.2.1 hP hD hS hA (fun _ => rfl) (by decide) (by decide) (by decide) (Nat.le_of_ble_eq_true rfl) (Nat.le_of_ble_eq_true rfl) dX12_init_476 (fun q335 H hP hD hS => ?_)
  obtain ⟨wa336, ew337⟩ : ∃ z : va_W, z = wa330 ++ [(q335, .inl (G.2.1 0, 620, .inl (fun _ => 0)))] := ⟨_, rfl⟩
  have hP : va_P G.1 pCl ((h0, .inr (9, fs332)) :: wa336) H := by rw [ew337]; exact hP
  have hD : va_D A ((h0, .inr (9, fs332)) :: wa336) := by rw [ew337]; exact hD
  refine W.widen (k := 54) (n := 231244) (Nat.le_of_ble_eq_true rfl) (Nat.le_of_ble_eq_true rfl) ?_
  refine va_putF (D := G.1) (ci := 9) (v := .ref q335) (ty := (.array .int)) (C := RX12) (T := TX12) (N := 134) hx hb hq pin_wsX120 tyX12 tyX12_ok nmX12 hown hE.1.1 hP hD hS 0 rfl rfl 89 (by decide) (by rw [tFX12_89]; exact hq _ pw_231) (fun _ h9 => h9) (by rw [tFX12_89]) hin (by rw [tFX12_89]; rfl) (by rw [tFX12_89]; decide +kernel) rfl rfl (by rw [hn334]; decide) dX12_init_478 (fun H locs hP hD hS => ?_)
  obtain ⟨fs338, e339⟩ : ∃ z : List Value, z = fs332.set 89 (.ref q335) := ⟨_, rfl⟩
  have hn340 : fs338.length = 134 := by rw [e339, List.length_set]; exact hn334
  have hP : va_P G.1 pCl ((h0, .inr (9, fs338)) :: wa336) H := by rw [e339]; exact hP
  have hD : va_D A ((h0, .inr (9, fs338)) :: wa336) := by rw [e339]; exact hD
  refine lv_aload_n hx hb dX12_init_481 rfl (lv_at hl 0 rfl) ?_
  refine lv_ldc (v := 204000) hx hb hown (hq _ pw_232) dX12_init_482 ?_
  refine pn_newa (G := G) (atype := .int) (a0 := (204000, .inl (fun _ => 0))) (N' := 204000) hx hb (hq _ pw_636) rfl hE.1.2.1 hP hD hS hA (fun _ => rfl) (by decide) (by decide) (by decide) (Nat.le_of_ble_eq_true rfl) (Nat.le_of_ble_eq_true rfl) dX12_init_484 (fun q341 H hP hD hS => ?_)
  have en342 : fs338 = [.int 0, .ref q1, .int 0, .ref q7, .int 0, .ref q13, .ref q19, .ref q25, .ref q31, .int 0, .ref q37, .ref q45, .ref q51, .int 0, .int 0, .int 0, .int 0, .ref q57, .ref q63, .ref q69, .ref q75, .ref q83, .ref q89, .ref q95, .ref q101, .ref q107, .ref q113, .int 0, .ref q121, .ref q127, .ref q133, .int 0, .ref q139, .ref q145, .int 0, .int 0, .ref q151, .ref q159, .ref q165, .ref q171, .ref q177, .ref q183, .ref q189, .ref q197, .int 0, .ref q203, .ref q209, .ref q215, .ref q221, .int 0, .ref q227, .ref q235, .ref q241, .ref q247, .ref q253, .ref q259, .ref q265, .ref q273, .ref q279, .int 0, .int 0, .ref q285, .ref q291, .ref q297, .int 0, .int 0, .int 0, .int 0, .int 0, .int 0, .int 0, .ref q303, .ref q311, .int 0, .int 0, .int 0, .int 0, .int 0, .int 0, .int 0, .int 0, .int 0, .int 0, .int 0, .ref q317, .int 0, .ref q323, .int 0, .ref q329, .ref q335, .null, .null, .null, .null, .null, .null, .null, .int 0, .int 0, .int 0, .null, .int 0, .int 0, .null, .null, .null, .null, .null, .null, .null, .null, .int 0, .null, .null, .null, .int 0, .int 0, .int 0, .int 0, .int 0, .int 0, .int 0, .int 0, .int 0, .int 0, .int 0, .int 0, .null, .int 0, .null, .int 0, .null, .null, .null] := by rw [e339, e333, e327, e321, e315, e309, en304]; rfl
  have en343 : wa336 = [(q1, .inl (G.2.1 0, 5000, .inl (fun _ => 0))), (q7, .inl (G.2.1 0, 5000, .inl (fun _ => 0))), (q13, .inl (G.2.1 0, 5001, .inl (fun _ => 0))), (q19, .inl (G.2.1 0, 5001, .inl (fun _ => 0))), (q25, .inl (G.2.1 0, 5001, .inl (fun _ => 0))), (q31, .inl (G.2.1 0, 5001, .inl (fun _ => 0))), (q37, .inl (G.2.1 0, 5100, .inl (fun _ => 0))), (q45, .inl (G.2.1 0, 5100, .inl (fun _ => 0))), (q51, .inl (G.2.1 1, 5100, .inl (fun _ => 0))), (q57, .inl (G.2.1 0, 12000, .inl (fun _ => 0))), (q63, .inl (G.2.1 0, 12000, .inl (fun _ => 0))), (q69, .inl (G.2.1 0, 12000, .inl (fun _ => 0))), (q75, .inl (G.2.1 0, 12000, .inl (fun _ => 0))), (q83, .inl (G.2.1 0, 12000, .inl (fun _ => 0))), (q89, .inl (G.2.1 0, 12000, .inl (fun _ => 0))), (q95, .inl (G.2.1 0, 12000, .inl (fun _ => 0))), (q101, .inl (G.2.1 0, 12000, .inl (fun _ => 0))), (q107, .inl (G.2.1 0, 12000, .inl (fun _ => 0))), (q113, .inl (G.2.1 0, 12000, .inl (fun _ => 0))), (q121, .inl (G.2.1 0, 5000, .inl (fun _ => 0))), (q127, .inl (G.2.1 3, 5000, .inl (fun _ => 0))), (q133, .inl (G.2.1 0, 5000, .inl (fun _ => 0))), (q139, .inl (G.2.1 0, 5000, .inl (fun _ => 0))), (q145, .inl (G.2.1 0, 5000, .inl (fun _ => 0))), (q151, .inl (G.2.1 0, 40, .inl (fun _ => 0))), (q159, .inl (G.2.1 0, 40, .inl (fun _ => 0))), (q165, .inl (G.2.1 3, 40, .inl (fun _ => 0))), (q171, .inl (G.2.1 0, 40, .inl (fun _ => 0))), (q177, .inl (G.2.1 0, 40, .inl (fun _ => 0))), (q183, .inl (G.2.1 0, 40, .inl (fun _ => 0))), (q189, .inl (G.2.1 0, 40, .inl (fun _ => 0))), (q197, .inl (G.2.1 3, 1600, .inl (fun _ => 0))), (q203, .inl (G.2.1 0, 620, .inl (fun _ => 0))), (q209, .inl (G.2.1 0, 620, .inl (fun _ => 0))), (q215, .inl (G.2.1 0, 620, .inl (fun _ => 0))), (q221, .inl (G.2.1 0, 620, .inl (fun _ => 0))), (q227, .inl (G.2.1 0, 920, .inl (fun _ => 0))), (q235, .inl (G.2.1 0, 920, .inl (fun _ => 0))), (q241, .inl (G.2.1 0, 920, .inl (fun _ => 0))), (q247, .inl (G.2.1 0, 920, .inl (fun _ => 0))), (q253, .inl (G.2.1 0, 920, .inl (fun _ => 0))), (q259, .inl (G.2.1 0, 920, .inl (fun _ => 0))), (q265, .inl (G.2.1 0, 920, .inl (fun _ => 0))), (q273, .inl (G.2.1 0, 920, .inl (fun _ => 0))), (q279, .inl (G.2.1 0, 920, .inl (fun _ => 0))), (q285, .inl (G.2.1 0, 5000, .inl (fun _ => 0))), (q291, .inl (G.2.1 0, 5000, .inl (fun _ => 0))), (q297, .inl (G.2.1 0, 5000, .inl (fun _ => 0))), (q303, .inl (G.2.1 0, 40, .inl (fun _ => 0))), (q311, .inl (G.2.1 0, 40, .inl (fun _ => 0))), (q317, .inl (G.2.1 0, 200, .inl (fun _ => 0))), (q323, .inl (G.2.1 0, 400, .inl (fun _ => 0))), (q329, .inl (G.2.1 0, 12000, .inl (fun _ => 0))), (q335, .inl (G.2.1 0, 620, .inl (fun _ => 0)))] := by rw [ew337, ew331, ew325, ew319, ew313, ew307, en305]; rfl
  obtain ⟨wa344, ew345⟩ : ∃ z : va_W, z = wa336 ++ [(q341, .inl (G.2.1 0, 204000, .inl (fun _ => 0)))] := ⟨_, rfl⟩
  have hP : va_P G.1 pCl ((h0, .inr (9, fs338)) :: wa344) H := by rw [ew345]; exact hP
  have hD : va_D A ((h0, .inr (9, fs338)) :: wa344) := by rw [ew345]; exact hD
  refine W.widen (k := 55) (n := 435244) (Nat.le_of_ble_eq_true rfl) (Nat.le_of_ble_eq_true rfl) ?_
  refine va_putF (D := G.1) (ci := 9) (v := .ref q341) (ty := (.array .int)) (C := RX12) (T := TX12) (N := 134) hx hb hq pin_wsX120 tyX12 tyX12_ok nmX12 hown hE.1.1 hP hD hS 0 rfl rfl 90 (by decide) (by rw [tFX12_90]; exact hq _ pw_233) (fun _ h9 => h9) (by rw [tFX12_90]) hin (by rw [tFX12_90]; rfl) (by rw [tFX12_90]; decide +kernel) rfl rfl (by rw [hn340]; decide) dX12_init_486 (fun H locs hP hD hS => ?_)
  obtain ⟨fs346, e347⟩ : ∃ z : List Value, z = fs338.set 90 (.ref q341) := ⟨_, rfl⟩
  have hn348 : fs346.length = 134 := by rw [e347, List.length_set]; exact hn340
  have hP : va_P G.1 pCl ((h0, .inr (9, fs346)) :: wa344) H := by rw [e347]; exact hP
  have hD : va_D A ((h0, .inr (9, fs346)) :: wa344) := by rw [e347]; exact hD
  refine lv_aload_n hx hb dX12_init_489 rfl (lv_at hl 0 rfl) ?_
  refine lv_sipush (v := 3000) hx hb dX12_init_490 (by decide) ?_
  refine pn_newa (G := G) (atype := .int) (a0 := (3000, .inl (fun _ => 0))) (N' := 3000) hx hb (hq _ pw_636) rfl hE.1.2.1 hP hD hS hA (fun _ => rfl) (by decide) (by decide) (by decide) (Nat.le_of_ble_eq_true rfl) (Nat.le_of_ble_eq_true rfl) dX12_init_493 (fun q349 H hP hD hS => ?_)
  obtain ⟨wa350, ew351⟩ : ∃ z : va_W, z = wa344 ++ [(q349, .inl (G.2.1 0, 3000, .inl (fun _ => 0)))] := ⟨_, rfl⟩
  have hP : va_P G.1 pCl ((h0, .inr (9, fs346)) :: wa350) H := by rw [ew351]; exact hP
  have hD : va_D A ((h0, .inr (9, fs346)) :: wa350) := by rw [ew351]; exact hD
  refine W.widen (k := 56) (n := 438244) (Nat.le_of_ble_eq_true rfl) (Nat.le_of_ble_eq_true rfl) ?_
  refine va_putF (D := G.1) (ci := 9) (v := .ref q349) (ty := (.array .int)) (C := RX12) (T := TX12) (N := 134) hx hb hq pin_wsX120 tyX12 tyX12_ok nmX12 hown hE.1.1 hP hD hS 0 rfl rfl 91 (by decide) (by rw [tFX12_91]; exact hq _ pw_234) (fun _ h9 => h9) (by rw [tFX12_91]) hin (by rw [tFX12_91]; rfl) (by rw [tFX12_91]; decide +kernel) rfl rfl (by rw [hn348]; decide) dX12_init_495 (fun H locs hP hD hS => ?_)
  obtain ⟨fs352, e353⟩ : ∃ z : List Value, z = fs346.set 91 (.ref q349) := ⟨_, rfl⟩
  have hn354 : fs352.length = 134 := by rw [e353, List.length_set]; exact hn348
  have hP : va_P G.1 pCl ((h0, .inr (9, fs352)) :: wa350) H := by rw [e353]; exact hP
  have hD : va_D A ((h0, .inr (9, fs352)) :: wa350) := by rw [e353]; exact hD
  refine lv_aload_n hx hb dX12_init_498 rfl (lv_at hl 0 rfl) ?_
  refine lv_sipush (v := 3000) hx hb dX12_init_499 (by decide) ?_
  refine pn_newa (G := G) (atype := .int) (a0 := (3000, .inl (fun _ => 0))) (N' := 3000) hx hb (hq _ pw_636) rfl hE.1.2.1 hP hD hS hA (fun _ => rfl) (by decide) (by decide) (by decide) (Nat.le_of_ble_eq_true rfl) (Nat.le_of_ble_eq_true rfl) dX12_init_502 (fun q355 H hP hD hS => ?_)
  obtain ⟨wa356, ew357⟩ : ∃ z : va_W, z = wa350 ++ [(q355, .inl (G.2.1 0, 3000, .inl (fun _ => 0)))] := ⟨_, rfl⟩
  have hP : va_P G.1 pCl ((h0, .inr (9, fs352)) :: wa356) H := by rw [ew357]; exact hP
  have hD : va_D A ((h0, .inr (9, fs352)) :: wa356) := by rw [ew357]; exact hD
  refine W.widen (k := 57) (n := 441244) (Nat.le_of_ble_eq_true rfl) (Nat.le_of_ble_eq_true rfl) ?_
  refine va_putF (D := G.1) (ci := 9) (v := .ref q355) (ty := (.array .int)) (C := RX12) (T := TX12) (N := 134) hx hb hq pin_wsX120 tyX12 tyX12_ok nmX12 hown hE.1.1 hP hD hS 0 rfl rfl 92 (by decide) (by rw [tFX12_92]; exact hq _ pw_235) (fun _ h9 => h9) (by rw [tFX12_92]) hin (by rw [tFX12_92]; rfl) (by rw [tFX12_92]; decide +kernel) rfl rfl (by rw [hn354]; decide) dX12_init_504 (fun H locs hP hD hS => ?_)
  obtain ⟨fs358, e359⟩ : ∃ z : List Value, z = fs352.set 92 (.ref q355) := ⟨_, rfl⟩
  have hn360 : fs358.length = 134 := by rw [e359, List.length_set]; exact hn354
  have hP : va_P G.1 pCl ((h0, .inr (9, fs358)) :: wa356) H := by rw [e359]; exact hP
  have hD : va_D A ((h0, .inr (9, fs358)) :: wa356) := by rw [e359]; exact hD
  refine lv_aload_n hx hb dX12_init_507 rfl (lv_at hl 0 rfl) ?_
  refine lv_sipush (v := 3000) hx hb dX12_init_508 (by decide) ?_
  refine pn_newa (G := G) (atype := .int) (a0 := (3000, .inl (fun _ => 0))) (N' := 3000) hx hb (hq _ pw_636) rfl hE.1.2.1 hP hD hS hA (fun _ => rfl) (by decide) (by decide) (by decide) (Nat.le_of_ble_eq_true rfl) (Nat.le_of_ble_eq_true rfl) dX12_init_511 (fun q361 H hP hD hS => ?_)
  obtain ⟨wa362, ew363⟩ : ∃ z : va_W, z = wa356 ++ [(q361, .inl (G.2.1 0, 3000, .inl (fun _ => 0)))] := ⟨_, rfl⟩
  have hP : va_P G.1 pCl ((h0, .inr (9, fs358)) :: wa362) H := by rw [ew363]; exact hP
  have hD : va_D A ((h0, .inr (9, fs358)) :: wa362) := by rw [ew363]; exact hD
  refine W.widen (k := 58) (n := 444244) (Nat.le_of_ble_eq_true rfl) (Nat.le_of_ble_eq_true rfl) ?_
  refine va_putF (D := G.1) (ci := 9) (v := .ref q361) (ty := (.array .int)) (C := RX12) (T := TX12) (N := 134) hx hb hq pin_wsX120 tyX12 tyX12_ok nmX12 hown hE.1.1 hP hD hS 0 rfl rfl 93 (by decide) (by rw [tFX12_93]; exact hq _ pw_236) (fun _ h9 => h9) (by rw [tFX12_93]) hin (by rw [tFX12_93]; rfl) (by rw [tFX12_93]; decide +kernel) rfl rfl (by rw [hn360]; decide) dX12_init_513 (fun H locs hP hD hS => ?_)
  obtain ⟨fs364, e365⟩ : ∃ z : List Value, z = fs358.set 93 (.ref q361) := ⟨_, rfl⟩
  have hn366 : fs364.length = 134 := by rw [e365, List.length_set]; exact hn360
  have hP : va_P G.1 pCl ((h0, .inr (9, fs364)) :: wa362) H := by rw [e365]; exact hP
  have hD : va_D A ((h0, .inr (9, fs364)) :: wa362) := by rw [e365]; exact hD
  refine lv_aload_n hx hb dX12_init_516 rfl (lv_at hl 0 rfl) ?_
  refine lv_sipush (v := 3000) hx hb dX12_init_517 (by decide) ?_
  refine pn_newa (G := G) (atype := .int) (a0 := (3000, .inl (fun _ => 0))) (N' := 3000) hx hb (hq _ pw_636) rfl hE.1.2.1 hP hD hS hA (fun _ => rfl) (by decide) (by decide) (by decide) (Nat.le_of_ble_eq_true rfl) (Nat.le_of_ble_eq_true rfl) dX12_init_520 (fun q367 H hP hD hS => ?_)
  obtain ⟨wa368, ew369⟩ : ∃ z : va_W, z = wa362 ++ [(q367, .inl (G.2.1 0, 3000, .inl (fun _ => 0)))] := ⟨_, rfl⟩
  have hP : va_P G.1 pCl ((h0, .inr (9, fs364)) :: wa368) H := by rw [ew369]; exact hP
  have hD : va_D A ((h0, .inr (9, fs364)) :: wa368) := by rw [ew369]; exact hD
  refine W.widen (k := 59) (n := 447244) (Nat.le_of_ble_eq_true rfl) (Nat.le_of_ble_eq_true rfl) ?_
  refine va_putF (D := G.1) (ci := 9) (v := .ref q367) (ty := (.array .int)) (C := RX12) (T := TX12) (N := 134) hx hb hq pin_wsX120 tyX12 tyX12_ok nmX12 hown hE.1.1 hP hD hS 0 rfl rfl 94 (by decide) (by rw [tFX12_94]; exact hq _ pw_237) (fun _ h9 => h9) (by rw [tFX12_94]) hin (by rw [tFX12_94]; rfl) (by rw [tFX12_94]; decide +kernel) rfl rfl (by rw [hn366]; decide) dX12_init_522 (fun H locs hP hD hS => ?_)
  obtain ⟨fs370, e371⟩ : ∃ z : List Value, z = fs364.set 94 (.ref q367) := ⟨_, rfl⟩
  have hn372 : fs370.length = 134 := by rw [e371, List.length_set]; exact hn366
  have hP : va_P G.1 pCl ((h0, .inr (9, fs370)) :: wa368) H := by rw [e371]; exact hP
  have hD : va_D A ((h0, .inr (9, fs370)) :: wa368) := by rw [e371]; exact hD
  refine lv_aload_n hx hb dX12_init_525 rfl (lv_at hl 0 rfl) ?_
  refine lv_sipush (v := 3000) hx hb dX12_init_526 (by decide) ?_
  refine pn_newa (G := G) (atype := .boolean) (a0 := (3000, .inl (fun _ => 0))) (N' := 3000) hx hb (hq _ pw_670) rfl hE.1.2.2.2.2 hP hD hS hA (fun _ => rfl) (by decide) (by decide) (by decide) (Nat.le_of_ble_eq_true rfl) (Nat.le_of_ble_eq_true rfl) dX12_init_529 (fun q373 H hP hD hS => ?_)
  obtain ⟨wa374, ew375⟩ : ∃ z : va_W, z = wa368 ++ [(q373, .inl (G.2.1 3, 3000, .inl (fun _ => 0)))] := ⟨_, rfl⟩
  have hP : va_P G.1 pCl ((h0, .inr (9, fs370)) :: wa374) H := by rw [ew375]; exact hP
  have hD : va_D A ((h0, .inr (9, fs370)) :: wa374) := by rw [ew375]; exact hD
  refine W.widen (k := 60) (n := 450244) (Nat.le_of_ble_eq_true rfl) (Nat.le_of_ble_eq_true rfl) ?_
  refine va_putF (D := G.1) (ci := 9) (v := .ref q373) (ty := (.array .boolean)) (C := RX12) (T := TX12) (N := 134) hx hb hq pin_wsX120 tyX12 tyX12_ok nmX12 hown hE.1.1 hP hD hS 0 rfl rfl 95 (by decide) (by rw [tFX12_95]; exact hq _ pw_238) (fun _ h9 => h9) (by rw [tFX12_95]) hin (by rw [tFX12_95]; rfl) (by rw [tFX12_95]; decide +kernel) rfl rfl (by rw [hn372]; decide) dX12_init_531 (fun H locs hP hD hS => ?_)
  obtain ⟨fs376, e377⟩ : ∃ z : List Value, z = fs370.set 95 (.ref q373) := ⟨_, rfl⟩
  have hn378 : fs376.length = 134 := by rw [e377, List.length_set]; exact hn372
  have hP : va_P G.1 pCl ((h0, .inr (9, fs376)) :: wa374) H := by rw [e377]; exact hP
  have hD : va_D A ((h0, .inr (9, fs376)) :: wa374) := by rw [e377]; exact hD
  refine lv_aload_n hx hb dX12_init_534 rfl (lv_at hl 0 rfl) ?_
  refine lv_sipush (v := 3100) hx hb dX12_init_535 (by decide) ?_
  refine pn_newa (G := G) (atype := .int) (a0 := (3100, .inl (fun _ => 0))) (N' := 3100) hx hb (hq _ pw_636) rfl hE.1.2.1 hP hD hS hA (fun _ => rfl) (by decide) (by decide) (by decide) (Nat.le_of_ble_eq_true rfl) (Nat.le_of_ble_eq_true rfl) dX12_init_538 (fun q379 H hP hD hS => ?_)
  have en380 : fs376 = [.int 0, .ref q1, .int 0, .ref q7, .int 0, .ref q13, .ref q19, .ref q25, .ref q31, .int 0, .ref q37, .ref q45, .ref q51, .int 0, .int 0, .int 0, .int 0, .ref q57, .ref q63, .ref q69, .ref q75, .ref q83, .ref q89, .ref q95, .ref q101, .ref q107, .ref q113, .int 0, .ref q121, .ref q127, .ref q133, .int 0, .ref q139, .ref q145, .int 0, .int 0, .ref q151, .ref q159, .ref q165, .ref q171, .ref q177, .ref q183, .ref q189, .ref q197, .int 0, .ref q203, .ref q209, .ref q215, .ref q221, .int 0, .ref q227, .ref q235, .ref q241, .ref q247, .ref q253, .ref q259, .ref q265, .ref q273, .ref q279, .int 0, .int 0, .ref q285, .ref q291, .ref q297, .int 0, .int 0, .int 0, .int 0, .int 0, .int 0, .int 0, .ref q303, .ref q311, .int 0, .int 0, .int 0, .int 0, .int 0, .int 0, .int 0, .int 0, .int 0, .int 0, .int 0, .ref q317, .int 0, .ref q323, .int 0, .ref q329, .ref q335, .ref q341, .ref q349, .ref q355, .ref q361, .ref q367, .ref q373, .null, .int 0, .int 0, .int 0, .null, .int 0, .int 0, .null, .null, .null, .null, .null, .null, .null, .null, .int 0, .null, .null, .null, .int 0, .int 0, .int 0, .int 0, .int 0, .int 0, .int 0, .int 0, .int 0, .int 0, .int 0, .int 0, .null, .int 0, .null, .int 0, .null, .null, .null] := by rw [e377, e371, e365, e359, e353, e347, en342]; rfl
  have en381 : wa374 = [(q1, .inl (G.2.1 0, 5000, .inl (fun _ => 0))), (q7, .inl (G.2.1 0, 5000, .inl (fun _ => 0))), (q13, .inl (G.2.1 0, 5001, .inl (fun _ => 0))), (q19, .inl (G.2.1 0, 5001, .inl (fun _ => 0))), (q25, .inl (G.2.1 0, 5001, .inl (fun _ => 0))), (q31, .inl (G.2.1 0, 5001, .inl (fun _ => 0))), (q37, .inl (G.2.1 0, 5100, .inl (fun _ => 0))), (q45, .inl (G.2.1 0, 5100, .inl (fun _ => 0))), (q51, .inl (G.2.1 1, 5100, .inl (fun _ => 0))), (q57, .inl (G.2.1 0, 12000, .inl (fun _ => 0))), (q63, .inl (G.2.1 0, 12000, .inl (fun _ => 0))), (q69, .inl (G.2.1 0, 12000, .inl (fun _ => 0))), (q75, .inl (G.2.1 0, 12000, .inl (fun _ => 0))), (q83, .inl (G.2.1 0, 12000, .inl (fun _ => 0))), (q89, .inl (G.2.1 0, 12000, .inl (fun _ => 0))), (q95, .inl (G.2.1 0, 12000, .inl (fun _ => 0))), (q101, .inl (G.2.1 0, 12000, .inl (fun _ => 0))), (q107, .inl (G.2.1 0, 12000, .inl (fun _ => 0))), (q113, .inl (G.2.1 0, 12000, .inl (fun _ => 0))), (q121, .inl (G.2.1 0, 5000, .inl (fun _ => 0))), (q127, .inl (G.2.1 3, 5000, .inl (fun _ => 0))), (q133, .inl (G.2.1 0, 5000, .inl (fun _ => 0))), (q139, .inl (G.2.1 0, 5000, .inl (fun _ => 0))), (q145, .inl (G.2.1 0, 5000, .inl (fun _ => 0))), (q151, .inl (G.2.1 0, 40, .inl (fun _ => 0))), (q159, .inl (G.2.1 0, 40, .inl (fun _ => 0))), (q165, .inl (G.2.1 3, 40, .inl (fun _ => 0))), (q171, .inl (G.2.1 0, 40, .inl (fun _ => 0))), (q177, .inl (G.2.1 0, 40, .inl (fun _ => 0))), (q183, .inl (G.2.1 0, 40, .inl (fun _ => 0))), (q189, .inl (G.2.1 0, 40, .inl (fun _ => 0))), (q197, .inl (G.2.1 3, 1600, .inl (fun _ => 0))), (q203, .inl (G.2.1 0, 620, .inl (fun _ => 0))), (q209, .inl (G.2.1 0, 620, .inl (fun _ => 0))), (q215, .inl (G.2.1 0, 620, .inl (fun _ => 0))), (q221, .inl (G.2.1 0, 620, .inl (fun _ => 0))), (q227, .inl (G.2.1 0, 920, .inl (fun _ => 0))), (q235, .inl (G.2.1 0, 920, .inl (fun _ => 0))), (q241, .inl (G.2.1 0, 920, .inl (fun _ => 0))), (q247, .inl (G.2.1 0, 920, .inl (fun _ => 0))), (q253, .inl (G.2.1 0, 920, .inl (fun _ => 0))), (q259, .inl (G.2.1 0, 920, .inl (fun _ => 0))), (q265, .inl (G.2.1 0, 920, .inl (fun _ => 0))), (q273, .inl (G.2.1 0, 920, .inl (fun _ => 0))), (q279, .inl (G.2.1 0, 920, .inl (fun _ => 0))), (q285, .inl (G.2.1 0, 5000, .inl (fun _ => 0))), (q291, .inl (G.2.1 0, 5000, .inl (fun _ => 0))), (q297, .inl (G.2.1 0, 5000, .inl (fun _ => 0))), (q303, .inl (G.2.1 0, 40, .inl (fun _ => 0))), (q311, .inl (G.2.1 0, 40, .inl (fun _ => 0))), (q317, .inl (G.2.1 0, 200, .inl (fun _ => 0))), (q323, .inl (G.2.1 0, 400, .inl (fun _ => 0))), (q329, .inl (G.2.1 0, 12000, .inl (fun _ => 0))), (q335, .inl (G.2.1 0, 620, .inl (fun _ => 0))), (q341, .inl (G.2.1 0, 204000, .inl (fun _ => 0))), (q349, .inl (G.2.1 0, 3000, .inl (fun _ => 0))), (q355, .inl (G.2.1 0, 3000, .inl (fun _ => 0))), (q361, .inl (G.2.1 0, 3000, .inl (fun _ => 0))), (q367, .inl (G.2.1 0, 3000, .inl (fun _ => 0))), (q373, .inl (G.2.1 3, 3000, .inl (fun _ => 0)))] := by rw [ew375, ew369, ew363, ew357, ew351, ew345, en343]; rfl
  obtain ⟨wa382, ew383⟩ : ∃ z : va_W, z = wa374 ++ [(q379, .inl (G.2.1 0, 3100, .inl (fun _ => 0)))] := ⟨_, rfl⟩
  have hP : va_P G.1 pCl ((h0, .inr (9, fs376)) :: wa382) H := by rw [ew383]; exact hP
  have hD : va_D A ((h0, .inr (9, fs376)) :: wa382) := by rw [ew383]; exact hD
  refine W.widen (k := 61) (n := 453344) (Nat.le_of_ble_eq_true rfl) (Nat.le_of_ble_eq_true rfl) ?_
  refine va_putF (D := G.1) (ci := 9) (v := .ref q379) (ty := (.array .int)) (C := RX12) (T := TX12) (N := 134) hx hb hq pin_wsX120 tyX12 tyX12_ok nmX12 hown hE.1.1 hP hD hS 0 rfl rfl 96 (by decide) (by rw [tFX12_96]; exact hq _ pw_239) (fun _ h9 => h9) (by rw [tFX12_96]) hin (by rw [tFX12_96]; rfl) (by rw [tFX12_96]; decide +kernel) rfl rfl (by rw [hn378]; decide) dX12_init_540 (fun H locs hP hD hS => ?_)
  obtain ⟨fs384, e385⟩ : ∃ z : List Value, z = fs376.set 96 (.ref q379) := ⟨_, rfl⟩
  have hn386 : fs384.length = 134 := by rw [e385, List.length_set]; exact hn378
  have hP : va_P G.1 pCl ((h0, .inr (9, fs384)) :: wa382) H := by rw [e385]; exact hP
  have hD : va_D A ((h0, .inr (9, fs384)) :: wa382) := by rw [e385]; exact hD
  refine lv_aload_n hx hb dX12_init_543 rfl (lv_at hl 0 rfl) ?_
  refine lv_sipush (v := 3000) hx hb dX12_init_544 (by decide) ?_
  refine pn_newa (G := G) (atype := .int) (a0 := (3000, .inl (fun _ => 0))) (N' := 3000) hx hb (hq _ pw_636) rfl hE.1.2.1 hP hD hS hA (fun _ => rfl) (by decide) (by decide) (by decide) (Nat.le_of_ble_eq_true rfl) (Nat.le_of_ble_eq_true rfl) dX12_init_547 (fun q387 H hP hD hS => ?_)
  obtain ⟨wa388, ew389⟩ : ∃ z : va_W, z = wa382 ++ [(q387, .inl (G.2.1 0, 3000, .inl (fun _ => 0)))] := ⟨_, rfl⟩
  have hP : va_P G.1 pCl ((h0, .inr (9, fs384)) :: wa388) H := by rw [ew389]; exact hP
  have hD : va_D A ((h0, .inr (9, fs384)) :: wa388) := by rw [ew389]; exact hD
  refine W.widen (k := 62) (n := 456344) (Nat.le_of_ble_eq_true rfl) (Nat.le_of_ble_eq_true rfl) ?_
  refine va_putF (D := G.1) (ci := 9) (v := .ref q387) (ty := (.array .int)) (C := RX12) (T := TX12) (N := 134) hx hb hq pin_wsX120 tyX12 tyX12_ok nmX12 hown hE.1.1 hP hD hS 0 rfl rfl 100 (by decide) (by rw [tFX12_100]; exact hq _ pw_240) (fun _ h9 => h9) (by rw [tFX12_100]) hin (by rw [tFX12_100]; rfl) (by rw [tFX12_100]; decide +kernel) rfl rfl (by rw [hn386]; decide) dX12_init_549 (fun H locs hP hD hS => ?_)
  obtain ⟨fs390, e391⟩ : ∃ z : List Value, z = fs384.set 100 (.ref q387) := ⟨_, rfl⟩
  have hn392 : fs390.length = 134 := by rw [e391, List.length_set]; exact hn386
  have hP : va_P G.1 pCl ((h0, .inr (9, fs390)) :: wa388) H := by rw [e391]; exact hP
  have hD : va_D A ((h0, .inr (9, fs390)) :: wa388) := by rw [e391]; exact hD
  refine lv_aload_n hx hb dX12_init_552 rfl (lv_at hl 0 rfl) ?_
  refine lv_bipush (v := 100) hx hb dX12_init_553 (by decide) ?_
  refine pn_newa (G := G) (atype := .int) (a0 := (100, .inl (fun _ => 0))) (N' := 100) hx hb (hq _ pw_636) rfl hE.1.2.1 hP hD hS hA (fun _ => rfl) (by decide) (by decide) (by decide) (Nat.le_of_ble_eq_true rfl) (Nat.le_of_ble_eq_true rfl) dX12_init_555 (fun q393 H hP hD hS => ?_)
  obtain ⟨wa394, ew395⟩ : ∃ z : va_W, z = wa388 ++ [(q393, .inl (G.2.1 0, 100, .inl (fun _ => 0)))] := ⟨_, rfl⟩
  have hP : va_P G.1 pCl ((h0, .inr (9, fs390)) :: wa394) H := by rw [ew395]; exact hP
  have hD : va_D A ((h0, .inr (9, fs390)) :: wa394) := by rw [ew395]; exact hD
  refine W.widen (k := 63) (n := 456444) (Nat.le_of_ble_eq_true rfl) (Nat.le_of_ble_eq_true rfl) ?_
  refine va_putF (D := G.1) (ci := 9) (v := .ref q393) (ty := (.array .int)) (C := RX12) (T := TX12) (N := 134) hx hb hq pin_wsX120 tyX12 tyX12_ok nmX12 hown hE.1.1 hP hD hS 0 rfl rfl 103 (by decide) (by rw [tFX12_103]; exact hq _ pw_241) (fun _ h9 => h9) (by rw [tFX12_103]) hin (by rw [tFX12_103]; rfl) (by rw [tFX12_103]; decide +kernel) rfl rfl (by rw [hn392]; decide) dX12_init_557 (fun H locs hP hD hS => ?_)
  obtain ⟨fs396, e397⟩ : ∃ z : List Value, z = fs390.set 103 (.ref q393) := ⟨_, rfl⟩
  have hn398 : fs396.length = 134 := by rw [e397, List.length_set]; exact hn392
  have hP : va_P G.1 pCl ((h0, .inr (9, fs396)) :: wa394) H := by rw [e397]; exact hP
  have hD : va_D A ((h0, .inr (9, fs396)) :: wa394) := by rw [e397]; exact hD
  refine lv_aload_n hx hb dX12_init_560 rfl (lv_at hl 0 rfl) ?_
  refine lv_bipush (v := 100) hx hb dX12_init_561 (by decide) ?_
  refine pn_newa (G := G) (atype := .int) (a0 := (100, .inl (fun _ => 0))) (N' := 100) hx hb (hq _ pw_636) rfl hE.1.2.1 hP hD hS hA (fun _ => rfl) (by decide) (by decide) (by decide) (Nat.le_of_ble_eq_true rfl) (Nat.le_of_ble_eq_true rfl) dX12_init_563 (fun q399 H hP hD hS => ?_)
  obtain ⟨wa400, ew401⟩ : ∃ z : va_W, z = wa394 ++ [(q399, .inl (G.2.1 0, 100, .inl (fun _ => 0)))] := ⟨_, rfl⟩
  have hP : va_P G.1 pCl ((h0, .inr (9, fs396)) :: wa400) H := by rw [ew401]; exact hP
  have hD : va_D A ((h0, .inr (9, fs396)) :: wa400) := by rw [ew401]; exact hD
  refine W.widen (k := 64) (n := 456544) (Nat.le_of_ble_eq_true rfl) (Nat.le_of_ble_eq_true rfl) ?_
  refine va_putF (D := G.1) (ci := 9) (v := .ref q399) (ty := (.array .int)) (C := RX12) (T := TX12) (N := 134) hx hb hq pin_wsX120 tyX12 tyX12_ok nmX12 hown hE.1.1 hP hD hS 0 rfl rfl 104 (by decide) (by rw [tFX12_104]; exact hq _ pw_242) (fun _ h9 => h9) (by rw [tFX12_104]) hin (by rw [tFX12_104]; rfl) (by rw [tFX12_104]; decide +kernel) rfl rfl (by rw [hn398]; decide) dX12_init_565 (fun H locs hP hD hS => ?_)
  obtain ⟨fs402, e403⟩ : ∃ z : List Value, z = fs396.set 104 (.ref q399) := ⟨_, rfl⟩
  have hn404 : fs402.length = 134 := by rw [e403, List.length_set]; exact hn398
  have hP : va_P G.1 pCl ((h0, .inr (9, fs402)) :: wa400) H := by rw [e403]; exact hP
  have hD : va_D A ((h0, .inr (9, fs402)) :: wa400) := by rw [e403]; exact hD
  refine lv_aload_n hx hb dX12_init_568 rfl (lv_at hl 0 rfl) ?_
  refine lv_bipush (v := 100) hx hb dX12_init_569 (by decide) ?_
  refine pn_newa (G := G) (atype := .int) (a0 := (100, .inl (fun _ => 0))) (N' := 100) hx hb (hq _ pw_636) rfl hE.1.2.1 hP hD hS hA (fun _ => rfl) (by decide) (by decide) (by decide) (Nat.le_of_ble_eq_true rfl) (Nat.le_of_ble_eq_true rfl) dX12_init_571 (fun q405 H hP hD hS => ?_)
  obtain ⟨wa406, ew407⟩ : ∃ z : va_W, z = wa400 ++ [(q405, .inl (G.2.1 0, 100, .inl (fun _ => 0)))] := ⟨_, rfl⟩
  have hP : va_P G.1 pCl ((h0, .inr (9, fs402)) :: wa406) H := by rw [ew407]; exact hP
  have hD : va_D A ((h0, .inr (9, fs402)) :: wa406) := by rw [ew407]; exact hD
  refine W.widen (k := 65) (n := 456644) (Nat.le_of_ble_eq_true rfl) (Nat.le_of_ble_eq_true rfl) ?_
  refine va_putF (D := G.1) (ci := 9) (v := .ref q405) (ty := (.array .int)) (C := RX12) (T := TX12) (N := 134) hx hb hq pin_wsX120 tyX12 tyX12_ok nmX12 hown hE.1.1 hP hD hS 0 rfl rfl 105 (by decide) (by rw [tFX12_105]; exact hq _ pw_243) (fun _ h9 => h9) (by rw [tFX12_105]) hin (by rw [tFX12_105]; rfl) (by rw [tFX12_105]; decide +kernel) rfl rfl (by rw [hn404]; decide) dX12_init_573 (fun H locs hP hD hS => ?_)
  obtain ⟨fs408, e409⟩ : ∃ z : List Value, z = fs402.set 105 (.ref q405) := ⟨_, rfl⟩
  have hn410 : fs408.length = 134 := by rw [e409, List.length_set]; exact hn404
  have hP : va_P G.1 pCl ((h0, .inr (9, fs408)) :: wa406) H := by rw [e409]; exact hP
  have hD : va_D A ((h0, .inr (9, fs408)) :: wa406) := by rw [e409]; exact hD
  refine lv_aload_n hx hb dX12_init_576 rfl (lv_at hl 0 rfl) ?_
  refine lv_bipush (v := 100) hx hb dX12_init_577 (by decide) ?_
  refine pn_newa (G := G) (atype := .int) (a0 := (100, .inl (fun _ => 0))) (N' := 100) hx hb (hq _ pw_636) rfl hE.1.2.1 hP hD hS hA (fun _ => rfl) (by decide) (by decide) (by decide) (Nat.le_of_ble_eq_true rfl) (Nat.le_of_ble_eq_true rfl) dX12_init_579 (fun q411 H hP hD hS => ?_)
  obtain ⟨wa412, ew413⟩ : ∃ z : va_W, z = wa406 ++ [(q411, .inl (G.2.1 0, 100, .inl (fun _ => 0)))] := ⟨_, rfl⟩
  have hP : va_P G.1 pCl ((h0, .inr (9, fs408)) :: wa412) H := by rw [ew413]; exact hP
  have hD : va_D A ((h0, .inr (9, fs408)) :: wa412) := by rw [ew413]; exact hD
  refine W.widen (k := 66) (n := 456744) (Nat.le_of_ble_eq_true rfl) (Nat.le_of_ble_eq_true rfl) ?_
  refine va_putF (D := G.1) (ci := 9) (v := .ref q411) (ty := (.array .int)) (C := RX12) (T := TX12) (N := 134) hx hb hq pin_wsX120 tyX12 tyX12_ok nmX12 hown hE.1.1 hP hD hS 0 rfl rfl 106 (by decide) (by rw [tFX12_106]; exact hq _ pw_244) (fun _ h9 => h9) (by rw [tFX12_106]) hin (by rw [tFX12_106]; rfl) (by rw [tFX12_106]; decide +kernel) rfl rfl (by rw [hn410]; decide) dX12_init_581 (fun H locs hP hD hS => ?_)
  obtain ⟨fs414, e415⟩ : ∃ z : List Value, z = fs408.set 106 (.ref q411) := ⟨_, rfl⟩
  have hn416 : fs414.length = 134 := by rw [e415, List.length_set]; exact hn410
  have hP : va_P G.1 pCl ((h0, .inr (9, fs414)) :: wa412) H := by rw [e415]; exact hP
  have hD : va_D A ((h0, .inr (9, fs414)) :: wa412) := by rw [e415]; exact hD
  refine lv_aload_n hx hb dX12_init_584 rfl (lv_at hl 0 rfl) ?_
  refine lv_sipush (v := 3200) hx hb dX12_init_585 (by decide) ?_
  refine pn_newa (G := G) (atype := .int) (a0 := (3200, .inl (fun _ => 0))) (N' := 3200) hx hb (hq _ pw_636) rfl hE.1.2.1 hP hD hS hA (fun _ => rfl) (by decide) (by decide) (by decide) (Nat.le_of_ble_eq_true rfl) (Nat.le_of_ble_eq_true rfl) dX12_init_588 (fun q417 H hP hD hS => ?_)
  have en418 : fs414 = [.int 0, .ref q1, .int 0, .ref q7, .int 0, .ref q13, .ref q19, .ref q25, .ref q31, .int 0, .ref q37, .ref q45, .ref q51, .int 0, .int 0, .int 0, .int 0, .ref q57, .ref q63, .ref q69, .ref q75, .ref q83, .ref q89, .ref q95, .ref q101, .ref q107, .ref q113, .int 0, .ref q121, .ref q127, .ref q133, .int 0, .ref q139, .ref q145, .int 0, .int 0, .ref q151, .ref q159, .ref q165, .ref q171, .ref q177, .ref q183, .ref q189, .ref q197, .int 0, .ref q203, .ref q209, .ref q215, .ref q221, .int 0, .ref q227, .ref q235, .ref q241, .ref q247, .ref q253, .ref q259, .ref q265, .ref q273, .ref q279, .int 0, .int 0, .ref q285, .ref q291, .ref q297, .int 0, .int 0, .int 0, .int 0, .int 0, .int 0, .int 0, .ref q303, .ref q311, .int 0, .int 0, .int 0, .int 0, .int 0, .int 0, .int 0, .int 0, .int 0, .int 0, .int 0, .ref q317, .int 0, .ref q323, .int 0, .ref q329, .ref q335, .ref q341, .ref q349, .ref q355, .ref q361, .ref q367, .ref q373, .ref q379, .int 0, .int 0, .int 0, .ref q387, .int 0, .int 0, .ref q393, .ref q399, .ref q405, .ref q411, .null, .null, .null, .null, .int 0, .null, .null, .null, .int 0, .int 0, .int 0, .int 0, .int 0, .int 0, .int 0, .int 0, .int 0, .int 0, .int 0, .int 0, .null, .int 0, .null, .int 0, .null, .null, .null] := by rw [e415, e409, e403, e397, e391, e385, en380]; rfl
  have en419 : wa412 = [(q1, .inl (G.2.1 0, 5000, .inl (fun _ => 0))), (q7, .inl (G.2.1 0, 5000, .inl (fun _ => 0))), (q13, .inl (G.2.1 0, 5001, .inl (fun _ => 0))), (q19, .inl (G.2.1 0, 5001, .inl (fun _ => 0))), (q25, .inl (G.2.1 0, 5001, .inl (fun _ => 0))), (q31, .inl (G.2.1 0, 5001, .inl (fun _ => 0))), (q37, .inl (G.2.1 0, 5100, .inl (fun _ => 0))), (q45, .inl (G.2.1 0, 5100, .inl (fun _ => 0))), (q51, .inl (G.2.1 1, 5100, .inl (fun _ => 0))), (q57, .inl (G.2.1 0, 12000, .inl (fun _ => 0))), (q63, .inl (G.2.1 0, 12000, .inl (fun _ => 0))), (q69, .inl (G.2.1 0, 12000, .inl (fun _ => 0))), (q75, .inl (G.2.1 0, 12000, .inl (fun _ => 0))), (q83, .inl (G.2.1 0, 12000, .inl (fun _ => 0))), (q89, .inl (G.2.1 0, 12000, .inl (fun _ => 0))), (q95, .inl (G.2.1 0, 12000, .inl (fun _ => 0))), (q101, .inl (G.2.1 0, 12000, .inl (fun _ => 0))), (q107, .inl (G.2.1 0, 12000, .inl (fun _ => 0))), (q113, .inl (G.2.1 0, 12000, .inl (fun _ => 0))), (q121, .inl (G.2.1 0, 5000, .inl (fun _ => 0))), (q127, .inl (G.2.1 3, 5000, .inl (fun _ => 0))), (q133, .inl (G.2.1 0, 5000, .inl (fun _ => 0))), (q139, .inl (G.2.1 0, 5000, .inl (fun _ => 0))), (q145, .inl (G.2.1 0, 5000, .inl (fun _ => 0))), (q151, .inl (G.2.1 0, 40, .inl (fun _ => 0))), (q159, .inl (G.2.1 0, 40, .inl (fun _ => 0))), (q165, .inl (G.2.1 3, 40, .inl (fun _ => 0))), (q171, .inl (G.2.1 0, 40, .inl (fun _ => 0))), (q177, .inl (G.2.1 0, 40, .inl (fun _ => 0))), (q183, .inl (G.2.1 0, 40, .inl (fun _ => 0))), (q189, .inl (G.2.1 0, 40, .inl (fun _ => 0))), (q197, .inl (G.2.1 3, 1600, .inl (fun _ => 0))), (q203, .inl (G.2.1 0, 620, .inl (fun _ => 0))), (q209, .inl (G.2.1 0, 620, .inl (fun _ => 0))), (q215, .inl (G.2.1 0, 620, .inl (fun _ => 0))), (q221, .inl (G.2.1 0, 620, .inl (fun _ => 0))), (q227, .inl (G.2.1 0, 920, .inl (fun _ => 0))), (q235, .inl (G.2.1 0, 920, .inl (fun _ => 0))), (q241, .inl (G.2.1 0, 920, .inl (fun _ => 0))), (q247, .inl (G.2.1 0, 920, .inl (fun _ => 0))), (q253, .inl (G.2.1 0, 920, .inl (fun _ => 0))), (q259, .inl (G.2.1 0, 920, .inl (fun _ => 0))), (q265, .inl (G.2.1 0, 920, .inl (fun _ => 0))), (q273, .inl (G.2.1 0, 920, .inl (fun _ => 0))), (q279, .inl (G.2.1 0, 920, .inl (fun _ => 0))), (q285, .inl (G.2.1 0, 5000, .inl (fun _ => 0))), (q291, .inl (G.2.1 0, 5000, .inl (fun _ => 0))), (q297, .inl (G.2.1 0, 5000, .inl (fun _ => 0))), (q303, .inl (G.2.1 0, 40, .inl (fun _ => 0))), (q311, .inl (G.2.1 0, 40, .inl (fun _ => 0))), (q317, .inl (G.2.1 0, 200, .inl (fun _ => 0))), (q323, .inl (G.2.1 0, 400, .inl (fun _ => 0))), (q329, .inl (G.2.1 0, 12000, .inl (fun _ => 0))), (q335, .inl (G.2.1 0, 620, .inl (fun _ => 0))), (q341, .inl (G.2.1 0, 204000, .inl (fun _ => 0))), (q349, .inl (G.2.1 0, 3000, .inl (fun _ => 0))), (q355, .inl (G.2.1 0, 3000, .inl (fun _ => 0))), (q361, .inl (G.2.1 0, 3000, .inl (fun _ => 0))), (q367, .inl (G.2.1 0, 3000, .inl (fun _ => 0))), (q373, .inl (G.2.1 3, 3000, .inl (fun _ => 0))), (q379, .inl (G.2.1 0, 3100, .inl (fun _ => 0))), (q387, .inl (G.2.1 0, 3000, .inl (fun _ => 0))), (q393, .inl (G.2.1 0, 100, .inl (fun _ => 0))), (q399, .inl (G.2.1 0, 100, .inl (fun _ => 0))), (q405, .inl (G.2.1 0, 100, .inl (fun _ => 0))), (q411, .inl (G.2.1 0, 100, .inl (fun _ => 0)))] := by rw [ew413, ew407, ew401, ew395, ew389, ew383, en381]; rfl
  obtain ⟨wa420, ew421⟩ : ∃ z : va_W, z = wa412 ++ [(q417, .inl (G.2.1 0, 3200, .inl (fun _ => 0)))] := ⟨_, rfl⟩
  have hP : va_P G.1 pCl ((h0, .inr (9, fs414)) :: wa420) H := by rw [ew421]; exact hP
  have hD : va_D A ((h0, .inr (9, fs414)) :: wa420) := by rw [ew421]; exact hD
  refine W.widen (k := 67) (n := 459944) (Nat.le_of_ble_eq_true rfl) (Nat.le_of_ble_eq_true rfl) ?_
  refine va_putF (D := G.1) (ci := 9) (v := .ref q417) (ty := (.array .int)) (C := RX12) (T := TX12) (N := 134) hx hb hq pin_wsX120 tyX12 tyX12_ok nmX12 hown hE.1.1 hP hD hS 0 rfl rfl 107 (by decide) (by rw [tFX12_107]; exact hq _ pw_245) (fun _ h9 => h9) (by rw [tFX12_107]) hin (by rw [tFX12_107]; rfl) (by rw [tFX12_107]; decide +kernel) rfl rfl (by rw [hn416]; decide) dX12_init_590 (fun H locs hP hD hS => ?_)
  obtain ⟨fs422, e423⟩ : ∃ z : List Value, z = fs414.set 107 (.ref q417) := ⟨_, rfl⟩
  have hn424 : fs422.length = 134 := by rw [e423, List.length_set]; exact hn416
  have hP : va_P G.1 pCl ((h0, .inr (9, fs422)) :: wa420) H := by rw [e423]; exact hP
  have hD : va_D A ((h0, .inr (9, fs422)) :: wa420) := by rw [e423]; exact hD
  refine lv_aload_n hx hb dX12_init_593 rfl (lv_at hl 0 rfl) ?_
  refine lv_sipush (v := 3200) hx hb dX12_init_594 (by decide) ?_
  refine pn_newa (G := G) (atype := .boolean) (a0 := (3200, .inl (fun _ => 0))) (N' := 3200) hx hb (hq _ pw_670) rfl hE.1.2.2.2.2 hP hD hS hA (fun _ => rfl) (by decide) (by decide) (by decide) (Nat.le_of_ble_eq_true rfl) (Nat.le_of_ble_eq_true rfl) dX12_init_597 (fun q425 H hP hD hS => ?_)
  obtain ⟨wa426, ew427⟩ : ∃ z : va_W, z = wa420 ++ [(q425, .inl (G.2.1 3, 3200, .inl (fun _ => 0)))] := ⟨_, rfl⟩
  have hP : va_P G.1 pCl ((h0, .inr (9, fs422)) :: wa426) H := by rw [ew427]; exact hP
  have hD : va_D A ((h0, .inr (9, fs422)) :: wa426) := by rw [ew427]; exact hD
  refine W.widen (k := 68) (n := 463144) (Nat.le_of_ble_eq_true rfl) (Nat.le_of_ble_eq_true rfl) ?_
  refine va_putF (D := G.1) (ci := 9) (v := .ref q425) (ty := (.array .boolean)) (C := RX12) (T := TX12) (N := 134) hx hb hq pin_wsX120 tyX12 tyX12_ok nmX12 hown hE.1.1 hP hD hS 0 rfl rfl 108 (by decide) (by rw [tFX12_108]; exact hq _ pw_246) (fun _ h9 => h9) (by rw [tFX12_108]) hin (by rw [tFX12_108]; rfl) (by rw [tFX12_108]; decide +kernel) rfl rfl (by rw [hn424]; decide) dX12_init_599 (fun H locs hP hD hS => ?_)
  obtain ⟨fs428, e429⟩ : ∃ z : List Value, z = fs422.set 108 (.ref q425) := ⟨_, rfl⟩
  have hn430 : fs428.length = 134 := by rw [e429, List.length_set]; exact hn424
  have hP : va_P G.1 pCl ((h0, .inr (9, fs428)) :: wa426) H := by rw [e429]; exact hP
  have hD : va_D A ((h0, .inr (9, fs428)) :: wa426) := by rw [e429]; exact hD
  refine lv_aload_n hx hb dX12_init_602 rfl (lv_at hl 0 rfl) ?_
  refine lv_ldc (v := 40000) hx hb hown (hq _ pw_247) dX12_init_603 ?_
  refine pn_newa (G := G) (atype := .int) (a0 := (40000, .inl (fun _ => 0))) (N' := 40000) hx hb (hq _ pw_636) rfl hE.1.2.1 hP hD hS hA (fun _ => rfl) (by decide) (by decide) (by decide) (Nat.le_of_ble_eq_true rfl) (Nat.le_of_ble_eq_true rfl) dX12_init_605 (fun q431 H hP hD hS => ?_)
  obtain ⟨wa432, ew433⟩ : ∃ z : va_W, z = wa426 ++ [(q431, .inl (G.2.1 0, 40000, .inl (fun _ => 0)))] := ⟨_, rfl⟩
  have hP : va_P G.1 pCl ((h0, .inr (9, fs428)) :: wa432) H := by rw [ew433]; exact hP
  have hD : va_D A ((h0, .inr (9, fs428)) :: wa432) := by rw [ew433]; exact hD
  refine W.widen (k := 69) (n := 503144) (Nat.le_of_ble_eq_true rfl) (Nat.le_of_ble_eq_true rfl) ?_
  refine va_putF (D := G.1) (ci := 9) (v := .ref q431) (ty := (.array .int)) (C := RX12) (T := TX12) (N := 134) hx hb hq pin_wsX120 tyX12 tyX12_ok nmX12 hown hE.1.1 hP hD hS 0 rfl rfl 109 (by decide) (by rw [tFX12_109]; exact hq _ pw_248) (fun _ h9 => h9) (by rw [tFX12_109]) hin (by rw [tFX12_109]; rfl) (by rw [tFX12_109]; decide +kernel) rfl rfl (by rw [hn430]; decide) dX12_init_607 (fun H locs hP hD hS => ?_)
  obtain ⟨fs434, e435⟩ : ∃ z : List Value, z = fs428.set 109 (.ref q431) := ⟨_, rfl⟩
  have hn436 : fs434.length = 134 := by rw [e435, List.length_set]; exact hn430
  have hP : va_P G.1 pCl ((h0, .inr (9, fs434)) :: wa432) H := by rw [e435]; exact hP
  have hD : va_D A ((h0, .inr (9, fs434)) :: wa432) := by rw [e435]; exact hD
  refine lv_aload_n hx hb dX12_init_610 rfl (lv_at hl 0 rfl) ?_
  refine lv_ldc (v := 40000) hx hb hown (hq _ pw_247) dX12_init_611 ?_
  refine pn_newa (G := G) (atype := .boolean) (a0 := (40000, .inl (fun _ => 0))) (N' := 40000) hx hb (hq _ pw_670) rfl hE.1.2.2.2.2 hP hD hS hA (fun _ => rfl) (by decide) (by decide) (by decide) (Nat.le_of_ble_eq_true rfl) (Nat.le_of_ble_eq_true rfl) dX12_init_613 (fun q437 H hP hD hS => ?_)
  obtain ⟨wa438, ew439⟩ : ∃ z : va_W, z = wa432 ++ [(q437, .inl (G.2.1 3, 40000, .inl (fun _ => 0)))] := ⟨_, rfl⟩
  have hP : va_P G.1 pCl ((h0, .inr (9, fs434)) :: wa438) H := by rw [ew439]; exact hP
  have hD : va_D A ((h0, .inr (9, fs434)) :: wa438) := by rw [ew439]; exact hD
  refine W.widen (k := 70) (n := 543144) (Nat.le_of_ble_eq_true rfl) (Nat.le_of_ble_eq_true rfl) ?_
  refine va_putF (D := G.1) (ci := 9) (v := .ref q437) (ty := (.array .boolean)) (C := RX12) (T := TX12) (N := 134) hx hb hq pin_wsX120 tyX12 tyX12_ok nmX12 hown hE.1.1 hP hD hS 0 rfl rfl 110 (by decide) (by rw [tFX12_110]; exact hq _ pw_249) (fun _ h9 => h9) (by rw [tFX12_110]) hin (by rw [tFX12_110]; rfl) (by rw [tFX12_110]; decide +kernel) rfl rfl (by rw [hn436]; decide) dX12_init_615 (fun H locs hP hD hS => ?_)
  obtain ⟨fs440, e441⟩ : ∃ z : List Value, z = fs434.set 110 (.ref q437) := ⟨_, rfl⟩
  have hn442 : fs440.length = 134 := by rw [e441, List.length_set]; exact hn436
  have hP : va_P G.1 pCl ((h0, .inr (9, fs440)) :: wa438) H := by rw [e441]; exact hP
  have hD : va_D A ((h0, .inr (9, fs440)) :: wa438) := by rw [e441]; exact hD
  refine lv_aload_n hx hb dX12_init_618 rfl (lv_at hl 0 rfl) ?_
  refine lv_sipush (v := 2100) hx hb dX12_init_619 (by decide) ?_
  refine pn_newa (G := G) (atype := .int) (a0 := (2100, .inl (fun _ => 0))) (N' := 2100) hx hb (hq _ pw_636) rfl hE.1.2.1 hP hD hS hA (fun _ => rfl) (by decide) (by decide) (by decide) (Nat.le_of_ble_eq_true rfl) (Nat.le_of_ble_eq_true rfl) dX12_init_622 (fun q443 H hP hD hS => ?_)
  obtain ⟨wa444, ew445⟩ : ∃ z : va_W, z = wa438 ++ [(q443, .inl (G.2.1 0, 2100, .inl (fun _ => 0)))] := ⟨_, rfl⟩
  have hP : va_P G.1 pCl ((h0, .inr (9, fs440)) :: wa444) H := by rw [ew445]; exact hP
  have hD : va_D A ((h0, .inr (9, fs440)) :: wa444) := by rw [ew445]; exact hD
  refine W.widen (k := 71) (n := 545244) (Nat.le_of_ble_eq_true rfl) (Nat.le_of_ble_eq_true rfl) ?_
  refine va_putF (D := G.1) (ci := 9) (v := .ref q443) (ty := (.array .int)) (C := RX12) (T := TX12) (N := 134) hx hb hq pin_wsX120 tyX12 tyX12_ok nmX12 hown hE.1.1 hP hD hS 0 rfl rfl 112 (by decide) (by rw [tFX12_112]; exact hq _ pw_250) (fun _ h9 => h9) (by rw [tFX12_112]) hin (by rw [tFX12_112]; rfl) (by rw [tFX12_112]; decide +kernel) rfl rfl (by rw [hn442]; decide) dX12_init_624 (fun H locs hP hD hS => ?_)
  obtain ⟨fs446, e447⟩ : ∃ z : List Value, z = fs440.set 112 (.ref q443) := ⟨_, rfl⟩
  have hn448 : fs446.length = 134 := by rw [e447, List.length_set]; exact hn442
  have hP : va_P G.1 pCl ((h0, .inr (9, fs446)) :: wa444) H := by rw [e447]; exact hP
  have hD : va_D A ((h0, .inr (9, fs446)) :: wa444) := by rw [e447]; exact hD
  refine lv_aload_n hx hb dX12_init_627 rfl (lv_at hl 0 rfl) ?_
  refine lv_sipush (v := 2100) hx hb dX12_init_628 (by decide) ?_
  refine pn_newa (G := G) (atype := .int) (a0 := (2100, .inl (fun _ => 0))) (N' := 2100) hx hb (hq _ pw_636) rfl hE.1.2.1 hP hD hS hA (fun _ => rfl) (by decide) (by decide) (by decide) (Nat.le_of_ble_eq_true rfl) (Nat.le_of_ble_eq_true rfl) dX12_init_631 (fun q449 H hP hD hS => ?_)
  obtain ⟨wa450, ew451⟩ : ∃ z : va_W, z = wa444 ++ [(q449, .inl (G.2.1 0, 2100, .inl (fun _ => 0)))] := ⟨_, rfl⟩
  have hP : va_P G.1 pCl ((h0, .inr (9, fs446)) :: wa450) H := by rw [ew451]; exact hP
  have hD : va_D A ((h0, .inr (9, fs446)) :: wa450) := by rw [ew451]; exact hD
  refine W.widen (k := 72) (n := 547344) (Nat.le_of_ble_eq_true rfl) (Nat.le_of_ble_eq_true rfl) ?_
  refine va_putF (D := G.1) (ci := 9) (v := .ref q449) (ty := (.array .int)) (C := RX12) (T := TX12) (N := 134) hx hb hq pin_wsX120 tyX12 tyX12_ok nmX12 hown hE.1.1 hP hD hS 0 rfl rfl 113 (by decide) (by rw [tFX12_113]; exact hq _ pw_251) (fun _ h9 => h9) (by rw [tFX12_113]) hin (by rw [tFX12_113]; rfl) (by rw [tFX12_113]; decide +kernel) rfl rfl (by rw [hn448]; decide) dX12_init_633 (fun H locs hP hD hS => ?_)
  obtain ⟨fs452, e453⟩ : ∃ z : List Value, z = fs446.set 113 (.ref q449) := ⟨_, rfl⟩
  have hn454 : fs452.length = 134 := by rw [e453, List.length_set]; exact hn448
  have hP : va_P G.1 pCl ((h0, .inr (9, fs452)) :: wa450) H := by rw [e453]; exact hP
  have hD : va_D A ((h0, .inr (9, fs452)) :: wa450) := by rw [e453]; exact hD
  refine lv_aload_n hx hb dX12_init_636 rfl (lv_at hl 0 rfl) ?_
  refine lv_sipush (v := 2100) hx hb dX12_init_637 (by decide) ?_
  refine pn_newa (G := G) (atype := .boolean) (a0 := (2100, .inl (fun _ => 0))) (N' := 2100) hx hb (hq _ pw_670) rfl hE.1.2.2.2.2 hP hD hS hA (fun _ => rfl) (by decide) (by decide) (by decide) (Nat.le_of_ble_eq_true rfl) (Nat.le_of_ble_eq_true rfl) dX12_init_640 (fun q455 H hP hD hS => ?_)
  have en456 : fs452 = [.int 0, .ref q1, .int 0, .ref q7, .int 0, .ref q13, .ref q19, .ref q25, .ref q31, .int 0, .ref q37, .ref q45, .ref q51, .int 0, .int 0, .int 0, .int 0, .ref q57, .ref q63, .ref q69, .ref q75, .ref q83, .ref q89, .ref q95, .ref q101, .ref q107, .ref q113, .int 0, .ref q121, .ref q127, .ref q133, .int 0, .ref q139, .ref q145, .int 0, .int 0, .ref q151, .ref q159, .ref q165, .ref q171, .ref q177, .ref q183, .ref q189, .ref q197, .int 0, .ref q203, .ref q209, .ref q215, .ref q221, .int 0, .ref q227, .ref q235, .ref q241, .ref q247, .ref q253, .ref q259, .ref q265, .ref q273, .ref q279, .int 0, .int 0, .ref q285, .ref q291, .ref q297, .int 0, .int 0, .int 0, .int 0, .int 0, .int 0, .int 0, .ref q303, .ref q311, .int 0, .int 0, .int 0, .int 0, .int 0, .int 0, .int 0, .int 0, .int 0, .int 0, .int 0, .ref q317, .int 0, .ref q323, .int 0, .ref q329, .ref q335, .ref q341, .ref q349, .ref q355, .ref q361, .ref q367, .ref q373, .ref q379, .int 0, .int 0, .int 0, .ref q387, .int 0, .int 0, .ref q393, .ref q399, .ref q405, .ref q411, .ref q417, .ref q425, .ref q431, .ref q437, .int 0, .ref q443, .ref q449, .null, .int 0, .int 0, .int 0, .int 0, .int 0, .int 0, .int 0, .int 0, .int 0, .int 0, .int 0, .int 0, .null, .int 0, .null, .int 0, .null, .null, .null] := by rw [e453, e447, e441, e435, e429, e423, en418]; rfl
  have en457 : wa450 = [(q1, .inl (G.2.1 0, 5000, .inl (fun _ => 0))), (q7, .inl (G.2.1 0, 5000, .inl (fun _ => 0))), (q13, .inl (G.2.1 0, 5001, .inl (fun _ => 0))), (q19, .inl (G.2.1 0, 5001, .inl (fun _ => 0))), (q25, .inl (G.2.1 0, 5001, .inl (fun _ => 0))), (q31, .inl (G.2.1 0, 5001, .inl (fun _ => 0))), (q37, .inl (G.2.1 0, 5100, .inl (fun _ => 0))), (q45, .inl (G.2.1 0, 5100, .inl (fun _ => 0))), (q51, .inl (G.2.1 1, 5100, .inl (fun _ => 0))), (q57, .inl (G.2.1 0, 12000, .inl (fun _ => 0))), (q63, .inl (G.2.1 0, 12000, .inl (fun _ => 0))), (q69, .inl (G.2.1 0, 12000, .inl (fun _ => 0))), (q75, .inl (G.2.1 0, 12000, .inl (fun _ => 0))), (q83, .inl (G.2.1 0, 12000, .inl (fun _ => 0))), (q89, .inl (G.2.1 0, 12000, .inl (fun _ => 0))), (q95, .inl (G.2.1 0, 12000, .inl (fun _ => 0))), (q101, .inl (G.2.1 0, 12000, .inl (fun _ => 0))), (q107, .inl (G.2.1 0, 12000, .inl (fun _ => 0))), (q113, .inl (G.2.1 0, 12000, .inl (fun _ => 0))), (q121, .inl (G.2.1 0, 5000, .inl (fun _ => 0))), (q127, .inl (G.2.1 3, 5000, .inl (fun _ => 0))), (q133, .inl (G.2.1 0, 5000, .inl (fun _ => 0))), (q139, .inl (G.2.1 0, 5000, .inl (fun _ => 0))), (q145, .inl (G.2.1 0, 5000, .inl (fun _ => 0))), (q151, .inl (G.2.1 0, 40, .inl (fun _ => 0))), (q159, .inl (G.2.1 0, 40, .inl (fun _ => 0))), (q165, .inl (G.2.1 3, 40, .inl (fun _ => 0))), (q171, .inl (G.2.1 0, 40, .inl (fun _ => 0))), (q177, .inl (G.2.1 0, 40, .inl (fun _ => 0))), (q183, .inl (G.2.1 0, 40, .inl (fun _ => 0))), (q189, .inl (G.2.1 0, 40, .inl (fun _ => 0))), (q197, .inl (G.2.1 3, 1600, .inl (fun _ => 0))), (q203, .inl (G.2.1 0, 620, .inl (fun _ => 0))), (q209, .inl (G.2.1 0, 620, .inl (fun _ => 0))), (q215, .inl (G.2.1 0, 620, .inl (fun _ => 0))), (q221, .inl (G.2.1 0, 620, .inl (fun _ => 0))), (q227, .inl (G.2.1 0, 920, .inl (fun _ => 0))), (q235, .inl (G.2.1 0, 920, .inl (fun _ => 0))), (q241, .inl (G.2.1 0, 920, .inl (fun _ => 0))), (q247, .inl (G.2.1 0, 920, .inl (fun _ => 0))), (q253, .inl (G.2.1 0, 920, .inl (fun _ => 0))), (q259, .inl (G.2.1 0, 920, .inl (fun _ => 0))), (q265, .inl (G.2.1 0, 920, .inl (fun _ => 0))), (q273, .inl (G.2.1 0, 920, .inl (fun _ => 0))), (q279, .inl (G.2.1 0, 920, .inl (fun _ => 0))), (q285, .inl (G.2.1 0, 5000, .inl (fun _ => 0))), (q291, .inl (G.2.1 0, 5000, .inl (fun _ => 0))), (q297, .inl (G.2.1 0, 5000, .inl (fun _ => 0))), (q303, .inl (G.2.1 0, 40, .inl (fun _ => 0))), (q311, .inl (G.2.1 0, 40, .inl (fun _ => 0))), (q317, .inl (G.2.1 0, 200, .inl (fun _ => 0))), (q323, .inl (G.2.1 0, 400, .inl (fun _ => 0))), (q329, .inl (G.2.1 0, 12000, .inl (fun _ => 0))), (q335, .inl (G.2.1 0, 620, .inl (fun _ => 0))), (q341, .inl (G.2.1 0, 204000, .inl (fun _ => 0))), (q349, .inl (G.2.1 0, 3000, .inl (fun _ => 0))), (q355, .inl (G.2.1 0, 3000, .inl (fun _ => 0))), (q361, .inl (G.2.1 0, 3000, .inl (fun _ => 0))), (q367, .inl (G.2.1 0, 3000, .inl (fun _ => 0))), (q373, .inl (G.2.1 3, 3000, .inl (fun _ => 0))), (q379, .inl (G.2.1 0, 3100, .inl (fun _ => 0))), (q387, .inl (G.2.1 0, 3000, .inl (fun _ => 0))), (q393, .inl (G.2.1 0, 100, .inl (fun _ => 0))), (q399, .inl (G.2.1 0, 100, .inl (fun _ => 0))), (q405, .inl (G.2.1 0, 100, .inl (fun _ => 0))), (q411, .inl (G.2.1 0, 100, .inl (fun _ => 0))), (q417, .inl (G.2.1 0, 3200, .inl (fun _ => 0))), (q425, .inl (G.2.1 3, 3200, .inl (fun _ => 0))), (q431, .inl (G.2.1 0, 40000, .inl (fun _ => 0))), (q437, .inl (G.2.1 3, 40000, .inl (fun _ => 0))), (q443, .inl (G.2.1 0, 2100, .inl (fun _ => 0))), (q449, .inl (G.2.1 0, 2100, .inl (fun _ => 0)))] := by rw [ew451, ew445, ew439, ew433, ew427, ew421, en419]; rfl
  obtain ⟨wa458, ew459⟩ : ∃ z : va_W, z = wa450 ++ [(q455, .inl (G.2.1 3, 2100, .inl (fun _ => 0)))] := ⟨_, rfl⟩
  have hP : va_P G.1 pCl ((h0, .inr (9, fs452)) :: wa458) H := by rw [ew459]; exact hP
  have hD : va_D A ((h0, .inr (9, fs452)) :: wa458) := by rw [ew459]; exact hD
  refine W.widen (k := 73) (n := 549444) (Nat.le_of_ble_eq_true rfl) (Nat.le_of_ble_eq_true rfl) ?_
  refine va_putF (D := G.1) (ci := 9) (v := .ref q455) (ty := (.array .boolean)) (C := RX12) (T := TX12) (N := 134) hx hb hq pin_wsX120 tyX12 tyX12_ok nmX12 hown hE.1.1 hP hD hS 0 rfl rfl 114 (by decide) (by rw [tFX12_114]; exact hq _ pw_252) (fun _ h9 => h9) (by rw [tFX12_114]) hin (by rw [tFX12_114]; rfl) (by rw [tFX12_114]; decide +kernel) rfl rfl (by rw [hn454]; decide) dX12_init_642 (fun H locs hP hD hS => ?_)
  obtain ⟨fs460, e461⟩ : ∃ z : List Value, z = fs452.set 114 (.ref q455) := ⟨_, rfl⟩
  have hn462 : fs460.length = 134 := by rw [e461, List.length_set]; exact hn454
  have hP : va_P G.1 pCl ((h0, .inr (9, fs460)) :: wa458) H := by rw [e461]; exact hP
  have hD : va_D A ((h0, .inr (9, fs460)) :: wa458) := by rw [e461]; exact hD
  refine lv_aload_n hx hb dX12_init_645 rfl (lv_at hl 0 rfl) ?_
  refine lv_iconst (v := (-1)) hx hb dX12_init_646 (by decide) ?_
  refine va_put (D := G.1) (ci := 9) (v := .int (-1)) (ty := .int) (C := RX12) (T := TX12) (N := 134) hx hb hq pin_wsX120 tyX12 tyX12_ok nmX12 hown hE.1.1 hP hD hS 0 rfl rfl 116 (by decide) (by rw [tFX12_116]; exact hq _ pw_253) (fun _ h9 => h9) (by rw [tFX12_116]) (by rw [tFX12_116]; decide +kernel) rfl rfl (by rw [hn462]; decide) dX12_init_647 (fun H locs hP hD hS => ?_)
  obtain ⟨fs463, e464⟩ : ∃ z : List Value, z = fs460.set 116 (.int (-1)) := ⟨_, rfl⟩
  have hn465 : fs463.length = 134 := by rw [e464, List.length_set]; exact hn462
  have hP : va_P G.1 pCl ((h0, .inr (9, fs463)) :: wa458) H := by rw [e464]; exact hP
  have hD : va_D A ((h0, .inr (9, fs463)) :: wa458) := by rw [e464]; exact hD
  refine lv_aload_n hx hb dX12_init_650 rfl (lv_at hl 0 rfl) ?_
  refine lv_sipush (v := 3000) hx hb dX12_init_651 (by decide) ?_
  refine pn_newa (G := G) (atype := .int) (a0 := (3000, .inl (fun _ => 0))) (N' := 3000) hx hb (hq _ pw_636) rfl hE.1.2.1 hP hD hS hA (fun _ => rfl) (by decide) (by decide) (by decide) (Nat.le_of_ble_eq_true rfl) (Nat.le_of_ble_eq_true rfl) dX12_init_654 (fun q466 H hP hD hS => ?_)
  obtain ⟨wa467, ew468⟩ : ∃ z : va_W, z = wa458 ++ [(q466, .inl (G.2.1 0, 3000, .inl (fun _ => 0)))] := ⟨_, rfl⟩
  have hP : va_P G.1 pCl ((h0, .inr (9, fs463)) :: wa467) H := by rw [ew468]; exact hP
  have hD : va_D A ((h0, .inr (9, fs463)) :: wa467) := by rw [ew468]; exact hD
  refine W.widen (k := 74) (n := 552444) (Nat.le_of_ble_eq_true rfl) (Nat.le_of_ble_eq_true rfl) ?_
  refine va_putF (D := G.1) (ci := 9) (v := .ref q466) (ty := (.array .int)) (C := RX12) (T := TX12) (N := 134) hx hb hq pin_wsX120 tyX12 tyX12_ok nmX12 hown hE.1.1 hP hD hS 0 rfl rfl 127 (by decide) (by rw [tFX12_127]; exact hq _ pw_254) (fun _ h9 => h9) (by rw [tFX12_127]) hin (by rw [tFX12_127]; rfl) (by rw [tFX12_127]; decide +kernel) rfl rfl (by rw [hn465]; decide) dX12_init_656 (fun H locs hP hD hS => ?_)
  obtain ⟨fs469, e470⟩ : ∃ z : List Value, z = fs463.set 127 (.ref q466) := ⟨_, rfl⟩
  have hn471 : fs469.length = 134 := by rw [e470, List.length_set]; exact hn465
  have hP : va_P G.1 pCl ((h0, .inr (9, fs469)) :: wa467) H := by rw [e470]; exact hP
  have hD : va_D A ((h0, .inr (9, fs469)) :: wa467) := by rw [e470]; exact hD
  refine lv_aload_n hx hb dX12_init_659 rfl (lv_at hl 0 rfl) ?_
  refine lv_sipush (v := 3000) hx hb dX12_init_660 (by decide) ?_
  refine pn_newa (G := G) (atype := .int) (a0 := (3000, .inl (fun _ => 0))) (N' := 3000) hx hb (hq _ pw_636) rfl hE.1.2.1 hP hD hS hA (fun _ => rfl) (by decide) (by decide) (by decide) (Nat.le_of_ble_eq_true rfl) (Nat.le_of_ble_eq_true rfl) dX12_init_663 (fun q472 H hP hD hS => ?_)
  obtain ⟨wa473, ew474⟩ : ∃ z : va_W, z = wa467 ++ [(q472, .inl (G.2.1 0, 3000, .inl (fun _ => 0)))] := ⟨_, rfl⟩
  have hP : va_P G.1 pCl ((h0, .inr (9, fs469)) :: wa473) H := by rw [ew474]; exact hP
  have hD : va_D A ((h0, .inr (9, fs469)) :: wa473) := by rw [ew474]; exact hD
  refine W.widen (k := 75) (n := 555444) (Nat.le_of_ble_eq_true rfl) (Nat.le_of_ble_eq_true rfl) ?_
  refine va_putF (D := G.1) (ci := 9) (v := .ref q472) (ty := (.array .int)) (C := RX12) (T := TX12) (N := 134) hx hb hq pin_wsX120 tyX12 tyX12_ok nmX12 hown hE.1.1 hP hD hS 0 rfl rfl 129 (by decide) (by rw [tFX12_129]; exact hq _ pw_255) (fun _ h9 => h9) (by rw [tFX12_129]) hin (by rw [tFX12_129]; rfl) (by rw [tFX12_129]; decide +kernel) rfl rfl (by rw [hn471]; decide) dX12_init_665 (fun H locs hP hD hS => ?_)
  obtain ⟨fs475, e476⟩ : ∃ z : List Value, z = fs469.set 129 (.ref q472) := ⟨_, rfl⟩
  have hn477 : fs475.length = 134 := by rw [e476, List.length_set]; exact hn471
  have hP : va_P G.1 pCl ((h0, .inr (9, fs475)) :: wa473) H := by rw [e476]; exact hP
  have hD : va_D A ((h0, .inr (9, fs475)) :: wa473) := by rw [e476]; exact hD
  refine lv_aload_n hx hb dX12_init_668 rfl (lv_at hl 0 rfl) ?_
  refine lv_bipush (v := 40) hx hb dX12_init_669 (by decide) ?_
  refine pn_newa (G := G) (atype := .int) (a0 := (40, .inl (fun _ => 0))) (N' := 40) hx hb (hq _ pw_636) rfl hE.1.2.1 hP hD hS hA (fun _ => rfl) (by decide) (by decide) (by decide) (Nat.le_of_ble_eq_true rfl) (Nat.le_of_ble_eq_true rfl) dX12_init_671 (fun q478 H hP hD hS => ?_)
  obtain ⟨wa479, ew480⟩ : ∃ z : va_W, z = wa473 ++ [(q478, .inl (G.2.1 0, 40, .inl (fun _ => 0)))] := ⟨_, rfl⟩
  have hP : va_P G.1 pCl ((h0, .inr (9, fs475)) :: wa479) H := by rw [ew480]; exact hP
  have hD : va_D A ((h0, .inr (9, fs475)) :: wa479) := by rw [ew480]; exact hD
  refine W.widen (k := 76) (n := 555484) (Nat.le_of_ble_eq_true rfl) (Nat.le_of_ble_eq_true rfl) ?_
  refine va_putF (D := G.1) (ci := 9) (v := .ref q478) (ty := (.array .int)) (C := RX12) (T := TX12) (N := 134) hx hb hq pin_wsX120 tyX12 tyX12_ok nmX12 hown hE.1.1 hP hD hS 0 rfl rfl 131 (by decide) (by rw [tFX12_131]; exact hq _ pw_256) (fun _ h9 => h9) (by rw [tFX12_131]) hin (by rw [tFX12_131]; rfl) (by rw [tFX12_131]; decide +kernel) rfl rfl (by rw [hn477]; decide) dX12_init_673 (fun H locs hP hD hS => ?_)
  obtain ⟨fs481, e482⟩ : ∃ z : List Value, z = fs475.set 131 (.ref q478) := ⟨_, rfl⟩
  have hn483 : fs481.length = 134 := by rw [e482, List.length_set]; exact hn477
  have hP : va_P G.1 pCl ((h0, .inr (9, fs481)) :: wa479) H := by rw [e482]; exact hP
  have hD : va_D A ((h0, .inr (9, fs481)) :: wa479) := by rw [e482]; exact hD
  refine lv_aload_n hx hb dX12_init_676 rfl (lv_at hl 0 rfl) ?_
  refine lv_bipush (v := 40) hx hb dX12_init_677 (by decide) ?_
  refine pn_newa (G := G) (atype := .int) (a0 := (40, .inl (fun _ => 0))) (N' := 40) hx hb (hq _ pw_636) rfl hE.1.2.1 hP hD hS hA (fun _ => rfl) (by decide) (by decide) (by decide) (Nat.le_of_ble_eq_true rfl) (Nat.le_of_ble_eq_true rfl) dX12_init_679 (fun q484 H hP hD hS => ?_)
  obtain ⟨wa485, ew486⟩ : ∃ z : va_W, z = wa479 ++ [(q484, .inl (G.2.1 0, 40, .inl (fun _ => 0)))] := ⟨_, rfl⟩
  have hP : va_P G.1 pCl ((h0, .inr (9, fs481)) :: wa485) H := by rw [ew486]; exact hP
  have hD : va_D A ((h0, .inr (9, fs481)) :: wa485) := by rw [ew486]; exact hD
  refine W.widen (k := 77) (n := 555524) (Nat.le_of_ble_eq_true rfl) (Nat.le_of_ble_eq_true rfl) ?_
  refine va_putF (D := G.1) (ci := 9) (v := .ref q484) (ty := (.array .int)) (C := RX12) (T := TX12) (N := 134) hx hb hq pin_wsX120 tyX12 tyX12_ok nmX12 hown hE.1.1 hP hD hS 0 rfl rfl 132 (by decide) (by rw [tFX12_132]; exact hq _ pw_257) (fun _ h9 => h9) (by rw [tFX12_132]) hin (by rw [tFX12_132]; rfl) (by rw [tFX12_132]; decide +kernel) rfl rfl (by rw [hn483]; decide) dX12_init_681 (fun H locs hP hD hS => ?_)
  obtain ⟨fs487, e488⟩ : ∃ z : List Value, z = fs481.set 132 (.ref q484) := ⟨_, rfl⟩
  have hn489 : fs487.length = 134 := by rw [e488, List.length_set]; exact hn483
  have hP : va_P G.1 pCl ((h0, .inr (9, fs487)) :: wa485) H := by rw [e488]; exact hP
  have hD : va_D A ((h0, .inr (9, fs487)) :: wa485) := by rw [e488]; exact hD
  refine lv_aload_n hx hb dX12_init_684 rfl (lv_at hl 0 rfl) ?_
  refine lv_sipush (v := 23000) hx hb dX12_init_685 (by decide) ?_
  refine pn_newa (G := G) (atype := .int) (a0 := (23000, .inl (fun _ => 0))) (N' := 23000) hx hb (hq _ pw_636) rfl hE.1.2.1 hP hD hS hA (fun _ => rfl) (by decide) (by decide) (by decide) (Nat.le_of_ble_eq_true rfl) (Nat.le_of_ble_eq_true rfl) dX12_init_688 (fun q490 H hP hD hS => ?_)
  have en491 : fs487 = [.int 0, .ref q1, .int 0, .ref q7, .int 0, .ref q13, .ref q19, .ref q25, .ref q31, .int 0, .ref q37, .ref q45, .ref q51, .int 0, .int 0, .int 0, .int 0, .ref q57, .ref q63, .ref q69, .ref q75, .ref q83, .ref q89, .ref q95, .ref q101, .ref q107, .ref q113, .int 0, .ref q121, .ref q127, .ref q133, .int 0, .ref q139, .ref q145, .int 0, .int 0, .ref q151, .ref q159, .ref q165, .ref q171, .ref q177, .ref q183, .ref q189, .ref q197, .int 0, .ref q203, .ref q209, .ref q215, .ref q221, .int 0, .ref q227, .ref q235, .ref q241, .ref q247, .ref q253, .ref q259, .ref q265, .ref q273, .ref q279, .int 0, .int 0, .ref q285, .ref q291, .ref q297, .int 0, .int 0, .int 0, .int 0, .int 0, .int 0, .int 0, .ref q303, .ref q311, .int 0, .int 0, .int 0, .int 0, .int 0, .int 0, .int 0, .int 0, .int 0, .int 0, .int 0, .ref q317, .int 0, .ref q323, .int 0, .ref q329, .ref q335, .ref q341, .ref q349, .ref q355, .ref q361, .ref q367, .ref q373, .ref q379, .int 0, .int 0, .int 0, .ref q387, .int 0, .int 0, .ref q393, .ref q399, .ref q405, .ref q411, .ref q417, .ref q425, .ref q431, .ref q437, .int 0, .ref q443, .ref q449, .ref q455, .int 0, .int (-1), .int 0, .int 0, .int 0, .int 0, .int 0, .int 0, .int 0, .int 0, .int 0, .int 0, .ref q466, .int 0, .ref q472, .int 0, .ref q478, .ref q484, .null] := by rw [e488, e482, e476, e470, e464, e461, en456]; rfl
  obtain ⟨wa492, ew493⟩ : ∃ z : va_W, z = wa485 ++ [(q490, .inl (G.2.1 0, 23000, .inl (fun _ => 0)))] := ⟨_, rfl⟩
  have hP : va_P G.1 pCl ((h0, .inr (9, fs487)) :: wa492) H := by rw [ew493]; exact hP
  have hD : va_D A ((h0, .inr (9, fs487)) :: wa492) := by rw [ew493]; exact hD
  refine W.widen (k := 78) (n := 578524) (Nat.le_of_ble_eq_true rfl) (Nat.le_of_ble_eq_true rfl) ?_
  refine va_putF (D := G.1) (ci := 9) (v := .ref q490) (ty := (.array .int)) (C := RX12) (T := TX12) (N := 134) hx hb hq pin_wsX120 tyX12 tyX12_ok nmX12 hown hE.1.1 hP hD hS 0 rfl rfl 133 (by decide) (by rw [tFX12_133]; exact hq _ pw_258) (fun _ h9 => h9) (by rw [tFX12_133]) hin (by rw [tFX12_133]; rfl) (by rw [tFX12_133]; decide +kernel) rfl rfl (by rw [hn489]; decide) dX12_init_690 (fun H locs hP hD hS => ?_)
  obtain ⟨fs494, e495⟩ : ∃ z : List Value, z = fs487.set 133 (.ref q490) := ⟨_, rfl⟩
  have hn496 : fs494.length = 134 := by rw [e495, List.length_set]; exact hn489
  have hP : va_P G.1 pCl ((h0, .inr (9, fs494)) :: wa492) H := by rw [e495]; exact hP
  have hD : va_D A ((h0, .inr (9, fs494)) :: wa492) := by rw [e495]; exact hD
  have en497 : fs494 = [.int 0, .ref q1, .int 0, .ref q7, .int 0, .ref q13, .ref q19, .ref q25, .ref q31, .int 0, .ref q37, .ref q45, .ref q51, .int 0, .int 0, .int 0, .int 0, .ref q57, .ref q63, .ref q69, .ref q75, .ref q83, .ref q89, .ref q95, .ref q101, .ref q107, .ref q113, .int 0, .ref q121, .ref q127, .ref q133, .int 0, .ref q139, .ref q145, .int 0, .int 0, .ref q151, .ref q159, .ref q165, .ref q171, .ref q177, .ref q183, .ref q189, .ref q197, .int 0, .ref q203, .ref q209, .ref q215, .ref q221, .int 0, .ref q227, .ref q235, .ref q241, .ref q247, .ref q253, .ref q259, .ref q265, .ref q273, .ref q279, .int 0, .int 0, .ref q285, .ref q291, .ref q297, .int 0, .int 0, .int 0, .int 0, .int 0, .int 0, .int 0, .ref q303, .ref q311, .int 0, .int 0, .int 0, .int 0, .int 0, .int 0, .int 0, .int 0, .int 0, .int 0, .int 0, .ref q317, .int 0, .ref q323, .int 0, .ref q329, .ref q335, .ref q341, .ref q349, .ref q355, .ref q361, .ref q367, .ref q373, .ref q379, .int 0, .int 0, .int 0, .ref q387, .int 0, .int 0, .ref q393, .ref q399, .ref q405, .ref q411, .ref q417, .ref q425, .ref q431, .ref q437, .int 0, .ref q443, .ref q449, .ref q455, .int 0, .int (-1), .int 0, .int 0, .int 0, .int 0, .int 0, .int 0, .int 0, .int 0, .int 0, .int 0, .ref q466, .int 0, .ref q472, .int 0, .ref q478, .ref q484, .ref q490] := by rw [e495, en491]; rfl
  have en498 : wa492 = [(q1, .inl (G.2.1 0, 5000, .inl (fun _ => 0))), (q7, .inl (G.2.1 0, 5000, .inl (fun _ => 0))), (q13, .inl (G.2.1 0, 5001, .inl (fun _ => 0))), (q19, .inl (G.2.1 0, 5001, .inl (fun _ => 0))), (q25, .inl (G.2.1 0, 5001, .inl (fun _ => 0))), (q31, .inl (G.2.1 0, 5001, .inl (fun _ => 0))), (q37, .inl (G.2.1 0, 5100, .inl (fun _ => 0))), (q45, .inl (G.2.1 0, 5100, .inl (fun _ => 0))), (q51, .inl (G.2.1 1, 5100, .inl (fun _ => 0))), (q57, .inl (G.2.1 0, 12000, .inl (fun _ => 0))), (q63, .inl (G.2.1 0, 12000, .inl (fun _ => 0))), (q69, .inl (G.2.1 0, 12000, .inl (fun _ => 0))), (q75, .inl (G.2.1 0, 12000, .inl (fun _ => 0))), (q83, .inl (G.2.1 0, 12000, .inl (fun _ => 0))), (q89, .inl (G.2.1 0, 12000, .inl (fun _ => 0))), (q95, .inl (G.2.1 0, 12000, .inl (fun _ => 0))), (q101, .inl (G.2.1 0, 12000, .inl (fun _ => 0))), (q107, .inl (G.2.1 0, 12000, .inl (fun _ => 0))), (q113, .inl (G.2.1 0, 12000, .inl (fun _ => 0))), (q121, .inl (G.2.1 0, 5000, .inl (fun _ => 0))), (q127, .inl (G.2.1 3, 5000, .inl (fun _ => 0))), (q133, .inl (G.2.1 0, 5000, .inl (fun _ => 0))), (q139, .inl (G.2.1 0, 5000, .inl (fun _ => 0))), (q145, .inl (G.2.1 0, 5000, .inl (fun _ => 0))), (q151, .inl (G.2.1 0, 40, .inl (fun _ => 0))), (q159, .inl (G.2.1 0, 40, .inl (fun _ => 0))), (q165, .inl (G.2.1 3, 40, .inl (fun _ => 0))), (q171, .inl (G.2.1 0, 40, .inl (fun _ => 0))), (q177, .inl (G.2.1 0, 40, .inl (fun _ => 0))), (q183, .inl (G.2.1 0, 40, .inl (fun _ => 0))), (q189, .inl (G.2.1 0, 40, .inl (fun _ => 0))), (q197, .inl (G.2.1 3, 1600, .inl (fun _ => 0))), (q203, .inl (G.2.1 0, 620, .inl (fun _ => 0))), (q209, .inl (G.2.1 0, 620, .inl (fun _ => 0))), (q215, .inl (G.2.1 0, 620, .inl (fun _ => 0))), (q221, .inl (G.2.1 0, 620, .inl (fun _ => 0))), (q227, .inl (G.2.1 0, 920, .inl (fun _ => 0))), (q235, .inl (G.2.1 0, 920, .inl (fun _ => 0))), (q241, .inl (G.2.1 0, 920, .inl (fun _ => 0))), (q247, .inl (G.2.1 0, 920, .inl (fun _ => 0))), (q253, .inl (G.2.1 0, 920, .inl (fun _ => 0))), (q259, .inl (G.2.1 0, 920, .inl (fun _ => 0))), (q265, .inl (G.2.1 0, 920, .inl (fun _ => 0))), (q273, .inl (G.2.1 0, 920, .inl (fun _ => 0))), (q279, .inl (G.2.1 0, 920, .inl (fun _ => 0))), (q285, .inl (G.2.1 0, 5000, .inl (fun _ => 0))), (q291, .inl (G.2.1 0, 5000, .inl (fun _ => 0))), (q297, .inl (G.2.1 0, 5000, .inl (fun _ => 0))), (q303, .inl (G.2.1 0, 40, .inl (fun _ => 0))), (q311, .inl (G.2.1 0, 40, .inl (fun _ => 0))), (q317, .inl (G.2.1 0, 200, .inl (fun _ => 0))), (q323, .inl (G.2.1 0, 400, .inl (fun _ => 0))), (q329, .inl (G.2.1 0, 12000, .inl (fun _ => 0))), (q335, .inl (G.2.1 0, 620, .inl (fun _ => 0))), (q341, .inl (G.2.1 0, 204000, .inl (fun _ => 0))), (q349, .inl (G.2.1 0, 3000, .inl (fun _ => 0))), (q355, .inl (G.2.1 0, 3000, .inl (fun _ => 0))), (q361, .inl (G.2.1 0, 3000, .inl (fun _ => 0))), (q367, .inl (G.2.1 0, 3000, .inl (fun _ => 0))), (q373, .inl (G.2.1 3, 3000, .inl (fun _ => 0))), (q379, .inl (G.2.1 0, 3100, .inl (fun _ => 0))), (q387, .inl (G.2.1 0, 3000, .inl (fun _ => 0))), (q393, .inl (G.2.1 0, 100, .inl (fun _ => 0))), (q399, .inl (G.2.1 0, 100, .inl (fun _ => 0))), (q405, .inl (G.2.1 0, 100, .inl (fun _ => 0))), (q411, .inl (G.2.1 0, 100, .inl (fun _ => 0))), (q417, .inl (G.2.1 0, 3200, .inl (fun _ => 0))), (q425, .inl (G.2.1 3, 3200, .inl (fun _ => 0))), (q431, .inl (G.2.1 0, 40000, .inl (fun _ => 0))), (q437, .inl (G.2.1 3, 40000, .inl (fun _ => 0))), (q443, .inl (G.2.1 0, 2100, .inl (fun _ => 0))), (q449, .inl (G.2.1 0, 2100, .inl (fun _ => 0))), (q455, .inl (G.2.1 3, 2100, .inl (fun _ => 0))), (q466, .inl (G.2.1 0, 3000, .inl (fun _ => 0))), (q472, .inl (G.2.1 0, 3000, .inl (fun _ => 0))), (q478, .inl (G.2.1 0, 40, .inl (fun _ => 0))), (q484, .inl (G.2.1 0, 40, .inl (fun _ => 0))), (q490, .inl (G.2.1 0, 23000, .inl (fun _ => 0)))] := by rw [ew493, ew486, ew480, ew474, ew468, ew459, en457]; rfl
  obtain ⟨a, ha⟩ : ∃ z : Nat → Nat, z = (fun k => match k with | 0 => q1 | 1 => q7 | 2 => q13 | 3 => q19 | 4 => q25 | 5 => q31 | 6 => q37 | 7 => q45 | 8 => q51 | 9 => q57 | 10 => q63 | 11 => q69 | 12 => q75 | 13 => q83 | 14 => q89 | 15 => q95 | 16 => q101 | 17 => q107 | 18 => q113 | 19 => q121 | 20 => q127 | 21 => q133 | 22 => q139 | 23 => q145 | 24 => q151 | 25 => q159 | 26 => q165 | 27 => q171 | 28 => q177 | 29 => q183 | 30 => q189 | 31 => q197 | 32 => q203 | 33 => q209 | 34 => q215 | 35 => q221 | 36 => q227 | 37 => q235 | 38 => q241 | 39 => q247 | 40 => q253 | 41 => q259 | 42 => q265 | 43 => q273 | 44 => q279 | 45 => q285 | 46 => q291 | 47 => q297 | 48 => q303 | 49 => q311 | 50 => q317 | 51 => q323 | 52 => q329 | 53 => q335 | 54 => q341 | 55 => q349 | 56 => q355 | 57 => q361 | 58 => q367 | 59 => q373 | 60 => q379 | 61 => q387 | 62 => q393 | 63 => q399 | 64 => q405 | 65 => q411 | 66 => q417 | 67 => q425 | 68 => q431 | 69 => q437 | 70 => q443 | 71 => q449 | 72 => q455 | 73 => q466 | 74 => q472 | 75 => q478 | 76 => q484 | _ => q490) := ⟨_, rfl⟩
  have hf : fs494 = mF a := by rw [en497, ha]; rfl
  have hw : wa492 = mArr G a := by rw [en498, ha]; rfl
  rw [hf, hw] at hP hD
  exact W.vret hx hb hr (fun t ht hW => ⟨⟨none, a, rfl, rfl, by rw [ht]; exact hP, hD⟩, hS.F ht⟩) hS.2.2 dX12_init_693
end
section
section PR
variable {p : Program} {l : Launch} {e : Env} {R : Room} {s : State} {m : MethodId} {args : Array Value} {below : List Frame} {meth : Method} {c : Code} {H : Heap} {locs : List Loc} {cells slots : Nat} {Qg : State → Prop}
variable {cc bytes : ByteArray} {pc nL maxL mc ms idx n : Nat} {ls : Array Slot} {st0 rest As : List Value} {A0 : Nat → Prop} {ws wc wr : va_W} {G : pT} {X : State → Prop} {own C : String} {y : MethodName} {ret : Option FieldType} {rm : Room} {b : Nat}
/-- invokevirtual of a receiver that is no cell of the world -/
theorem pc_VR {S : Type} {Q : Option Value → S → Prop} {w1 : S → va_W} (hx : p.tables.exec = Jvm.exec) (hb : c.code = cc) (hml : c.maxLocals = nL) (hown : s.vm.findClass own = some m.cls) (hq : ∀ w ∈ pw, w.before args s = true) (hE : pE G A0 s s.heap) (hX : X s) (hXm : pAl X)
    (hP : va_P G.1 pCl ws H) (hD : va_D A0 ws) (hS : va_S A0 s.heap H locs) (hA : ∀ q, s.heap.size ≤ q → A0 q) (hl : ls.size = nL)
    (hM : PM l G X y bytes maxL ret rm (.ref b :: As) wc Q w1) (g : GoodIn pw (wsV own idx C y (Cond.code y bytes maxL ret :: pw)))
    (hd : y.cls = C ∧ y.cls ≠ "java/lang/invoke/MethodHandle" ∧ y.cls ≠ "java/lang/invoke/VarHandle" ∧ (parseMethodDescriptor y.desc).map (fun d => d.parameters.length) = some As.length)
    (hr : ∃ cell : Cell, H[b]? = some cell ∧ cell.vm.isStatics = false ∧ s.vm.findClass C = some cell.cls)
    (isC isR : List Nat) (hC : isC.map (fun i => ws[i]?) = wc.map some) (hR : isR.map (fun i => ws[i]?) = wr.map some) (hnC : va_nd isC = true) (hn : va_nd isR = true) (hdis : ∀ i ∈ isR, i ∉ isC)
    (hst : st0 = As.reverse ++ .ref b :: rest) (hW : (rest.map fun v => v.category).sum ≤ 8) (hdg : decode cc pc = .ok (.invokevirtual idx, 3)) (hf : cells + rm.cells ≤ R.cells ∧ slots + rm.slots ≤ R.slots) (hRm : rm.frames + 1 ≤ R.frames ∧ 8 + (maxL + 11) + rm.locals ≤ R.locals)
    (kk : ∀ (v : Option Value) (u : S) (H1 : Heap) (locs1 : List Loc), Q v u → va_P G.1 pCl (wr ++ w1 u) H1 → va_D A0 (wr ++ w1 u) → va_S A0 s.heap H1 locs1 → W p l e R s m args below meth c H1 locs1 (cells + rm.cells) (slots + rm.slots) Qg (F0 m (pc + 3) ls (v.toList ++ rest))) : W p l e R s m args below meth c H locs cells slots Qg (F0 m pc ls st0) := by
  subst hst
  exact pc_go (va_runV (As := As) (rest := rest) ⟨hx, hb, hml, hown, hq⟩ (hM H.size) (cwV As.length hq g rfl rfl rfl hd hRm) ⟨pPc.blind hXm, hr, pc_pre (av := .ref b :: As) hE hX hXm hP hD hS hA hC hnC⟩ rfl rfl hl rfl (lv_room hW) hdg hf) hP hD hS hA isC isR hC hR hn hdis kk
end PR
theorem sLen_lt : ∀ i, i < 12 → sLen.getD i 0 < 2000 := by decide +kernel
end
section
theorem dX1_init_0 : decode cX1_init 0 = .ok (.aload_n 0, 1) := by decide +kernel
theorem dX1_init_1 : decode cX1_init 1 = .ok (.invokespecial 3, 3) := by decide +kernel
theorem dX1_init_4 : decode cX1_init 4 = .ok (.aload_n 0, 1) := by decide +kernel
theorem dX1_init_5 : decode cX1_init 5 = .ok (.sipush 10000, 3) := by decide +kernel
theorem dX1_init_8 : decode cX1_init 8 = .ok (.newarray .int, 2) := by decide +kernel
theorem dX1_init_10 : decode cX1_init 10 = .ok (.putfield 11, 3) := by decide +kernel
theorem dX1_init_13 : decode cX1_init 13 = .ok (.aload_n 0, 1) := by decide +kernel
theorem dX1_init_14 : decode cX1_init 14 = .ok (.sipush 10000, 3) := by decide +kernel
theorem dX1_init_17 : decode cX1_init 17 = .ok (.newarray .int, 2) := by decide +kernel
theorem dX1_init_19 : decode cX1_init 19 = .ok (.putfield 15, 3) := by decide +kernel
theorem dX1_init_22 : decode cX1_init 22 = .ok (.aload_n 0, 1) := by decide +kernel
theorem dX1_init_23 : decode cX1_init 23 = .ok (.sipush 10000, 3) := by decide +kernel
theorem dX1_init_26 : decode cX1_init 26 = .ok (.newarray .int, 2) := by decide +kernel
theorem dX1_init_28 : decode cX1_init 28 = .ok (.putfield 18, 3) := by decide +kernel
theorem dX1_init_31 : decode cX1_init 31 = .ok (.aload_n 0, 1) := by decide +kernel
theorem dX1_init_32 : decode cX1_init 32 = .ok (.sipush 10000, 3) := by decide +kernel
theorem dX1_init_35 : decode cX1_init 35 = .ok (.newarray .int, 2) := by decide +kernel
theorem dX1_init_37 : decode cX1_init 37 = .ok (.putfield 21, 3) := by decide +kernel
theorem dX1_init_40 : decode cX1_init 40 = .ok (.aload_n 0, 1) := by decide +kernel
theorem dX1_init_41 : decode cX1_init 41 = .ok (.sipush 625, 3) := by decide +kernel
theorem dX1_init_44 : decode cX1_init 44 = .ok (.newarray .int, 2) := by decide +kernel
theorem dX1_init_46 : decode cX1_init 46 = .ok (.putfield 24, 3) := by decide +kernel
theorem dX1_init_49 : decode cX1_init 49 = .ok (.aload_n 0, 1) := by decide +kernel
theorem dX1_init_50 : decode cX1_init 50 = .ok (.sipush 625, 3) := by decide +kernel
theorem dX1_init_53 : decode cX1_init 53 = .ok (.newarray .int, 2) := by decide +kernel
theorem dX1_init_55 : decode cX1_init 55 = .ok (.putfield 27, 3) := by decide +kernel
theorem dX1_init_58 : decode cX1_init 58 = .ok (.aload_n 0, 1) := by decide +kernel
theorem dX1_init_59 : decode cX1_init 59 = .ok (.sipush 625, 3) := by decide +kernel
theorem dX1_init_62 : decode cX1_init 62 = .ok (.newarray .int, 2) := by decide +kernel
theorem dX1_init_64 : decode cX1_init 64 = .ok (.putfield 30, 3) := by decide +kernel
theorem dX1_init_67 : decode cX1_init 67 = .ok (.aload_n 0, 1) := by decide +kernel
theorem dX1_init_68 : decode cX1_init 68 = .ok (.sipush 625, 3) := by decide +kernel
theorem dX1_init_71 : decode cX1_init 71 = .ok (.newarray .int, 2) := by decide +kernel
theorem dX1_init_73 : decode cX1_init 73 = .ok (.putfield 33, 3) := by decide +kernel
theorem dX1_init_76 : decode cX1_init 76 = .ok (.aload_n 0, 1) := by decide +kernel
theorem dX1_init_77 : decode cX1_init 77 = .ok (.sipush 625, 3) := by decide +kernel
theorem dX1_init_80 : decode cX1_init 80 = .ok (.newarray .int, 2) := by decide +kernel
theorem dX1_init_82 : decode cX1_init 82 = .ok (.putfield 36, 3) := by decide +kernel
theorem dX1_init_85 : decode cX1_init 85 = .ok (.return_, 1) := by decide +kernel
set_option maxHeartbeats 1000000 in
set_option maxRecDepth 100000 in
/-- Code() -/
theorem c_Code_init (l : Launch) (G : pT) (h0 : Nat) : PM l G pX0 yX1_init cX1_init 1 none ({ frames := 2, cells := 9, slots := 43125, locals := 60 }) [.ref h0] [(h0, .inr (1, [.null, .null, .null, .null, .int 0, .null, .null, .null, .null, .null, .int 0, .int 0, .int 0]))] (fun (v : Option Value) (u : (Nat → Nat) × (Nat → Nat → Int32) × (Nat → Nat → Int64)) => v = none) (fun u => [(h0, .inr (1, [.ref (u.1 0), .ref (u.1 1), .ref (u.1 2), .ref (u.1 3), .int 0, .ref (u.1 4), .ref (u.1 5), .ref (u.1 6), .ref (u.1 7), .ref (u.1 8), .int 0, .int 0, .int 0])), ((u.1 0), .inl (G.2.1 0, 10000, .inl (fun _ => 0))), ((u.1 1), .inl (G.2.1 0, 10000, .inl (fun _ => 0))), ((u.1 2), .inl (G.2.1 0, 10000, .inl (fun _ => 0))), ((u.1 3), .inl (G.2.1 0, 10000, .inl (fun _ => 0))), ((u.1 4), .inl (G.2.1 0, 625, .inl (fun _ => 0))), ((u.1 5), .inl (G.2.1 0, 625, .inl (fun _ => 0))), ((u.1 6), .inl (G.2.1 0, 625, .inl (fun _ => 0))), ((u.1 7), .inl (G.2.1 0, 625, .inl (fun _ => 0))), ((u.1 8), .inl (G.2.1 0, 625, .inl (fun _ => 0)))]) := by
  intro sz
  refine Met.ofW (cc := cX1_init) (maxL := 1) (ret := none) (by decide) rfl ?_
  intro p e s m args below meth c s₁ B hml hv
  obtain ⟨rfl, hsz, hP, hD0, hE, hX⟩ := hv
  have hx := B.exec
  have hb := B.bytes
  have hr := B.returns
  have hts := atoms_spec (ws := Cond.code yX1_init cX1_init 1 none :: pw) B.pre
  have hq : ∀ w ∈ pw, w.before _ s = true := fun w h => hts w (List.mem_cons_of_mem _ h)
  have hown : s.vm.findClass RX1 = some m.cls := findClass_of_methodNamed B.named
  have hlocks := B.notSynchronized
  have hin : meth.name = "<init>" := (name_of_methodNamed B.named B.method).1
  subst hsz
  have hD := hD0.self (sz := s.heap.size)
  have hA : ∀ q : Nat, s.heap.size ≤ q → va_A [(h0, .inr (1, [.null, .null, .null, .null, .int 0, .null, .null, .null, .null, .null, .int 0, .int 0, .int 0]))] s.heap.size q := fun q h => Or.inr h
  have hP : va_P G.1 pCl [(h0, .inr (1, [.null, .null, .null, .null, .int 0, .null, .null, .null, .null, .null, .int 0, .int 0, .int 0]))] s.heap := hP
  generalize va_A [(h0, .inr (1, [.null, .null, .null, .null, .int 0, .null, .null, .null, .null, .null, .int 0, .int 0, .int 0]))] s.heap.size = A at hD hE hA ⊢
  have hS : va_S A s.heap s.heap [] := va_S.rf
  have hl := lv_entry ([.ref h0]) (n := 1) (Nat.le_of_ble_eq_true rfl)
  rw [lg_entry_eq]
  generalize (lg_sl ([.ref h0]) ++ List.replicate (1 - (lg_sl ([.ref h0])).length) Slot.unset).toArray = ls at hl ⊢
  have hl : lv_has ls 1 [(0, .ref h0)] := hl
  refine lv_aload_n hx hb dX1_init_0 rfl (lv_at hl 0 rfl) ?_
  refine W.objInit hx hb hown (hq _ pw_78) (hq _ pw_634) (hq _ pw_635) rfl (by rw [hml]; exact hl.1) rfl dX1_init_1 (Nat.le_of_ble_eq_true rfl) (Nat.le_of_ble_eq_true rfl) ?_
  refine W.eq (g2 := F0 m 4 ls []) rfl ?_
  refine lv_aload_n hx hb dX1_init_4 rfl (lv_at hl 0 rfl) ?_
  refine lv_sipush (v := 10000) hx hb dX1_init_5 (by decide) ?_
  refine pn_newa (G := G) (atype := .int) (a0 := (10000, .inl (fun _ => 0))) (N' := 10000) hx hb (hq _ pw_636) rfl hE.1.2.1 hP hD hS hA (fun _ => rfl) (by decide) (by decide) (by decide) (Nat.le_of_ble_eq_true rfl) (Nat.le_of_ble_eq_true rfl) dX1_init_8 (fun q1 H hP hD hS => ?_)
  have hP : va_P G.1 pCl [(h0, .inr (1, [.null, .null, .null, .null, .int 0, .null, .null, .null, .null, .null, .int 0, .int 0, .int 0])), (q1, .inl (G.2.1 0, 10000, .inl (fun _ => 0)))] H := hP
  have hD : va_D A [(h0, .inr (1, [.null, .null, .null, .null, .int 0, .null, .null, .null, .null, .null, .int 0, .int 0, .int 0])), (q1, .inl (G.2.1 0, 10000, .inl (fun _ => 0)))] := hD
  refine W.widen (k := 1) (n := 10000) (Nat.le_of_ble_eq_true rfl) (Nat.le_of_ble_eq_true rfl) ?_
  refine va_putF (D := G.1) (ci := 1) (v := .ref q1) (ty := (.array .int)) (C := RX1) (T := TX1) (N := 13) hx hb hq pin_wsX10 tyX1 tyX1_ok nmX1 hown hE.1.1 hP hD hS 0 rfl rfl 0 (by decide) (hq _ pw_79) (fun _ h9 => h9) rfl hin rfl (by decide +kernel) rfl rfl (Nat.le_of_ble_eq_true rfl) dX1_init_10 (fun H locs hP hD hS => ?_)
  have hP : va_P G.1 pCl [(h0, .inr (1, [.ref q1, .null, .null, .null, .int 0, .null, .null, .null, .null, .null, .int 0, .int 0, .int 0])), (q1, .inl (G.2.1 0, 10000, .inl (fun _ => 0)))] H := hP
  have hD : va_D A [(h0, .inr (1, [.ref q1, .null, .null, .null, .int 0, .null, .null, .null, .null, .null, .int 0, .int 0, .int 0])), (q1, .inl (G.2.1 0, 10000, .inl (fun _ => 0)))] := hD
  refine lv_aload_n hx hb dX1_init_13 rfl (lv_at hl 0 rfl) ?_
  refine lv_sipush (v := 10000) hx hb dX1_init_14 (by decide) ?_
  refine pn_newa (G := G) (atype := .int) (a0 := (10000, .inl (fun _ => 0))) (N' := 10000) hx hb (hq _ pw_636) rfl hE.1.2.1 hP hD hS hA (fun _ => rfl) (by decide) (by decide) (by decide) (Nat.le_of_ble_eq_true rfl) (Nat.le_of_ble_eq_true rfl) dX1_init_17 (fun q2 H hP hD hS => ?_)
  have hP : va_P G.1 pCl [(h0, .inr (1, [.ref q1, .null, .null, .null, .int 0, .null, .null, .null, .null, .null, .int 0, .int 0, .int 0])), (q1, .inl (G.2.1 0, 10000, .inl (fun _ => 0))), (q2, .inl (G.2.1 0, 10000, .inl (fun _ => 0)))] H := hP
  have hD : va_D A [(h0, .inr (1, [.ref q1, .null, .null, .null, .int 0, .null, .null, .null, .null, .null, .int 0, .int 0, .int 0])), (q1, .inl (G.2.1 0, 10000, .inl (fun _ => 0))), (q2, .inl (G.2.1 0, 10000, .inl (fun _ => 0)))] := hD
  refine W.widen (k := 2) (n := 20000) (Nat.le_of_ble_eq_true rfl) (Nat.le_of_ble_eq_true rfl) ?_
  refine va_putF (D := G.1) (ci := 1) (v := .ref q2) (ty := (.array .int)) (C := RX1) (T := TX1) (N := 13) hx hb hq pin_wsX10 tyX1 tyX1_ok nmX1 hown hE.1.1 hP hD hS 0 rfl rfl 1 (by decide) (hq _ pw_80) (fun _ h9 => h9) rfl hin rfl (by decide +kernel) rfl rfl (Nat.le_of_ble_eq_true rfl) dX1_init_19 (fun H locs hP hD hS => ?_)
  have hP : va_P G.1 pCl [(h0, .inr (1, [.ref q1, .ref q2, .null, .null, .int 0, .null, .null, .null, .null, .null, .int 0, .int 0, .int 0])), (q1, .inl (G.2.1 0, 10000, .inl (fun _ => 0))), (q2, .inl (G.2.1 0, 10000, .inl (fun _ => 0)))] H := hP
  have hD : va_D A [(h0, .inr (1, [.ref q1, .ref q2, .null, .null, .int 0, .null, .null, .null, .null, .null, .int 0, .int 0, .int 0])), (q1, .inl (G.2.1 0, 10000, .inl (fun _ => 0))), (q2, .inl (G.2.1 0, 10000, .inl (fun _ => 0)))] := hD
  refine lv_aload_n hx hb dX1_init_22 rfl (lv_at hl 0 rfl) ?_
  refine lv_sipush (v := 10000) hx hb dX1_init_23 (by decide) ?_
  refine pn_newa (G := G) (atype := .int) (a0 := (10000, .inl (fun _ => 0))) (N' := 10000) hx hb (hq _ pw_636) rfl hE.1.2.1 hP hD hS hA (fun _ => rfl) (by decide) (by decide) (by decide) (Nat.le_of_ble_eq_true rfl) (Nat.le_of_ble_eq_true rfl) dX1_init_26 (fun q3 H hP hD hS => ?_)
  have hP : va_P G.1 pCl [(h0, .inr (1, [.ref q1, .ref q2, .null, .null, .int 0, .null, .null, .null, .null, .null, .int 0, .int 0, .int 0])), (q1, .inl (G.2.1 0, 10000, .inl (fun _ => 0))), (q2, .inl (G.2.1 0, 10000, .inl (fun _ => 0))), (q3, .inl (G.2.1 0, 10000, .inl (fun _ => 0)))] H := hP
  have hD : va_D A [(h0, .inr (1, [.ref q1, .ref q2, .null, .null, .int 0, .null, .null, .null, .null, .null, .int 0, .int 0, .int 0])), (q1, .inl (G.2.1 0, 10000, .inl (fun _ => 0))), (q2, .inl (G.2.1 0, 10000, .inl (fun _ => 0))), (q3, .inl (G.2.1 0, 10000, .inl (fun _ => 0)))] := hD
  refine W.widen (k := 3) (n := 30000) (Nat.le_of_ble_eq_true rfl) (Nat.le_of_ble_eq_true rfl) ?_
  refine va_putF (D := G.1) (ci := 1) (v := .ref q3) (ty := (.array .int)) (C := RX1) (T := TX1) (N := 13) hx hb hq pin_wsX10 tyX1 tyX1_ok nmX1 hown hE.1.1 hP hD hS 0 rfl rfl 2 (by decide) (hq _ pw_81) (fun _ h9 => h9) rfl hin rfl (by decide +kernel) rfl rfl (Nat.le_of_ble_eq_true rfl) dX1_init_28 (fun H locs hP hD hS => ?_)
  have hP : va_P G.1 pCl [(h0, .inr (1, [.ref q1, .ref q2, .ref q3, .null, .int 0, .null, .null, .null, .null, .null, .int 0, .int 0, .int 0])), (q1, .inl (G.2.1 0, 10000, .inl (fun _ => 0))), (q2, .inl (G.2.1 0, 10000, .inl (fun _ => 0))), (q3, .inl (G.2.1 0, 10000, .inl (fun _ => 0)))] H := hP
  have hD : va_D A [(h0, .inr (1, [.ref q1, .ref q2, .ref q3, .null, .int 0, .null, .null, .null, .null, .null, .int 0, .int 0, .int 0])), (q1, .inl (G.2.1 0, 10000, .inl (fun _ => 0))), (q2, .inl (G.2.1 0, 10000, .inl (fun _ => 0))), (q3, .inl (G.2.1 0, 10000, .inl (fun _ => 0)))] := hD
  refine lv_aload_n hx hb dX1_init_31 rfl (lv_at hl 0 rfl) ?_
  refine lv_sipush (v := 10000) hx hb dX1_init_32 (by decide) ?_
  refine pn_newa (G := G) (atype := .int) (a0 := (10000, .inl (fun _ => 0))) (N' := 10000) hx hb (hq _ pw_636) rfl hE.1.2.1 hP hD hS hA (fun _ => rfl) (by decide) (by decide) (by decide) (Nat.le_of_ble_eq_true rfl) (Nat.le_of_ble_eq_true rfl) dX1_init_35 (fun q4 H hP hD hS => ?_)
  have hP : va_P G.1 pCl [(h0, .inr (1, [.ref q1, .ref q2, .ref q3, .null, .int 0, .null, .null, .null, .null, .null, .int 0, .int 0, .int 0])), (q1, .inl (G.2.1 0, 10000, .inl (fun _ => 0))), (q2, .inl (G.2.1 0, 10000, .inl (fun _ => 0))), (q3, .inl (G.2.1 0, 10000, .inl (fun _ => 0))), (q4, .inl (G.2.1 0, 10000, .inl (fun _ => 0)))] H := hP
  have hD : va_D A [(h0, .inr (1, [.ref q1, .ref q2, .ref q3, .null, .int 0, .null, .null, .null, .null, .null, .int 0, .int 0, .int 0])), (q1, .inl (G.2.1 0, 10000, .inl (fun _ => 0))), (q2, .inl (G.2.1 0, 10000, .inl (fun _ => 0))), (q3, .inl (G.2.1 0, 10000, .inl (fun _ => 0))), (q4, .inl (G.2.1 0, 10000, .inl (fun _ => 0)))] := hD
  refine W.widen (k := 4) (n := 40000) (Nat.le_of_ble_eq_true rfl) (Nat.le_of_ble_eq_true rfl) ?_
  refine va_putF (D := G.1) (ci := 1) (v := .ref q4) (ty := (.array .int)) (C := RX1) (T := TX1) (N := 13) hx hb hq pin_wsX10 tyX1 tyX1_ok nmX1 hown hE.1.1 hP hD hS 0 rfl rfl 3 (by decide) (hq _ pw_82) (fun _ h9 => h9) rfl hin rfl (by decide +kernel) rfl rfl (Nat.le_of_ble_eq_true rfl) dX1_init_37 (fun H locs hP hD hS => ?_)
  have hP : va_P G.1 pCl [(h0, .inr (1, [.ref q1, .ref q2, .ref q3, .ref q4, .int 0, .null, .null, .null, .null, .null, .int 0, .int 0, .int 0])), (q1, .inl (G.2.1 0, 10000, .inl (fun _ => 0))), (q2, .inl (G.2.1 0, 10000, .inl (fun _ => 0))), (q3, .inl (G.2.1 0, 10000, .inl (fun _ => 0))), (q4, .inl (G.2.1 0, 10000, .inl (fun _ => 0)))] H := hP
  have hD : va_D A [(h0, .inr (1, [.ref q1, .ref q2, .ref q3, .ref q4, .int 0, .null, .null, .null, .null, .null, .int 0, .int 0, .int 0])), (q1, .inl (G.2.1 0, 10000, .inl (fun _ => 0))), (q2, .inl (G.2.1 0, 10000, .inl (fun _ => 0))), (q3, .inl (G.2.1 0, 10000, .inl (fun _ => 0))), (q4, .inl (G.2.1 0, 10000, .inl (fun _ => 0)))] := hD
  refine lv_aload_n hx hb dX1_init_40 rfl (lv_at hl 0 rfl) ?_
  refine lv_sipush (v := 625) hx hb dX1_init_41 (by decide) ?_
  refine pn_newa (G := G) (atype := .int) (a0 := (625, .inl (fun _ => 0))) (N' := 625) hx hb (hq _ pw_636) rfl hE.1.2.1 hP hD hS hA (fun _ => rfl) (by decide) (by decide) (by decide) (Nat.le_of_ble_eq_true rfl) (Nat.le_of_ble_eq_true rfl) dX1_init_44 (fun q5 H hP hD hS => ?_)
  have hP : va_P G.1 pCl [(h0, .inr (1, [.ref q1, .ref q2, .ref q3, .ref q4, .int 0, .null, .null, .null, .null, .null, .int 0, .int 0, .int 0])), (q1, .inl (G.2.1 0, 10000, .inl (fun _ => 0))), (q2, .inl (G.2.1 0, 10000, .inl (fun _ => 0))), (q3, .inl (G.2.1 0, 10000, .inl (fun _ => 0))), (q4, .inl (G.2.1 0, 10000, .inl (fun _ => 0))), (q5, .inl (G.2.1 0, 625, .inl (fun _ => 0)))] H := hP
  have hD : va_D A [(h0, .inr (1, [.ref q1, .ref q2, .ref q3, .ref q4, .int 0, .null, .null, .null, .null, .null, .int 0, .int 0, .int 0])), (q1, .inl (G.2.1 0, 10000, .inl (fun _ => 0))), (q2, .inl (G.2.1 0, 10000, .inl (fun _ => 0))), (q3, .inl (G.2.1 0, 10000, .inl (fun _ => 0))), (q4, .inl (G.2.1 0, 10000, .inl (fun _ => 0))), (q5, .inl (G.2.1 0, 625, .inl (fun _ => 0)))] := hD
  refine W.widen (k := 5) (n := 40625) (Nat.le_of_ble_eq_true rfl) (Nat.le_of_ble_eq_true rfl) ?_
  refine va_putF (D := G.1) (ci := 1) (v := .ref q5) (ty := (.array .int)) (C := RX1) (T := TX1) (N := 13) hx hb hq pin_wsX10 tyX1 tyX1_ok nmX1 hown hE.1.1 hP hD hS 0 rfl rfl 5 (by decide) (hq _ pw_83) (fun _ h9 => h9) rfl hin rfl (by decide +kernel) rfl rfl (Nat.le_of_ble_eq_true rfl) dX1_init_46 (fun H locs hP hD hS => ?_)
  have hP : va_P G.1 pCl [(h0, .inr (1, [.ref q1, .ref q2, .ref q3, .ref q4, .int 0, .ref q5, .null, .null, .null, .null, .int 0, .int 0, .int 0])), (q1, .inl (G.2.1 0, 10000, .inl (fun _ => 0))), (q2, .inl (G.2.1 0, 10000, .inl (fun _ => 0))), (q3, .inl (G.2.1 0, 10000, .inl (fun _ => 0))), (q4, .inl (G.2.1 0, 10000, .inl (fun _ => 0))), (q5, .inl (G.2.1 0, 625, .inl (fun _ => 0)))] H := hP
  have hD : va_D A [(h0, .inr (1, [.ref q1, .ref q2, .ref q3, .ref q4, .int 0, .ref q5, .null, .null, .null, .null, .int 0, .int 0, .int 0])), (q1, .inl (G.2.1 0, 10000, .inl (fun _ => 0))), (q2, .inl (G.2.1 0, 10000, .inl (fun _ => 0))), (q3, .inl (G.2.1 0, 10000, .inl (fun _ => 0))), (q4, .inl (G.2.1 0, 10000, .inl (fun _ => 0))), (q5, .inl (G.2.1 0, 625, .inl (fun _ => 0)))] := hD
  refine lv_aload_n hx hb dX1_init_49 rfl (lv_at hl 0 rfl) ?_
  refine lv_sipush (v := 625) hx hb dX1_init_50 (by decide) ?_
  refine pn_newa (G := G) (atype := .int) (a0 := (625, .inl (fun _ => 0))) (N' := 625) hx hb (hq _ pw_636) rfl hE.1.2.1 hP hD hS hA (fun _ => rfl) (by decide) (by decide) (by decide) (Nat.le_of_ble_eq_true rfl) (Nat.le_of_ble_eq_true rfl) dX1_init_53 (fun q6 H hP hD hS => ?_)
  have hP : va_P G.1 pCl [(h0, .inr (1, [.ref q1, .ref q2, .ref q3, .ref q4, .int 0, .ref q5, .null, .null, .null, .null, .int 0, .int 0, .int 0])), (q1, .inl (G.2.1 0, 10000, .inl (fun _ => 0))), (q2, .inl (G.2.1 0, 10000, .inl (fun _ => 0))), (q3, .inl (G.2.1 0, 10000, .inl (fun _ => 0))), (q4, .inl (G.2.1 0, 10000, .inl (fun _ => 0))), (q5, .inl (G.2.1 0, 625, .inl (fun _ => 0))), (q6, .inl (G.2.1 0, 625, .inl (fun _ => 0)))] H := hP
  have hD : va_D A [(h0, .inr (1, [.ref q1, .ref q2, .ref q3, .ref q4, .int 0, .ref q5, .null, .null, .null, .null, .int 0, .int 0, .int 0])), (q1, .inl (G.2.1 0, 10000, .inl (fun _ => 0))), (q2, .inl (G.2.1 0, 10000, .inl (fun _ => 0))), (q3, .inl (G.2.1 0, 10000, .inl (fun _ => 0))), (q4, .inl (G.2.1 0, 10000, .inl (fun _ => 0))), (q5, .inl (G.2.1 0, 625, .inl (fun _ => 0))), (q6, .inl (G.2.1 0, 625, .inl (fun _ => 0)))] := hD
  refine W.widen (k := 6) (n := 41250) (Nat.le_of_ble_eq_true rfl) (Nat.le_of_ble_eq_true rfl) ?_
  refine va_putF (D := G.1) (ci := 1) (v := .ref q6) (ty := (.array .int)) (C := RX1) (T := TX1) (N := 13) hx hb hq pin_wsX10 tyX1 tyX1_ok nmX1 hown hE.1.1 hP hD hS 0 rfl rfl 6 (by decide) (hq _ pw_84) (fun _ h9 => h9) rfl hin rfl (by decide +kernel) rfl rfl (Nat.le_of_ble_eq_true rfl) dX1_init_55 (fun H locs hP hD hS => ?_)
  have hP : va_P G.1 pCl [(h0, .inr (1, [.ref q1, .ref q2, .ref q3, .ref q4, .int 0, .ref q5, .ref q6, .null, .null, .null, .int 0, .int 0, .int 0])), (q1, .inl (G.2.1 0, 10000, .inl (fun _ => 0))), (q2, .inl (G.2.1 0, 10000, .inl (fun _ => 0))), (q3, .inl (G.2.1 0, 10000, .inl (fun _ => 0))), (q4, .inl (G.2.1 0, 10000, .inl (fun _ => 0))), (q5, .inl (G.2.1 0, 625, .inl (fun _ => 0))), (q6, .inl (G.2.1 0, 625, .inl (fun _ => 0)))] H := hP
  have hD : va_D A [(h0, .inr (1, [.ref q1, .ref q2, .ref q3, .ref q4, .int 0, .ref q5, .ref q6, .null, .null, .null, .int 0, .int 0, .int 0])), (q1, .inl (G.2.1 0, 10000, .inl (fun _ => 0))), (q2, .inl (G.2.1 0, 10000, .inl (fun _ => 0))), (q3, .inl (G.2.1 0, 10000, .inl (fun _ => 0))), (q4, .inl (G.2.1 0, 10000, .inl (fun _ => 0))), (q5, .inl (G.2.1 0, 625, .inl (fun _ => 0))), (q6, .inl (G.2.1 0, 625, .inl (fun _ => 0)))] := hD
  refine lv_aload_n hx hb dX1_init_58 rfl (lv_at hl 0 rfl) ?_
  refine lv_sipush (v := 625) hx hb dX1_init_59 (by decide) ?_
  refine pn_newa (G := G) (atype := .int) (a0 := (625, .inl (fun _ => 0))) (N' := 625) hx hb (hq _ pw_636) rfl hE.1.2.1 hP hD hS hA (fun _ => rfl) (by decide) (by decide) (by decide) (Nat.le_of_ble_eq_true rfl) (Nat.le_of_ble_eq_true rfl) dX1_init_62 (fun q7 H hP hD hS => ?_)
  have hP : va_P G.1 pCl [(h0, .inr (1, [.ref q1, .ref q2, .ref q3, .ref q4, .int 0, .ref q5, .ref q6, .null, .null, .null, .int 0, .int 0, .int 0])), (q1, .inl (G.2.1 0, 10000, .inl (fun _ => 0))), (q2, .inl (G.2.1 0, 10000, .inl (fun _ => 0))), (q3, .inl (G.2.1 0, 10000, .inl (fun _ => 0))), (q4, .inl (G.2.1 0, 10000, .inl (fun _ => 0))), (q5, .inl (G.2.1 0, 625, .inl (fun _ => 0))), (q6, .inl (G.2.1 0, 625, .inl (fun _ => 0))), (q7, .inl (G.2.1 0, 625, .inl (fun _ => 0)))] H := hP
  have hD : va_D A [(h0, .inr (1, [.ref q1, .ref q2, .ref q3, .ref q4, .int 0, .ref q5, .ref q6, .null, .null, .null, .int 0, .int 0, .int 0])), (q1, .inl (G.2.1 0, 10000, .inl (fun _ => 0))), (q2, .inl (G.2.1 0, 10000, .inl (fun _ => 0))), (q3, .inl (G.2.1 0, 10000, .inl (fun _ => 0))), (q4, .inl (G.2.1 0, 10000, .inl (fun _ => 0))), (q5, .inl (G.2.1 0, 625, .inl (fun _ => 0))), (q6, .inl (G.2.1 0, 625, .inl (fun _ => 0))), (q7, .inl (G.2.1 0, 625, .inl (fun _ => 0)))] := hD
  refine W.widen (k := 7) (n := 41875) (Nat.le_of_ble_eq_true rfl) (Nat.le_of_ble_eq_true rfl) ?_
  refine va_putF (D := G.1) (ci := 1) (v := .ref q7) (ty := (.array .int)) (C := RX1) (T := TX1) (N := 13) hx hb hq pin_wsX10 tyX1 tyX1_ok nmX1 hown hE.1.1 hP hD hS 0 rfl rfl 7 (by decide) (hq _ pw_85) (fun _ h9 => h9) rfl hin rfl (by decide +kernel) rfl rfl (Nat.le_of_ble_eq_true rfl) dX1_init_64 (fun H locs hP hD hS => ?_)
  have hP : va_P G.1 pCl [(h0, .inr (1, [.ref q1, .ref q2, .ref q3, .ref q4, .int 0, .ref q5, .ref q6, .ref q7, .null, .null, .int 0, .int 0, .int 0])), (q1, .inl (G.2.1 0, 10000, .inl (fun _ => 0))), (q2, .inl (G.2.1 0, 10000, .inl (fun _ => 0))), (q3, .inl (G.2.1 0, 10000, .inl (fun _ => 0))), (q4, .inl (G.2.1 0, 10000, .inl (fun _ => 0))), (q5, .inl (G.2.1 0, 625, .inl (fun _ => 0))), (q6, .inl (G.2.1 0, 625, .inl (fun _ => 0))), (q7, .inl (G.2.1 0, 625, .inl (fun _ => 0)))] H := hP
  have hD : va_D A [(h0, .inr (1, [.ref q1, .ref q2, .ref q3, .ref q4, .int 0, .ref q5, .ref q6, .ref q7, .null, .null, .int 0, .int 0, .int 0])), (q1, .inl (G.2.1 0, 10000, .inl (fun _ => 0))), (q2, .inl (G.2.1 0, 10000, .inl (fun _ => 0))), (q3, .inl (G.2.1 0, 10000, .inl (fun _ => 0))), (q4, .inl (G.2.1 0, 10000, .inl (fun _ => 0))), (q5, .inl (G.2.1 0, 625, .inl (fun _ => 0))), (q6, .inl (G.2.1 0, 625, .inl (fun _ => 0))), (q7, .inl (G.2.1 0, 625, .inl (fun _ => 0)))] := hD
  refine lv_aload_n hx hb dX1_init_67 rfl (lv_at hl 0 rfl) ?_
  refine lv_sipush (v := 625) hx hb dX1_init_68 (by decide) ?_
  refine pn_newa (G := G) (atype := .int) (a0 := (625, .inl (fun _ => 0))) (N' := 625) hx hb (hq _ pw_636) rfl hE.1.2.1 hP hD hS hA (fun _ => rfl) (by decide) (by decide) (by decide) (Nat.le_of_ble_eq_true rfl) (Nat.le_of_ble_eq_true rfl) dX1_init_71 (fun q8 H hP hD hS => ?_)
  have hP : va_P G.1 pCl [(h0, .inr (1, [.ref q1, .ref q2, .ref q3, .ref q4, .int 0, .ref q5, .ref q6, .ref q7, .null, .null, .int 0, .int 0, .int 0])), (q1, .inl (G.2.1 0, 10000, .inl (fun _ => 0))), (q2, .inl (G.2.1 0, 10000, .inl (fun _ => 0))), (q3, .inl (G.2.1 0, 10000, .inl (fun _ => 0))), (q4, .inl (G.2.1 0, 10000, .inl (fun _ => 0))), (q5, .inl (G.2.1 0, 625, .inl (fun _ => 0))), (q6, .inl (G.2.1 0, 625, .inl (fun _ => 0))), (q7, .inl (G.2.1 0, 625, .inl (fun _ => 0))), (q8, .inl (G.2.1 0, 625, .inl (fun _ => 0)))] H := hP
  have hD : va_D A [(h0, .inr (1, [.ref q1, .ref q2, .ref q3, .ref q4, .int 0, .ref q5, .ref q6, .ref q7, .null, .null, .int 0, .int 0, .int 0])), (q1, .inl (G.2.1 0, 10000, .inl (fun _ => 0))), (q2, .inl (G.2.1 0, 10000, .inl (fun _ => 0))), (q3, .inl (G.2.1 0, 10000, .inl (fun _ => 0))), (q4, .inl (G.2.1 0, 10000, .inl (fun _ => 0))), (q5, .inl (G.2.1 0, 625, .inl (fun _ => 0))), (q6, .inl (G.2.1 0, 625, .inl (fun _ => 0))), (q7, .inl (G.2.1 0, 625, .inl (fun _ => 0))), (q8, .inl (G.2.1 0, 625, .inl (fun _ => 0)))] := hD
  refine W.widen (k := 8) (n := 42500) (Nat.le_of_ble_eq_true rfl) (Nat.le_of_ble_eq_true rfl) ?_
  refine va_putF (D := G.1) (ci := 1) (v := .ref q8) (ty := (.array .int)) (C := RX1) (T := TX1) (N := 13) hx hb hq pin_wsX10 tyX1 tyX1_ok nmX1 hown hE.1.1 hP hD hS 0 rfl rfl 8 (by decide) (hq _ pw_86) (fun _ h9 => h9) rfl hin rfl (by decide +kernel) rfl rfl (Nat.le_of_ble_eq_true rfl) dX1_init_73 (fun H locs hP hD hS => ?_)
  have hP : va_P G.1 pCl [(h0, .inr (1, [.ref q1, .ref q2, .ref q3, .ref q4, .int 0, .ref q5, .ref q6, .ref q7, .ref q8, .null, .int 0, .int 0, .int 0])), (q1, .inl (G.2.1 0, 10000, .inl (fun _ => 0))), (q2, .inl (G.2.1 0, 10000, .inl (fun _ => 0))), (q3, .inl (G.2.1 0, 10000, .inl (fun _ => 0))), (q4, .inl (G.2.1 0, 10000, .inl (fun _ => 0))), (q5, .inl (G.2.1 0, 625, .inl (fun _ => 0))), (q6, .inl (G.2.1 0, 625, .inl (fun _ => 0))), (q7, .inl (G.2.1 0, 625, .inl (fun _ => 0))), (q8, .inl (G.2.1 0, 625, .inl (fun _ => 0)))] H := hP
  have hD : va_D A [(h0, .inr (1, [.ref q1, .ref q2, .ref q3, .ref q4, .int 0, .ref q5, .ref q6, .ref q7, .ref q8, .null, .int 0, .int 0, .int 0])), (q1, .inl (G.2.1 0, 10000, .inl (fun _ => 0))), (q2, .inl (G.2.1 0, 10000, .inl (fun _ => 0))), (q3, .inl (G.2.1 0, 10000, .inl (fun _ => 0))), (q4, .inl (G.2.1 0, 10000, .inl (fun _ => 0))), (q5, .inl (G.2.1 0, 625, .inl (fun _ => 0))), (q6, .inl (G.2.1 0, 625, .inl (fun _ => 0))), (q7, .inl (G.2.1 0, 625, .inl (fun _ => 0))), (q8, .inl (G.2.1 0, 625, .inl (fun _ => 0)))] := hD
  refine lv_aload_n hx hb dX1_init_76 rfl (lv_at hl 0 rfl) ?_
  refine lv_sipush (v := 625) hx hb dX1_init_77 (by decide) ?_
  refine pn_newa (G := G) (atype := .int) (a0 := (625, .inl (fun _ => 0))) (N' := 625) hx hb (hq _ pw_636) rfl hE.1.2.1 hP hD hS hA (fun _ => rfl) (by decide) (by decide) (by decide) (Nat.le_of_ble_eq_true rfl) (Nat.le_of_ble_eq_true rfl) dX1_init_80 (fun q9 H hP hD hS => ?_)
  have hP : va_P G.1 pCl [(h0, .inr (1, [.ref q1, .ref q2, .ref q3, .ref q4, .int 0, .ref q5, .ref q6, .ref q7, .ref q8, .null, .int 0, .int 0, .int 0])), (q1, .inl (G.2.1 0, 10000, .inl (fun _ => 0))), (q2, .inl (G.2.1 0, 10000, .inl (fun _ => 0))), (q3, .inl (G.2.1 0, 10000, .inl (fun _ => 0))), (q4, .inl (G.2.1 0, 10000, .inl (fun _ => 0))), (q5, .inl (G.2.1 0, 625, .inl (fun _ => 0))), (q6, .inl (G.2.1 0, 625, .inl (fun _ => 0))), (q7, .inl (G.2.1 0, 625, .inl (fun _ => 0))), (q8, .inl (G.2.1 0, 625, .inl (fun _ => 0))), (q9, .inl (G.2.1 0, 625, .inl (fun _ => 0)))] H := hP
  have hD : va_D A [(h0, .inr (1, [.ref q1, .ref q2, .ref q3, .ref q4, .int 0, .ref q5, .ref q6, .ref q7, .ref q8, .null, .int 0, .int 0, .int 0])), (q1, .inl (G.2.1 0, 10000, .inl (fun _ => 0))), (q2, .inl (G.2.1 0, 10000, .inl (fun _ => 0))), (q3, .inl (G.2.1 0, 10000, .inl (fun _ => 0))), (q4, .inl (G.2.1 0, 10000, .inl (fun _ => 0))), (q5, .inl (G.2.1 0, 625, .inl (fun _ => 0))), (q6, .inl (G.2.1 0, 625, .inl (fun _ => 0))), (q7, .inl (G.2.1 0, 625, .inl (fun _ => 0))), (q8, .inl (G.2.1 0, 625, .inl (fun _ => 0))), (q9, .inl (G.2.1 0, 625, .inl (fun _ => 0)))] := hD
  refine W.widen (k := 9) (n := 43125) (Nat.le_of_ble_eq_true rfl) (Nat.le_of_ble_eq_true rfl) ?_
  refine va_putF (D := G.1) (ci := 1) (v := .ref q9) (ty := (.array .int)) (C := RX1) (T := TX1) (N := 13) hx hb hq pin_wsX10 tyX1 tyX1_ok nmX1 hown hE.1.1 hP hD hS 0 rfl rfl 9 (by decide) (hq _ pw_87) (fun _ h9 => h9) rfl hin rfl (by decide +kernel) rfl rfl (Nat.le_of_ble_eq_true rfl) dX1_init_82 (fun H locs hP hD hS => ?_)
  have hP : va_P G.1 pCl [(h0, .inr (1, [.ref q1, .ref q2, .ref q3, .ref q4, .int 0, .ref q5, .ref q6, .ref q7, .ref q8, .ref q9, .int 0, .int 0, .int 0])), (q1, .inl (G.2.1 0, 10000, .inl (fun _ => 0))), (q2, .inl (G.2.1 0, 10000, .inl (fun _ => 0))), (q3, .inl (G.2.1 0, 10000, .inl (fun _ => 0))), (q4, .inl (G.2.1 0, 10000, .inl (fun _ => 0))), (q5, .inl (G.2.1 0, 625, .inl (fun _ => 0))), (q6, .inl (G.2.1 0, 625, .inl (fun _ => 0))), (q7, .inl (G.2.1 0, 625, .inl (fun _ => 0))), (q8, .inl (G.2.1 0, 625, .inl (fun _ => 0))), (q9, .inl (G.2.1 0, 625, .inl (fun _ => 0)))] H := hP
  have hD : va_D A [(h0, .inr (1, [.ref q1, .ref q2, .ref q3, .ref q4, .int 0, .ref q5, .ref q6, .ref q7, .ref q8, .ref q9, .int 0, .int 0, .int 0])), (q1, .inl (G.2.1 0, 10000, .inl (fun _ => 0))), (q2, .inl (G.2.1 0, 10000, .inl (fun _ => 0))), (q3, .inl (G.2.1 0, 10000, .inl (fun _ => 0))), (q4, .inl (G.2.1 0, 10000, .inl (fun _ => 0))), (q5, .inl (G.2.1 0, 625, .inl (fun _ => 0))), (q6, .inl (G.2.1 0, 625, .inl (fun _ => 0))), (q7, .inl (G.2.1 0, 625, .inl (fun _ => 0))), (q8, .inl (G.2.1 0, 625, .inl (fun _ => 0))), (q9, .inl (G.2.1 0, 625, .inl (fun _ => 0)))] := hD
  refine W.widen (k := 9) (n := 43125) (Nat.le_of_ble_eq_true rfl) (Nat.le_of_ble_eq_true rfl) ?_
  exact W.vret hx hb hr (fun t ht hW => ⟨⟨_, ((fun k => match k with | 0 => q1 | 1 => q2 | 2 => q3 | 3 => q4 | 4 => q5 | 5 => q6 | 6 => q7 | 7 => q8 | _ => q9), (fun _ => fun _ => 0), (fun _ => fun _ => 0)), rfl, rfl, by rw [ht]; exact hP.sub [0, 1, 2, 3, 4, 5, 6, 7, 8, 9] rfl, hD.sub [0, 1, 2, 3, 4, 5, 6, 7, 8, 9] (by decide) rfl⟩, hS.F ht⟩) hS.2.2 dX1_init_85
theorem dX8_init_0 : decode cX8_init 0 = .ok (.aload_n 0, 1) := by decide +kernel
theorem dX8_init_1 : decode cX8_init 1 = .ok (.invokespecial 1, 3) := by decide +kernel
theorem dX8_init_4 : decode cX8_init 4 = .ok (.aload_n 0, 1) := by decide +kernel
theorem dX8_init_5 : decode cX8_init 5 = .ok (.aload_n 1, 1) := by decide +kernel
theorem dX8_init_6 : decode cX8_init 6 = .ok (.putfield 7, 3) := by decide +kernel
theorem dX8_init_9 : decode cX8_init 9 = .ok (.return_, 1) := by decide +kernel
set_option maxHeartbeats 1000000 in
set_option maxRecDepth 100000 in
/-- Parser(text) -/
theorem c_Parser_init (l : Launch) (G : pT) (h0 : Nat) (h1 : Nat) : PM l G pX0 yX8_init cX8_init 2 none ({ frames := 2, cells := 0, slots := 0, locals := 60 }) [.ref h0, .ref h1] [(h0, .inr (5, [.null, .null, .int 0, .int 0, .int 0]))] (fun (v : Option Value) (u : (Nat → Nat) × (Nat → Nat → Int32) × (Nat → Nat → Int64)) => v = none) (fun u => [(h0, .inr (5, [.ref h1, .null, .int 0, .int 0, .int 0]))]) := by
  intro sz
  refine Met.ofW (cc := cX8_init) (maxL := 2) (ret := none) (by decide) rfl ?_
  intro p e s m args below meth c s₁ B hml hv
  obtain ⟨rfl, hsz, hP, hD0, hE, hX⟩ := hv
  have hx := B.exec
  have hb := B.bytes
  have hr := B.returns
  have hts := atoms_spec (ws := Cond.code yX8_init cX8_init 2 none :: pw) B.pre
  have hq : ∀ w ∈ pw, w.before _ s = true := fun w h => hts w (List.mem_cons_of_mem _ h)
  have hown : s.vm.findClass RX8 = some m.cls := findClass_of_methodNamed B.named
  have hlocks := B.notSynchronized
  have hin : meth.name = "<init>" := (name_of_methodNamed B.named B.method).1
  subst hsz
  have hD := hD0.self (sz := s.heap.size)
  have hA : ∀ q : Nat, s.heap.size ≤ q → va_A [(h0, .inr (5, [.null, .null, .int 0, .int 0, .int 0]))] s.heap.size q := fun q h => Or.inr h
  have hP : va_P G.1 pCl [(h0, .inr (5, [.null, .null, .int 0, .int 0, .int 0]))] s.heap := hP
  generalize va_A [(h0, .inr (5, [.null, .null, .int 0, .int 0, .int 0]))] s.heap.size = A at hD hE hA ⊢
  have hS : va_S A s.heap s.heap [] := va_S.rf
  have hl := lv_entry ([.ref h0, .ref h1]) (n := 2) (Nat.le_of_ble_eq_true rfl)
  rw [lg_entry_eq]
  generalize (lg_sl ([.ref h0, .ref h1]) ++ List.replicate (2 - (lg_sl ([.ref h0, .ref h1])).length) Slot.unset).toArray = ls at hl ⊢
  have hl : lv_has ls 2 [(0, .ref h0), (1, .ref h1)] := hl
  refine lv_aload_n hx hb dX8_init_0 rfl (lv_at hl 0 rfl) ?_
  refine W.objInit hx hb hown (hq _ pw_88) (hq _ pw_634) (hq _ pw_635) rfl (by rw [hml]; exact hl.1) rfl dX8_init_1 (Nat.le_of_ble_eq_true rfl) (Nat.le_of_ble_eq_true rfl) ?_
  refine W.eq (g2 := F0 m 4 ls []) rfl ?_
  refine lv_aload_n hx hb dX8_init_4 rfl (lv_at hl 0 rfl) ?_
  refine lv_aload_n hx hb dX8_init_5 rfl (lv_at hl 1 rfl) ?_
  refine va_putF (D := G.1) (ci := 5) (v := .ref h1) (ty := (.object "JinjaTongue$Text")) (C := RX8) (T := TX8) (N := 5) hx hb hq pin_wsX80 tyX8 tyX8_ok nmX8 hown hE.1.1 hP hD hS 0 rfl rfl 0 (by decide) (hq _ pw_89) (fun _ h9 => h9) rfl hin rfl (by decide +kernel) rfl rfl (Nat.le_of_ble_eq_true rfl) dX8_init_6 (fun H locs hP hD hS => ?_)
  have hP : va_P G.1 pCl [(h0, .inr (5, [.ref h1, .null, .int 0, .int 0, .int 0]))] H := hP
  have hD : va_D A [(h0, .inr (5, [.ref h1, .null, .int 0, .int 0, .int 0]))] := hD
  refine W.widen (k := 0) (n := 0) (Nat.le_of_ble_eq_true rfl) (Nat.le_of_ble_eq_true rfl) ?_
  exact W.vret hx hb hr (fun t ht hW => ⟨⟨_, ((fun _ => 0), (fun _ => fun _ => 0), (fun _ => fun _ => 0)), rfl, rfl, by rw [ht]; exact hP.sub [0] rfl, hD.sub [0] (by decide) rfl⟩, hS.F ht⟩) hS.2.2 dX8_init_9
theorem dX0_init_0 : decode cX0_init 0 = .ok (.aload_n 0, 1) := by decide +kernel
theorem dX0_init_1 : decode cX0_init 1 = .ok (.invokespecial 3, 3) := by decide +kernel
theorem dX0_init_4 : decode cX0_init 4 = .ok (.aload_n 0, 1) := by decide +kernel
theorem dX0_init_5 : decode cX0_init 5 = .ok (.aload_n 1, 1) := by decide +kernel
theorem dX0_init_6 : decode cX0_init 6 = .ok (.putfield 9, 3) := by decide +kernel
theorem dX0_init_9 : decode cX0_init 9 = .ok (.aload_n 0, 1) := by decide +kernel
theorem dX0_init_10 : decode cX0_init 10 = .ok (.aload_n 2, 1) := by decide +kernel
theorem dX0_init_11 : decode cX0_init 11 = .ok (.putfield 15, 3) := by decide +kernel
theorem dX0_init_14 : decode cX0_init 14 = .ok (.aload_n 0, 1) := by decide +kernel
theorem dX0_init_15 : decode cX0_init 15 = .ok (.bipush 30, 2) := by decide +kernel
theorem dX0_init_17 : decode cX0_init 17 = .ok (.newarray .int, 2) := by decide +kernel
theorem dX0_init_19 : decode cX0_init 19 = .ok (.putfield 19, 3) := by decide +kernel
theorem dX0_init_22 : decode cX0_init 22 = .ok (.aload_n 0, 1) := by decide +kernel
theorem dX0_init_23 : decode cX0_init 23 = .ok (.bipush 30, 2) := by decide +kernel
theorem dX0_init_25 : decode cX0_init 25 = .ok (.newarray .int, 2) := by decide +kernel
theorem dX0_init_27 : decode cX0_init 27 = .ok (.putfield 23, 3) := by decide +kernel
theorem dX0_init_30 : decode cX0_init 30 = .ok (.aload_n 0, 1) := by decide +kernel
theorem dX0_init_31 : decode cX0_init 31 = .ok (.bipush 30, 2) := by decide +kernel
theorem dX0_init_33 : decode cX0_init 33 = .ok (.newarray .int, 2) := by decide +kernel
theorem dX0_init_35 : decode cX0_init 35 = .ok (.putfield 26, 3) := by decide +kernel
theorem dX0_init_38 : decode cX0_init 38 = .ok (.return_, 1) := by decide +kernel
set_option maxHeartbeats 1000000 in
set_option maxRecDepth 100000 in
/-- Bodies(text, code) -/
theorem c_Bodies_init (l : Launch) (G : pT) (h0 : Nat) (h1 : Nat) (h2 : Nat) : PM l G pX0 yX0_init cX0_init 3 none ({ frames := 2, cells := 3, slots := 90, locals := 60 }) [.ref h0, .ref h1, .ref h2] [(h0, .inr (0, [.null, .null, .null, .null, .null, .int 0, .null, .null, .int 0, .int 0, .int 0, .null, .int 0]))] (fun (v : Option Value) (u : (Nat → Nat) × (Nat → Nat → Int32) × (Nat → Nat → Int64)) => v = none) (fun u => [(h0, .inr (0, [.ref h1, .ref h2, .ref (u.1 0), .ref (u.1 1), .ref (u.1 2), .int 0, .null, .null, .int 0, .int 0, .int 0, .null, .int 0])), ((u.1 0), .inl (G.2.1 0, 30, .inl (fun _ => 0))), ((u.1 1), .inl (G.2.1 0, 30, .inl (fun _ => 0))), ((u.1 2), .inl (G.2.1 0, 30, .inl (fun _ => 0)))]) := by
  intro sz
  refine Met.ofW (cc := cX0_init) (maxL := 3) (ret := none) (by decide) rfl ?_
  intro p e s m args below meth c s₁ B hml hv
  obtain ⟨rfl, hsz, hP, hD0, hE, hX⟩ := hv
  have hx := B.exec
  have hb := B.bytes
  have hr := B.returns
  have hts := atoms_spec (ws := Cond.code yX0_init cX0_init 3 none :: pw) B.pre
  have hq : ∀ w ∈ pw, w.before _ s = true := fun w h => hts w (List.mem_cons_of_mem _ h)
  have hown : s.vm.findClass RX0 = some m.cls := findClass_of_methodNamed B.named
  have hlocks := B.notSynchronized
  have hin : meth.name = "<init>" := (name_of_methodNamed B.named B.method).1
  subst hsz
  have hD := hD0.self (sz := s.heap.size)
  have hA : ∀ q : Nat, s.heap.size ≤ q → va_A [(h0, .inr (0, [.null, .null, .null, .null, .null, .int 0, .null, .null, .int 0, .int 0, .int 0, .null, .int 0]))] s.heap.size q := fun q h => Or.inr h
  have hP : va_P G.1 pCl [(h0, .inr (0, [.null, .null, .null, .null, .null, .int 0, .null, .null, .int 0, .int 0, .int 0, .null, .int 0]))] s.heap := hP
  generalize va_A [(h0, .inr (0, [.null, .null, .null, .null, .null, .int 0, .null, .null, .int 0, .int 0, .int 0, .null, .int 0]))] s.heap.size = A at hD hE hA ⊢
  have hS : va_S A s.heap s.heap [] := va_S.rf
  have hl := lv_entry ([.ref h0, .ref h1, .ref h2]) (n := 3) (Nat.le_of_ble_eq_true rfl)
  rw [lg_entry_eq]
  generalize (lg_sl ([.ref h0, .ref h1, .ref h2]) ++ List.replicate (3 - (lg_sl ([.ref h0, .ref h1, .ref h2])).length) Slot.unset).toArray = ls at hl ⊢
  have hl : lv_has ls 3 [(0, .ref h0), (1, .ref h1), (2, .ref h2)] := hl
  refine lv_aload_n hx hb dX0_init_0 rfl (lv_at hl 0 rfl) ?_
  refine W.objInit hx hb hown (hq _ pw_96) (hq _ pw_634) (hq _ pw_635) rfl (by rw [hml]; exact hl.1) rfl dX0_init_1 (Nat.le_of_ble_eq_true rfl) (Nat.le_of_ble_eq_true rfl) ?_
  refine W.eq (g2 := F0 m 4 ls []) rfl ?_
  refine lv_aload_n hx hb dX0_init_4 rfl (lv_at hl 0 rfl) ?_
  refine lv_aload_n hx hb dX0_init_5 rfl (lv_at hl 1 rfl) ?_
  refine va_putF (D := G.1) (ci := 0) (v := .ref h1) (ty := (.object "JinjaTongue$Text")) (C := RX0) (T := TX0) (N := 13) hx hb hq pin_wsX00 tyX0 tyX0_ok nmX0 hown hE.1.1 hP hD hS 0 rfl rfl 0 (by decide) (hq _ pw_97) (fun _ h9 => h9) rfl hin rfl (by decide +kernel) rfl rfl (Nat.le_of_ble_eq_true rfl) dX0_init_6 (fun H locs hP hD hS => ?_)
  have hP : va_P G.1 pCl [(h0, .inr (0, [.ref h1, .null, .null, .null, .null, .int 0, .null, .null, .int 0, .int 0, .int 0, .null, .int 0]))] H := hP
  have hD : va_D A [(h0, .inr (0, [.ref h1, .null, .null, .null, .null, .int 0, .null, .null, .int 0, .int 0, .int 0, .null, .int 0]))] := hD
  refine lv_aload_n hx hb dX0_init_9 rfl (lv_at hl 0 rfl) ?_
  refine lv_aload_n hx hb dX0_init_10 rfl (lv_at hl 2 rfl) ?_
  refine va_putF (D := G.1) (ci := 0) (v := .ref h2) (ty := (.object "JinjaTongue$Code")) (C := RX0) (T := TX0) (N := 13) hx hb hq pin_wsX00 tyX0 tyX0_ok nmX0 hown hE.1.1 hP hD hS 0 rfl rfl 1 (by decide) (hq _ pw_98) (fun _ h9 => h9) rfl hin rfl (by decide +kernel) rfl rfl (Nat.le_of_ble_eq_true rfl) dX0_init_11 (fun H locs hP hD hS => ?_)
  have hP : va_P G.1 pCl [(h0, .inr (0, [.ref h1, .ref h2, .null, .null, .null, .int 0, .null, .null, .int 0, .int 0, .int 0, .null, .int 0]))] H := hP
  have hD : va_D A [(h0, .inr (0, [.ref h1, .ref h2, .null, .null, .null, .int 0, .null, .null, .int 0, .int 0, .int 0, .null, .int 0]))] := hD
  refine lv_aload_n hx hb dX0_init_14 rfl (lv_at hl 0 rfl) ?_
  refine lv_bipush (v := 30) hx hb dX0_init_15 (by decide) ?_
  refine pn_newa (G := G) (atype := .int) (a0 := (30, .inl (fun _ => 0))) (N' := 30) hx hb (hq _ pw_636) rfl hE.1.2.1 hP hD hS hA (fun _ => rfl) (by decide) (by decide) (by decide) (Nat.le_of_ble_eq_true rfl) (Nat.le_of_ble_eq_true rfl) dX0_init_17 (fun q1 H hP hD hS => ?_)
  have hP : va_P G.1 pCl [(h0, .inr (0, [.ref h1, .ref h2, .null, .null, .null, .int 0, .null, .null, .int 0, .int 0, .int 0, .null, .int 0])), (q1, .inl (G.2.1 0, 30, .inl (fun _ => 0)))] H := hP
  have hD : va_D A [(h0, .inr (0, [.ref h1, .ref h2, .null, .null, .null, .int 0, .null, .null, .int 0, .int 0, .int 0, .null, .int 0])), (q1, .inl (G.2.1 0, 30, .inl (fun _ => 0)))] := hD
  refine W.widen (k := 1) (n := 30) (Nat.le_of_ble_eq_true rfl) (Nat.le_of_ble_eq_true rfl) ?_
  refine va_putF (D := G.1) (ci := 0) (v := .ref q1) (ty := (.array .int)) (C := RX0) (T := TX0) (N := 13) hx hb hq pin_wsX00 tyX0 tyX0_ok nmX0 hown hE.1.1 hP hD hS 0 rfl rfl 2 (by decide) (hq _ pw_99) (fun _ h9 => h9) rfl hin rfl (by decide +kernel) rfl rfl (Nat.le_of_ble_eq_true rfl) dX0_init_19 (fun H locs hP hD hS => ?_)
  have hP : va_P G.1 pCl [(h0, .inr (0, [.ref h1, .ref h2, .ref q1, .null, .null, .int 0, .null, .null, .int 0, .int 0, .int 0, .null, .int 0])), (q1, .inl (G.2.1 0, 30, .inl (fun _ => 0)))] H := hP
  have hD : va_D A [(h0, .inr (0, [.ref h1, .ref h2, .ref q1, .null, .null, .int 0, .null, .null, .int 0, .int 0, .int 0, .null, .int 0])), (q1, .inl (G.2.1 0, 30, .inl (fun _ => 0)))] := hD
  refine lv_aload_n hx hb dX0_init_22 rfl (lv_at hl 0 rfl) ?_
  refine lv_bipush (v := 30) hx hb dX0_init_23 (by decide) ?_
  refine pn_newa (G := G) (atype := .int) (a0 := (30, .inl (fun _ => 0))) (N' := 30) hx hb (hq _ pw_636) rfl hE.1.2.1 hP hD hS hA (fun _ => rfl) (by decide) (by decide) (by decide) (Nat.le_of_ble_eq_true rfl) (Nat.le_of_ble_eq_true rfl) dX0_init_25 (fun q2 H hP hD hS => ?_)
  have hP : va_P G.1 pCl [(h0, .inr (0, [.ref h1, .ref h2, .ref q1, .null, .null, .int 0, .null, .null, .int 0, .int 0, .int 0, .null, .int 0])), (q1, .inl (G.2.1 0, 30, .inl (fun _ => 0))), (q2, .inl (G.2.1 0, 30, .inl (fun _ => 0)))] H := hP
  have hD : va_D A [(h0, .inr (0, [.ref h1, .ref h2, .ref q1, .null, .null, .int 0, .null, .null, .int 0, .int 0, .int 0, .null, .int 0])), (q1, .inl (G.2.1 0, 30, .inl (fun _ => 0))), (q2, .inl (G.2.1 0, 30, .inl (fun _ => 0)))] := hD
  refine W.widen (k := 2) (n := 60) (Nat.le_of_ble_eq_true rfl) (Nat.le_of_ble_eq_true rfl) ?_
  refine va_putF (D := G.1) (ci := 0) (v := .ref q2) (ty := (.array .int)) (C := RX0) (T := TX0) (N := 13) hx hb hq pin_wsX00 tyX0 tyX0_ok nmX0 hown hE.1.1 hP hD hS 0 rfl rfl 3 (by decide) (hq _ pw_100) (fun _ h9 => h9) rfl hin rfl (by decide +kernel) rfl rfl (Nat.le_of_ble_eq_true rfl) dX0_init_27 (fun H locs hP hD hS => ?_)
  have hP : va_P G.1 pCl [(h0, .inr (0, [.ref h1, .ref h2, .ref q1, .ref q2, .null, .int 0, .null, .null, .int 0, .int 0, .int 0, .null, .int 0])), (q1, .inl (G.2.1 0, 30, .inl (fun _ => 0))), (q2, .inl (G.2.1 0, 30, .inl (fun _ => 0)))] H := hP
  have hD : va_D A [(h0, .inr (0, [.ref h1, .ref h2, .ref q1, .ref q2, .null, .int 0, .null, .null, .int 0, .int 0, .int 0, .null, .int 0])), (q1, .inl (G.2.1 0, 30, .inl (fun _ => 0))), (q2, .inl (G.2.1 0, 30, .inl (fun _ => 0)))] := hD
  refine lv_aload_n hx hb dX0_init_30 rfl (lv_at hl 0 rfl) ?_
  refine lv_bipush (v := 30) hx hb dX0_init_31 (by decide) ?_
  refine pn_newa (G := G) (atype := .int) (a0 := (30, .inl (fun _ => 0))) (N' := 30) hx hb (hq _ pw_636) rfl hE.1.2.1 hP hD hS hA (fun _ => rfl) (by decide) (by decide) (by decide) (Nat.le_of_ble_eq_true rfl) (Nat.le_of_ble_eq_true rfl) dX0_init_33 (fun q3 H hP hD hS => ?_)
  have hP : va_P G.1 pCl [(h0, .inr (0, [.ref h1, .ref h2, .ref q1, .ref q2, .null, .int 0, .null, .null, .int 0, .int 0, .int 0, .null, .int 0])), (q1, .inl (G.2.1 0, 30, .inl (fun _ => 0))), (q2, .inl (G.2.1 0, 30, .inl (fun _ => 0))), (q3, .inl (G.2.1 0, 30, .inl (fun _ => 0)))] H := hP
  have hD : va_D A [(h0, .inr (0, [.ref h1, .ref h2, .ref q1, .ref q2, .null, .int 0, .null, .null, .int 0, .int 0, .int 0, .null, .int 0])), (q1, .inl (G.2.1 0, 30, .inl (fun _ => 0))), (q2, .inl (G.2.1 0, 30, .inl (fun _ => 0))), (q3, .inl (G.2.1 0, 30, .inl (fun _ => 0)))] := hD
  refine W.widen (k := 3) (n := 90) (Nat.le_of_ble_eq_true rfl) (Nat.le_of_ble_eq_true rfl) ?_
  refine va_putF (D := G.1) (ci := 0) (v := .ref q3) (ty := (.array .int)) (C := RX0) (T := TX0) (N := 13) hx hb hq pin_wsX00 tyX0 tyX0_ok nmX0 hown hE.1.1 hP hD hS 0 rfl rfl 4 (by decide) (hq _ pw_101) (fun _ h9 => h9) rfl hin rfl (by decide +kernel) rfl rfl (Nat.le_of_ble_eq_true rfl) dX0_init_35 (fun H locs hP hD hS => ?_)
  have hP : va_P G.1 pCl [(h0, .inr (0, [.ref h1, .ref h2, .ref q1, .ref q2, .ref q3, .int 0, .null, .null, .int 0, .int 0, .int 0, .null, .int 0])), (q1, .inl (G.2.1 0, 30, .inl (fun _ => 0))), (q2, .inl (G.2.1 0, 30, .inl (fun _ => 0))), (q3, .inl (G.2.1 0, 30, .inl (fun _ => 0)))] H := hP
  have hD : va_D A [(h0, .inr (0, [.ref h1, .ref h2, .ref q1, .ref q2, .ref q3, .int 0, .null, .null, .int 0, .int 0, .int 0, .null, .int 0])), (q1, .inl (G.2.1 0, 30, .inl (fun _ => 0))), (q2, .inl (G.2.1 0, 30, .inl (fun _ => 0))), (q3, .inl (G.2.1 0, 30, .inl (fun _ => 0)))] := hD
  refine W.widen (k := 3) (n := 90) (Nat.le_of_ble_eq_true rfl) (Nat.le_of_ble_eq_true rfl) ?_
  exact W.vret hx hb hr (fun t ht hW => ⟨⟨_, ((fun k => match k with | 0 => q1 | 1 => q2 | _ => q3), (fun _ => fun _ => 0), (fun _ => fun _ => 0)), rfl, rfl, by rw [ht]; exact hP.sub [0, 1, 2, 3] rfl, hD.sub [0, 1, 2, 3] (by decide) rfl⟩, hS.F ht⟩) hS.2.2 dX0_init_38
theorem dX3_init_0 : decode cX3_init 0 = .ok (.aload_n 0, 1) := by decide +kernel
theorem dX3_init_1 : decode cX3_init 1 = .ok (.invokespecial 7, 3) := by decide +kernel
theorem dX3_init_4 : decode cX3_init 4 = .ok (.aload_n 0, 1) := by decide +kernel
theorem dX3_init_5 : decode cX3_init 5 = .ok (.sipush 3008, 3) := by decide +kernel
theorem dX3_init_8 : decode cX3_init 8 = .ok (.newarray .long, 2) := by decide +kernel
theorem dX3_init_10 : decode cX3_init 10 = .ok (.putfield 13, 3) := by decide +kernel
theorem dX3_init_13 : decode cX3_init 13 = .ok (.aload_n 0, 1) := by decide +kernel
theorem dX3_init_14 : decode cX3_init 14 = .ok (.sipush 3008, 3) := by decide +kernel
theorem dX3_init_17 : decode cX3_init 17 = .ok (.newarray .long, 2) := by decide +kernel
theorem dX3_init_19 : decode cX3_init 19 = .ok (.putfield 17, 3) := by decide +kernel
theorem dX3_init_22 : decode cX3_init 22 = .ok (.iconst 0, 1) := by decide +kernel
theorem dX3_init_23 : decode cX3_init 23 = .ok (.istore_n 1, 1) := by decide +kernel
theorem dX3_init_24 : decode cX3_init 24 = .ok (.iload_n 1, 1) := by decide +kernel
theorem dX3_init_25 : decode cX3_init 25 = .ok (.bipush 7, 2) := by decide +kernel
theorem dX3_init_27 : decode cX3_init 27 = .ok (.if_icmp .ge 33, 3) := by decide +kernel
theorem dX3_init_30 : decode cX3_init 30 = .ok (.aload_n 0, 1) := by decide +kernel
theorem dX3_init_31 : decode cX3_init 31 = .ok (.getfield 13, 3) := by decide +kernel
theorem dX3_init_34 : decode cX3_init 34 = .ok (.iload_n 1, 1) := by decide +kernel
theorem dX3_init_35 : decode cX3_init 35 = .ok (.sipush 256, 3) := by decide +kernel
theorem dX3_init_38 : decode cX3_init 38 = .ok (.iload_n 1, 1) := by decide +kernel
theorem dX3_init_39 : decode cX3_init 39 = .ok (.ior, 1) := by decide +kernel
theorem dX3_init_40 : decode cX3_init 40 = .ok (.i2l, 1) := by decide +kernel
theorem dX3_init_41 : decode cX3_init 41 = .ok (.lastore, 1) := by decide +kernel
theorem dX3_init_42 : decode cX3_init 42 = .ok (.aload_n 0, 1) := by decide +kernel
theorem dX3_init_43 : decode cX3_init 43 = .ok (.getfield 17, 3) := by decide +kernel
theorem dX3_init_46 : decode cX3_init 46 = .ok (.iload_n 1, 1) := by decide +kernel
theorem dX3_init_47 : decode cX3_init 47 = .ok (.aload_n 0, 1) := by decide +kernel
theorem dX3_init_48 : decode cX3_init 48 = .ok (.getfield 13, 3) := by decide +kernel
theorem dX3_init_51 : decode cX3_init 51 = .ok (.iload_n 1, 1) := by decide +kernel
theorem dX3_init_52 : decode cX3_init 52 = .ok (.laload, 1) := by decide +kernel
theorem dX3_init_53 : decode cX3_init 53 = .ok (.lastore, 1) := by decide +kernel
theorem dX3_init_54 : decode cX3_init 54 = .ok (.iinc 1 1, 3) := by decide +kernel
theorem dX3_init_57 : decode cX3_init 57 = .ok (.goto (-33), 3) := by decide +kernel
theorem dX3_init_60 : decode cX3_init 60 = .ok (.aload_n 0, 1) := by decide +kernel
theorem dX3_init_61 : decode cX3_init 61 = .ok (.bipush 8, 2) := by decide +kernel
theorem dX3_init_63 : decode cX3_init 63 = .ok (.putfield 20, 3) := by decide +kernel
theorem dX3_init_66 : decode cX3_init 66 = .ok (.return_, 1) := by decide +kernel
set_option maxHeartbeats 1000000 in
set_option maxRecDepth 100000 in
/-- Heap() -/
theorem c_Heap_init (l : Launch) (G : pT) (h0 : Nat) : PM l G pX0 yX3_init cX3_init 2 none ({ frames := 2, cells := 2, slots := 6016, locals := 60 }) [.ref h0] [(h0, .inr (3, [.null, .null, .int 0, .int 0, .int 0]))] (fun (v : Option Value) (u : (Nat → Nat) × (Nat → Nat → Int32) × (Nat → Nat → Int64)) => v = none) (fun u => [(h0, .inr (3, [.ref (u.1 0), .ref (u.1 1), .int 8, .int 0, .int 0])), ((u.1 0), .inl (G.2.1 2, 3008, .inr (.inl (u.2.2 0)))), ((u.1 1), .inl (G.2.1 2, 3008, .inr (.inl (u.2.2 1))))]) := by
  intro sz
  refine Met.ofW (cc := cX3_init) (maxL := 2) (ret := none) (by decide) rfl ?_
  intro p e s m args below meth c s₁ B hml hv
  obtain ⟨rfl, hsz, hP, hD0, hE, hX⟩ := hv
  have hx := B.exec
  have hb := B.bytes
  have hr := B.returns
  have hts := atoms_spec (ws := Cond.code yX3_init cX3_init 2 none :: pw) B.pre
  have hq : ∀ w ∈ pw, w.before _ s = true := fun w h => hts w (List.mem_cons_of_mem _ h)
  have hown : s.vm.findClass RX3 = some m.cls := findClass_of_methodNamed B.named
  have hlocks := B.notSynchronized
  have hin : meth.name = "<init>" := (name_of_methodNamed B.named B.method).1
  subst hsz
  have hD := hD0.self (sz := s.heap.size)
  have hA : ∀ q : Nat, s.heap.size ≤ q → va_A [(h0, .inr (3, [.null, .null, .int 0, .int 0, .int 0]))] s.heap.size q := fun q h => Or.inr h
  have hP : va_P G.1 pCl [(h0, .inr (3, [.null, .null, .int 0, .int 0, .int 0]))] s.heap := hP
  generalize va_A [(h0, .inr (3, [.null, .null, .int 0, .int 0, .int 0]))] s.heap.size = A at hD hE hA ⊢
  have hS : va_S A s.heap s.heap [] := va_S.rf
  have hl := lv_entry ([.ref h0]) (n := 2) (Nat.le_of_ble_eq_true rfl)
  rw [lg_entry_eq]
  generalize (lg_sl ([.ref h0]) ++ List.replicate (2 - (lg_sl ([.ref h0])).length) Slot.unset).toArray = ls at hl ⊢
  have hl : lv_has ls 2 [(0, .ref h0)] := hl
  refine lv_aload_n hx hb dX3_init_0 rfl (lv_at hl 0 rfl) ?_
  refine W.objInit hx hb hown (hq _ pw_102) (hq _ pw_634) (hq _ pw_635) rfl (by rw [hml]; exact hl.1) rfl dX3_init_1 (Nat.le_of_ble_eq_true rfl) (Nat.le_of_ble_eq_true rfl) ?_
  refine W.eq (g2 := F0 m 4 ls []) rfl ?_
  refine lv_aload_n hx hb dX3_init_4 rfl (lv_at hl 0 rfl) ?_
  refine lv_sipush (v := 3008) hx hb dX3_init_5 (by decide) ?_
  refine pn_newa (G := G) (atype := .long) (a0 := (3008, .inr (.inl (fun _ => 0)))) (N' := 3008) hx hb (hq _ pw_645) rfl hE.1.2.2.2.1 hP hD hS hA (fun _ => rfl) (by decide) (by decide) (by decide) (Nat.le_of_ble_eq_true rfl) (Nat.le_of_ble_eq_true rfl) dX3_init_8 (fun q1 H hP hD hS => ?_)
  have hP : va_P G.1 pCl [(h0, .inr (3, [.null, .null, .int 0, .int 0, .int 0])), (q1, .inl (G.2.1 2, 3008, .inr (.inl (fun _ => 0))))] H := hP
  have hD : va_D A [(h0, .inr (3, [.null, .null, .int 0, .int 0, .int 0])), (q1, .inl (G.2.1 2, 3008, .inr (.inl (fun _ => 0))))] := hD
  refine W.widen (k := 1) (n := 3008) (Nat.le_of_ble_eq_true rfl) (Nat.le_of_ble_eq_true rfl) ?_
  refine va_put (D := G.1) (ci := 3) (v := .ref q1) (ty := (.array .long)) (C := RX3) (T := TX3) (N := 5) hx hb hq pin_wsX30 tyX3 tyX3_ok nmX3 hown hE.1.1 hP hD hS 0 rfl rfl 0 (by decide) (hq _ pw_103) (fun _ h9 => h9) rfl (by decide +kernel) rfl rfl (Nat.le_of_ble_eq_true rfl) dX3_init_10 (fun H locs hP hD hS => ?_)
  have hP : va_P G.1 pCl [(h0, .inr (3, [.ref q1, .null, .int 0, .int 0, .int 0])), (q1, .inl (G.2.1 2, 3008, .inr (.inl (fun _ => 0))))] H := hP
  have hD : va_D A [(h0, .inr (3, [.ref q1, .null, .int 0, .int 0, .int 0])), (q1, .inl (G.2.1 2, 3008, .inr (.inl (fun _ => 0))))] := hD
  refine lv_aload_n hx hb dX3_init_13 rfl (lv_at hl 0 rfl) ?_
  refine lv_sipush (v := 3008) hx hb dX3_init_14 (by decide) ?_
  refine pn_newa (G := G) (atype := .long) (a0 := (3008, .inr (.inl (fun _ => 0)))) (N' := 3008) hx hb (hq _ pw_645) rfl hE.1.2.2.2.1 hP hD hS hA (fun _ => rfl) (by decide) (by decide) (by decide) (Nat.le_of_ble_eq_true rfl) (Nat.le_of_ble_eq_true rfl) dX3_init_17 (fun q2 H hP hD hS => ?_)
  have hP : va_P G.1 pCl [(h0, .inr (3, [.ref q1, .null, .int 0, .int 0, .int 0])), (q1, .inl (G.2.1 2, 3008, .inr (.inl (fun _ => 0)))), (q2, .inl (G.2.1 2, 3008, .inr (.inl (fun _ => 0))))] H := hP
  have hD : va_D A [(h0, .inr (3, [.ref q1, .null, .int 0, .int 0, .int 0])), (q1, .inl (G.2.1 2, 3008, .inr (.inl (fun _ => 0)))), (q2, .inl (G.2.1 2, 3008, .inr (.inl (fun _ => 0))))] := hD
  refine W.widen (k := 2) (n := 6016) (Nat.le_of_ble_eq_true rfl) (Nat.le_of_ble_eq_true rfl) ?_
  refine va_put (D := G.1) (ci := 3) (v := .ref q2) (ty := (.array .long)) (C := RX3) (T := TX3) (N := 5) hx hb hq pin_wsX30 tyX3 tyX3_ok nmX3 hown hE.1.1 hP hD hS 0 rfl rfl 1 (by decide) (hq _ pw_104) (fun _ h9 => h9) rfl (by decide +kernel) rfl rfl (Nat.le_of_ble_eq_true rfl) dX3_init_19 (fun H locs hP hD hS => ?_)
  have hP : va_P G.1 pCl [(h0, .inr (3, [.ref q1, .ref q2, .int 0, .int 0, .int 0])), (q1, .inl (G.2.1 2, 3008, .inr (.inl (fun _ => 0)))), (q2, .inl (G.2.1 2, 3008, .inr (.inl (fun _ => 0))))] H := hP
  have hD : va_D A [(h0, .inr (3, [.ref q1, .ref q2, .int 0, .int 0, .int 0])), (q1, .inl (G.2.1 2, 3008, .inr (.inl (fun _ => 0)))), (q2, .inl (G.2.1 2, 3008, .inr (.inl (fun _ => 0))))] := hD
  refine lv_iconst (v := 0) hx hb dX3_init_22 (by decide) ?_
  refine lv_istore_n (lv' := [(1, .int 0), (0, .ref h0)]) hx hb dX3_init_23 rfl hl (by decide) rfl (fun ls hl => ?_)
  refine lv_iload_n hx hb dX3_init_24 rfl (lv_at hl 0 rfl) ?_
  refine lv_bipush (v := 7) hx hb dX3_init_25 (by decide) ?_
  refine lv_icmp_ge (tgt := 60) hx hb dX3_init_27 (by decide) (fun c3 => absurd c3 (by decide)) (fun c3 => ?_)
  refine lv_aload_n hx hb dX3_init_30 rfl (lv_at hl 1 rfl) ?_
  refine va_get (D := G.1) (ci := 3) (v := .ref q1) (C := RX3) (T := TX3) (N := 5) hx hb hq pin_wsX30 hown hE.1.1 hP 0 rfl rfl 0 (by decide) (hq _ pw_103) (fun _ h9 => h9) rfl dX3_init_31 ?_
  refine lv_iload_n hx hb dX3_init_34 rfl (lv_at hl 0 rfl) ?_
  refine lv_sipush (v := 256) hx hb dX3_init_35 (by decide) ?_
  refine lv_iload_n hx hb dX3_init_38 rfl (lv_at hl 0 rfl) ?_
  refine lv_ior hx hb dX3_init_39 ?_
  refine lv_topi (fun x4 e5 => ?_)
  obtain rfl : x4 = 256 := e5.trans (by decide)
  refine lv_i2l (v := 256) hx hb dX3_init_40 (by decide) ?_
  refine va_last hx hb hE.1.1 hP hD hS 1 2 rfl rfl (by unfold vp_in; decide) dX3_init_41 (fun H locs hP hD hS => ?_)
  have hP : va_P G.1 pCl [(h0, .inr (3, [.ref q1, .ref q2, .int 0, .int 0, .int 0])), (q1, .inl (G.2.1 2, 3008, .inr (.inl (vp_updL (fun _ => 0) (Int32.toNatClampNeg 0) 256)))), (q2, .inl (G.2.1 2, 3008, .inr (.inl (fun _ => 0))))] H := hP
  have hD : va_D A [(h0, .inr (3, [.ref q1, .ref q2, .int 0, .int 0, .int 0])), (q1, .inl (G.2.1 2, 3008, .inr (.inl (vp_updL (fun _ => 0) (Int32.toNatClampNeg 0) 256)))), (q2, .inl (G.2.1 2, 3008, .inr (.inl (fun _ => 0))))] := hD
  generalize (vp_updL (fun _ => 0) (Int32.toNatClampNeg 0) 256) = g6 at hP hD
  refine lv_aload_n hx hb dX3_init_42 rfl (lv_at hl 1 rfl) ?_
  refine va_get (D := G.1) (ci := 3) (v := .ref q2) (C := RX3) (T := TX3) (N := 5) hx hb hq pin_wsX30 hown hE.1.1 hP 0 rfl rfl 1 (by decide) (hq _ pw_104) (fun _ h9 => h9) rfl dX3_init_43 ?_
  refine lv_iload_n hx hb dX3_init_46 rfl (lv_at hl 0 rfl) ?_
  refine lv_aload_n hx hb dX3_init_47 rfl (lv_at hl 1 rfl) ?_
  refine va_get (D := G.1) (ci := 3) (v := .ref q1) (C := RX3) (T := TX3) (N := 5) hx hb hq pin_wsX30 hown hE.1.1 hP 0 rfl rfl 0 (by decide) (hq _ pw_103) (fun _ h9 => h9) rfl dX3_init_48 ?_
  refine lv_iload_n hx hb dX3_init_51 rfl (lv_at hl 0 rfl) ?_
  refine va_lald hx hb hE.1.1 hP 1 2 rfl rfl (by unfold vp_in; decide) dX3_init_52 ?_
  refine lv_topl (fun x7 e8 => ?_)
  refine va_last hx hb hE.1.1 hP hD hS 2 2 rfl rfl (by unfold vp_in; decide) dX3_init_53 (fun H locs hP hD hS => ?_)
  have hP : va_P G.1 pCl [(h0, .inr (3, [.ref q1, .ref q2, .int 0, .int 0, .int 0])), (q1, .inl (G.2.1 2, 3008, .inr (.inl g6))), (q2, .inl (G.2.1 2, 3008, .inr (.inl (vp_updL (fun _ => 0) (Int32.toNatClampNeg 0) x7))))] H := hP
  have hD : va_D A [(h0, .inr (3, [.ref q1, .ref q2, .int 0, .int 0, .int 0])), (q1, .inl (G.2.1 2, 3008, .inr (.inl g6))), (q2, .inl (G.2.1 2, 3008, .inr (.inl (vp_updL (fun _ => 0) (Int32.toNatClampNeg 0) x7))))] := hD
  generalize (vp_updL (fun _ => 0) (Int32.toNatClampNeg 0) x7) = g9 at hP hD
  refine lv_iinc (v := 1) (lv' := [(1, .int 1), (0, .ref h0)]) hx hb dX3_init_54 hl (k := 0) rfl (by decide) (by decide) rfl (fun ls hl => ?_)
  refine lv_goto (tgt := 24) hx hb dX3_init_57 (by decide) ?_
  refine lv_iload_n hx hb dX3_init_24 rfl (lv_at hl 0 rfl) ?_
  refine lv_bipush (v := 7) hx hb dX3_init_25 (by decide) ?_
  refine lv_icmp_ge (tgt := 60) hx hb dX3_init_27 (by decide) (fun c10 => absurd c10 (by decide)) (fun c10 => ?_)
  refine lv_aload_n hx hb dX3_init_30 rfl (lv_at hl 1 rfl) ?_
  refine va_get (D := G.1) (ci := 3) (v := .ref q1) (C := RX3) (T := TX3) (N := 5) hx hb hq pin_wsX30 hown hE.1.1 hP 0 rfl rfl 0 (by decide) (hq _ pw_103) (fun _ h9 => h9) rfl dX3_init_31 ?_
  refine lv_iload_n hx hb dX3_init_34 rfl (lv_at hl 0 rfl) ?_
  refine lv_sipush (v := 256) hx hb dX3_init_35 (by decide) ?_
  refine lv_iload_n hx hb dX3_init_38 rfl (lv_at hl 0 rfl) ?_
  refine lv_ior hx hb dX3_init_39 ?_
  refine lv_topi (fun x11 e12 => ?_)
  obtain rfl : x11 = 257 := e12.trans (by decide)
  refine lv_i2l (v := 257) hx hb dX3_init_40 (by decide) ?_
  refine va_last hx hb hE.1.1 hP hD hS 1 2 rfl rfl (by unfold vp_in; decide) dX3_init_41 (fun H locs hP hD hS => ?_)
  have hP : va_P G.1 pCl [(h0, .inr (3, [.ref q1, .ref q2, .int 0, .int 0, .int 0])), (q1, .inl (G.2.1 2, 3008, .inr (.inl (vp_updL g6 (Int32.toNatClampNeg 1) 257)))), (q2, .inl (G.2.1 2, 3008, .inr (.inl g9)))] H := hP
  have hD : va_D A [(h0, .inr (3, [.ref q1, .ref q2, .int 0, .int 0, .int 0])), (q1, .inl (G.2.1 2, 3008, .inr (.inl (vp_updL g6 (Int32.toNatClampNeg 1) 257)))), (q2, .inl (G.2.1 2, 3008, .inr (.inl g9)))] := hD
  generalize (vp_updL g6 (Int32.toNatClampNeg 1) 257) = g13 at hP hD
  refine lv_aload_n hx hb dX3_init_42 rfl (lv_at hl 1 rfl) ?_
  refine va_get (D := G.1) (ci := 3) (v := .ref q2) (C := RX3) (T := TX3) (N := 5) hx hb hq pin_wsX30 hown hE.1.1 hP 0 rfl rfl 1 (by decide) (hq _ pw_104) (fun _ h9 => h9) rfl dX3_init_43 ?_
  refine lv_iload_n hx hb dX3_init_46 rfl (lv_at hl 0 rfl) ?_
  refine lv_aload_n hx hb dX3_init_47 rfl (lv_at hl 1 rfl) ?_
  refine va_get (D := G.1) (ci := 3) (v := .ref q1) (C := RX3) (T := TX3) (N := 5) hx hb hq pin_wsX30 hown hE.1.1 hP 0 rfl rfl 0 (by decide) (hq _ pw_103) (fun _ h9 => h9) rfl dX3_init_48 ?_
  refine lv_iload_n hx hb dX3_init_51 rfl (lv_at hl 0 rfl) ?_
  refine va_lald hx hb hE.1.1 hP 1 2 rfl rfl (by unfold vp_in; decide) dX3_init_52 ?_
  refine lv_topl (fun x14 e15 => ?_)
  refine va_last hx hb hE.1.1 hP hD hS 2 2 rfl rfl (by unfold vp_in; decide) dX3_init_53 (fun H locs hP hD hS => ?_)
  have hP : va_P G.1 pCl [(h0, .inr (3, [.ref q1, .ref q2, .int 0, .int 0, .int 0])), (q1, .inl (G.2.1 2, 3008, .inr (.inl g13))), (q2, .inl (G.2.1 2, 3008, .inr (.inl (vp_updL g9 (Int32.toNatClampNeg 1) x14))))] H := hP
  have hD : va_D A [(h0, .inr (3, [.ref q1, .ref q2, .int 0, .int 0, .int 0])), (q1, .inl (G.2.1 2, 3008, .inr (.inl g13))), (q2, .inl (G.2.1 2, 3008, .inr (.inl (vp_updL g9 (Int32.toNatClampNeg 1) x14))))] := hD
  generalize (vp_updL g9 (Int32.toNatClampNeg 1) x14) = g16 at hP hD
  refine lv_iinc (v := 2) (lv' := [(1, .int 2), (0, .ref h0)]) hx hb dX3_init_54 hl (k := 0) rfl (by decide) (by decide) rfl (fun ls hl => ?_)
  refine lv_goto (tgt := 24) hx hb dX3_init_57 (by decide) ?_
  refine lv_iload_n hx hb dX3_init_24 rfl (lv_at hl 0 rfl) ?_
  refine lv_bipush (v := 7) hx hb dX3_init_25 (by decide) ?_
  refine lv_icmp_ge (tgt := 60) hx hb dX3_init_27 (by decide) (fun c17 => absurd c17 (by decide)) (fun c17 => ?_)
  refine lv_aload_n hx hb dX3_init_30 rfl (lv_at hl 1 rfl) ?_
  refine va_get (D := G.1) (ci := 3) (v := .ref q1) (C := RX3) (T := TX3) (N := 5) hx hb hq pin_wsX30 hown hE.1.1 hP 0 rfl rfl 0 (by decide) (hq _ pw_103) (fun _ h9 => h9) rfl dX3_init_31 ?_
  refine lv_iload_n hx hb dX3_init_34 rfl (lv_at hl 0 rfl) ?_
  refine lv_sipush (v := 256) hx hb dX3_init_35 (by decide) ?_
  refine lv_iload_n hx hb dX3_init_38 rfl (lv_at hl 0 rfl) ?_
  refine lv_ior hx hb dX3_init_39 ?_
  refine lv_topi (fun x18 e19 => ?_)
  obtain rfl : x18 = 258 := e19.trans (by decide)
  refine lv_i2l (v := 258) hx hb dX3_init_40 (by decide) ?_
  refine va_last hx hb hE.1.1 hP hD hS 1 2 rfl rfl (by unfold vp_in; decide) dX3_init_41 (fun H locs hP hD hS => ?_)
  have hP : va_P G.1 pCl [(h0, .inr (3, [.ref q1, .ref q2, .int 0, .int 0, .int 0])), (q1, .inl (G.2.1 2, 3008, .inr (.inl (vp_updL g13 (Int32.toNatClampNeg 2) 258)))), (q2, .inl (G.2.1 2, 3008, .inr (.inl g16)))] H := hP
  have hD : va_D A [(h0, .inr (3, [.ref q1, .ref q2, .int 0, .int 0, .int 0])), (q1, .inl (G.2.1 2, 3008, .inr (.inl (vp_updL g13 (Int32.toNatClampNeg 2) 258)))), (q2, .inl (G.2.1 2, 3008, .inr (.inl g16)))] := hD
  generalize (vp_updL g13 (Int32.toNatClampNeg 2) 258) = g20 at hP hD
  refine lv_aload_n hx hb dX3_init_42 rfl (lv_at hl 1 rfl) ?_
  refine va_get (D := G.1) (ci := 3) (v := .ref q2) (C := RX3) (T := TX3) (N := 5) hx hb hq pin_wsX30 hown hE.1.1 hP 0 rfl rfl 1 (by decide) (hq _ pw_104) (fun _ h9 => h9) rfl dX3_init_43 ?_
  refine lv_iload_n hx hb dX3_init_46 rfl (lv_at hl 0 rfl) ?_
  refine lv_aload_n hx hb dX3_init_47 rfl (lv_at hl 1 rfl) ?_
  refine va_get (D := G.1) (ci := 3) (v := .ref q1) (C := RX3) (T := TX3) (N := 5) hx hb hq pin_wsX30 hown hE.1.1 hP 0 rfl rfl 0 (by decide) (hq _ pw_103) (fun _ h9 => h9) rfl dX3_init_48 ?_
  refine lv_iload_n hx hb dX3_init_51 rfl (lv_at hl 0 rfl) ?_
  refine va_lald hx hb hE.1.1 hP 1 2 rfl rfl (by unfold vp_in; decide) dX3_init_52 ?_
  refine lv_topl (fun x21 e22 => ?_)
  refine va_last hx hb hE.1.1 hP hD hS 2 2 rfl rfl (by unfold vp_in; decide) dX3_init_53 (fun H locs hP hD hS => ?_)
  have hP : va_P G.1 pCl [(h0, .inr (3, [.ref q1, .ref q2, .int 0, .int 0, .int 0])), (q1, .inl (G.2.1 2, 3008, .inr (.inl g20))), (q2, .inl (G.2.1 2, 3008, .inr (.inl (vp_updL g16 (Int32.toNatClampNeg 2) x21))))] H := hP
  have hD : va_D A [(h0, .inr (3, [.ref q1, .ref q2, .int 0, .int 0, .int 0])), (q1, .inl (G.2.1 2, 3008, .inr (.inl g20))), (q2, .inl (G.2.1 2, 3008, .inr (.inl (vp_updL g16 (Int32.toNatClampNeg 2) x21))))] := hD
  generalize (vp_updL g16 (Int32.toNatClampNeg 2) x21) = g23 at hP hD
  refine lv_iinc (v := 3) (lv' := [(1, .int 3), (0, .ref h0)]) hx hb dX3_init_54 hl (k := 0) rfl (by decide) (by decide) rfl (fun ls hl => ?_)
  refine lv_goto (tgt := 24) hx hb dX3_init_57 (by decide) ?_
  refine lv_iload_n hx hb dX3_init_24 rfl (lv_at hl 0 rfl) ?_
  refine lv_bipush (v := 7) hx hb dX3_init_25 (by decide) ?_
  refine lv_icmp_ge (tgt := 60) hx hb dX3_init_27 (by decide) (fun c24 => absurd c24 (by decide)) (fun c24 => ?_)
  refine lv_aload_n hx hb dX3_init_30 rfl (lv_at hl 1 rfl) ?_
  refine va_get (D := G.1) (ci := 3) (v := .ref q1) (C := RX3) (T := TX3) (N := 5) hx hb hq pin_wsX30 hown hE.1.1 hP 0 rfl rfl 0 (by decide) (hq _ pw_103) (fun _ h9 => h9) rfl dX3_init_31 ?_
  refine lv_iload_n hx hb dX3_init_34 rfl (lv_at hl 0 rfl) ?_
  refine lv_sipush (v := 256) hx hb dX3_init_35 (by decide) ?_
  refine lv_iload_n hx hb dX3_init_38 rfl (lv_at hl 0 rfl) ?_
  refine lv_ior hx hb dX3_init_39 ?_
  refine lv_topi (fun x25 e26 => ?_)
  obtain rfl : x25 = 259 := e26.trans (by decide)
  refine lv_i2l (v := 259) hx hb dX3_init_40 (by decide) ?_
  refine va_last hx hb hE.1.1 hP hD hS 1 2 rfl rfl (by unfold vp_in; decide) dX3_init_41 (fun H locs hP hD hS => ?_)
  have hP : va_P G.1 pCl [(h0, .inr (3, [.ref q1, .ref q2, .int 0, .int 0, .int 0])), (q1, .inl (G.2.1 2, 3008, .inr (.inl (vp_updL g20 (Int32.toNatClampNeg 3) 259)))), (q2, .inl (G.2.1 2, 3008, .inr (.inl g23)))] H := hP
  have hD : va_D A [(h0, .inr (3, [.ref q1, .ref q2, .int 0, .int 0, .int 0])), (q1, .inl (G.2.1 2, 3008, .inr (.inl (vp_updL g20 (Int32.toNatClampNeg 3) 259)))), (q2, .inl (G.2.1 2, 3008, .inr (.inl g23)))] := hD
  generalize (vp_updL g20 (Int32.toNatClampNeg 3) 259) = g27 at hP hD
  refine lv_aload_n hx hb dX3_init_42 rfl (lv_at hl 1 rfl) ?_
  refine va_get (D := G.1) (ci := 3) (v := .ref q2) (C := RX3) (T := TX3) (N := 5) hx hb hq pin_wsX30 hown hE.1.1 hP 0 rfl rfl 1 (by decide) (hq _ pw_104) (fun _ h9 => h9) rfl dX3_init_43 ?_
  refine lv_iload_n hx hb dX3_init_46 rfl (lv_at hl 0 rfl) ?_
  refine lv_aload_n hx hb dX3_init_47 rfl (lv_at hl 1 rfl) ?_
  refine va_get (D := G.1) (ci := 3) (v := .ref q1) (C := RX3) (T := TX3) (N := 5) hx hb hq pin_wsX30 hown hE.1.1 hP 0 rfl rfl 0 (by decide) (hq _ pw_103) (fun _ h9 => h9) rfl dX3_init_48 ?_
  refine lv_iload_n hx hb dX3_init_51 rfl (lv_at hl 0 rfl) ?_
  refine va_lald hx hb hE.1.1 hP 1 2 rfl rfl (by unfold vp_in; decide) dX3_init_52 ?_
  refine lv_topl (fun x28 e29 => ?_)
  refine va_last hx hb hE.1.1 hP hD hS 2 2 rfl rfl (by unfold vp_in; decide) dX3_init_53 (fun H locs hP hD hS => ?_)
  have hP : va_P G.1 pCl [(h0, .inr (3, [.ref q1, .ref q2, .int 0, .int 0, .int 0])), (q1, .inl (G.2.1 2, 3008, .inr (.inl g27))), (q2, .inl (G.2.1 2, 3008, .inr (.inl (vp_updL g23 (Int32.toNatClampNeg 3) x28))))] H := hP
  have hD : va_D A [(h0, .inr (3, [.ref q1, .ref q2, .int 0, .int 0, .int 0])), (q1, .inl (G.2.1 2, 3008, .inr (.inl g27))), (q2, .inl (G.2.1 2, 3008, .inr (.inl (vp_updL g23 (Int32.toNatClampNeg 3) x28))))] := hD
  generalize (vp_updL g23 (Int32.toNatClampNeg 3) x28) = g30 at hP hD
  refine lv_iinc (v := 4) (lv' := [(1, .int 4), (0, .ref h0)]) hx hb dX3_init_54 hl (k := 0) rfl (by decide) (by decide) rfl (fun ls hl => ?_)
  refine lv_goto (tgt := 24) hx hb dX3_init_57 (by decide) ?_
  refine lv_iload_n hx hb dX3_init_24 rfl (lv_at hl 0 rfl) ?_
  refine lv_bipush (v := 7) hx hb dX3_init_25 (by decide) ?_
  refine lv_icmp_ge (tgt := 60) hx hb dX3_init_27 (by decide) (fun c31 => absurd c31 (by decide)) (fun c31 => ?_)
  refine lv_aload_n hx hb dX3_init_30 rfl (lv_at hl 1 rfl) ?_
  refine va_get (D := G.1) (ci := 3) (v := .ref q1) (C := RX3) (T := TX3) (N := 5) hx hb hq pin_wsX30 hown hE.1.1 hP 0 rfl rfl 0 (by decide) (hq _ pw_103) (fun _ h9 => h9) rfl dX3_init_31 ?_
  refine lv_iload_n hx hb dX3_init_34 rfl (lv_at hl 0 rfl) ?_
  refine lv_sipush (v := 256) hx hb dX3_init_35 (by decide) ?_
  refine lv_iload_n hx hb dX3_init_38 rfl (lv_at hl 0 rfl) ?_
  refine lv_ior hx hb dX3_init_39 ?_
  refine lv_topi (fun x32 e33 => ?_)
  obtain rfl : x32 = 260 := e33.trans (by decide)
  refine lv_i2l (v := 260) hx hb dX3_init_40 (by decide) ?_
  refine va_last hx hb hE.1.1 hP hD hS 1 2 rfl rfl (by unfold vp_in; decide) dX3_init_41 (fun H locs hP hD hS => ?_)
  have hP : va_P G.1 pCl [(h0, .inr (3, [.ref q1, .ref q2, .int 0, .int 0, .int 0])), (q1, .inl (G.2.1 2, 3008, .inr (.inl (vp_updL g27 (Int32.toNatClampNeg 4) 260)))), (q2, .inl (G.2.1 2, 3008, .inr (.inl g30)))] H := hP
  have hD : va_D A [(h0, .inr (3, [.ref q1, .ref q2, .int 0, .int 0, .int 0])), (q1, .inl (G.2.1 2, 3008, .inr (.inl (vp_updL g27 (Int32.toNatClampNeg 4) 260)))), (q2, .inl (G.2.1 2, 3008, .inr (.inl g30)))] := hD
  generalize (vp_updL g27 (Int32.toNatClampNeg 4) 260) = g34 at hP hD
  refine lv_aload_n hx hb dX3_init_42 rfl (lv_at hl 1 rfl) ?_
  refine va_get (D := G.1) (ci := 3) (v := .ref q2) (C := RX3) (T := TX3) (N := 5) hx hb hq pin_wsX30 hown hE.1.1 hP 0 rfl rfl 1 (by decide) (hq _ pw_104) (fun _ h9 => h9) rfl dX3_init_43 ?_
  refine lv_iload_n hx hb dX3_init_46 rfl (lv_at hl 0 rfl) ?_
  refine lv_aload_n hx hb dX3_init_47 rfl (lv_at hl 1 rfl) ?_
  refine va_get (D := G.1) (ci := 3) (v := .ref q1) (C := RX3) (T := TX3) (N := 5) hx hb hq pin_wsX30 hown hE.1.1 hP 0 rfl rfl 0 (by decide) (hq _ pw_103) (fun _ h9 => h9) rfl dX3_init_48 ?_
  refine lv_iload_n hx hb dX3_init_51 rfl (lv_at hl 0 rfl) ?_
  refine va_lald hx hb hE.1.1 hP 1 2 rfl rfl (by unfold vp_in; decide) dX3_init_52 ?_
  refine lv_topl (fun x35 e36 => ?_)
  refine va_last hx hb hE.1.1 hP hD hS 2 2 rfl rfl (by unfold vp_in; decide) dX3_init_53 (fun H locs hP hD hS => ?_)
  have hP : va_P G.1 pCl [(h0, .inr (3, [.ref q1, .ref q2, .int 0, .int 0, .int 0])), (q1, .inl (G.2.1 2, 3008, .inr (.inl g34))), (q2, .inl (G.2.1 2, 3008, .inr (.inl (vp_updL g30 (Int32.toNatClampNeg 4) x35))))] H := hP
  have hD : va_D A [(h0, .inr (3, [.ref q1, .ref q2, .int 0, .int 0, .int 0])), (q1, .inl (G.2.1 2, 3008, .inr (.inl g34))), (q2, .inl (G.2.1 2, 3008, .inr (.inl (vp_updL g30 (Int32.toNatClampNeg 4) x35))))] := hD
  generalize (vp_updL g30 (Int32.toNatClampNeg 4) x35) = g37 at hP hD
  refine lv_iinc (v := 5) (lv' := [(1, .int 5), (0, .ref h0)]) hx hb dX3_init_54 hl (k := 0) rfl (by decide) (by decide) rfl (fun ls hl => ?_)
  refine lv_goto (tgt := 24) hx hb dX3_init_57 (by decide) ?_
  refine lv_iload_n hx hb dX3_init_24 rfl (lv_at hl 0 rfl) ?_
  refine lv_bipush (v := 7) hx hb dX3_init_25 (by decide) ?_
  refine lv_icmp_ge (tgt := 60) hx hb dX3_init_27 (by decide) (fun c38 => absurd c38 (by decide)) (fun c38 => ?_)
  refine lv_aload_n hx hb dX3_init_30 rfl (lv_at hl 1 rfl) ?_
  refine va_get (D := G.1) (ci := 3) (v := .ref q1) (C := RX3) (T := TX3) (N := 5) hx hb hq pin_wsX30 hown hE.1.1 hP 0 rfl rfl 0 (by decide) (hq _ pw_103) (fun _ h9 => h9) rfl dX3_init_31 ?_
  refine lv_iload_n hx hb dX3_init_34 rfl (lv_at hl 0 rfl) ?_
  refine lv_sipush (v := 256) hx hb dX3_init_35 (by decide) ?_
  refine lv_iload_n hx hb dX3_init_38 rfl (lv_at hl 0 rfl) ?_
  refine lv_ior hx hb dX3_init_39 ?_
  refine lv_topi (fun x39 e40 => ?_)
  obtain rfl : x39 = 261 := e40.trans (by decide)
  refine lv_i2l (v := 261) hx hb dX3_init_40 (by decide) ?_
  refine va_last hx hb hE.1.1 hP hD hS 1 2 rfl rfl (by unfold vp_in; decide) dX3_init_41 (fun H locs hP hD hS => ?_)
  have hP : va_P G.1 pCl [(h0, .inr (3, [.ref q1, .ref q2, .int 0, .int 0, .int 0])), (q1, .inl (G.2.1 2, 3008, .inr (.inl (vp_updL g34 (Int32.toNatClampNeg 5) 261)))), (q2, .inl (G.2.1 2, 3008, .inr (.inl g37)))] H := hP
  have hD : va_D A [(h0, .inr (3, [.ref q1, .ref q2, .int 0, .int 0, .int 0])), (q1, .inl (G.2.1 2, 3008, .inr (.inl (vp_updL g34 (Int32.toNatClampNeg 5) 261)))), (q2, .inl (G.2.1 2, 3008, .inr (.inl g37)))] := hD
  generalize (vp_updL g34 (Int32.toNatClampNeg 5) 261) = g41 at hP hD
  refine lv_aload_n hx hb dX3_init_42 rfl (lv_at hl 1 rfl) ?_
  refine va_get (D := G.1) (ci := 3) (v := .ref q2) (C := RX3) (T := TX3) (N := 5) hx hb hq pin_wsX30 hown hE.1.1 hP 0 rfl rfl 1 (by decide) (hq _ pw_104) (fun _ h9 => h9) rfl dX3_init_43 ?_
  refine lv_iload_n hx hb dX3_init_46 rfl (lv_at hl 0 rfl) ?_
  refine lv_aload_n hx hb dX3_init_47 rfl (lv_at hl 1 rfl) ?_
  refine va_get (D := G.1) (ci := 3) (v := .ref q1) (C := RX3) (T := TX3) (N := 5) hx hb hq pin_wsX30 hown hE.1.1 hP 0 rfl rfl 0 (by decide) (hq _ pw_103) (fun _ h9 => h9) rfl dX3_init_48 ?_
  refine lv_iload_n hx hb dX3_init_51 rfl (lv_at hl 0 rfl) ?_
  refine va_lald hx hb hE.1.1 hP 1 2 rfl rfl (by unfold vp_in; decide) dX3_init_52 ?_
  refine lv_topl (fun x42 e43 => ?_)
  refine va_last hx hb hE.1.1 hP hD hS 2 2 rfl rfl (by unfold vp_in; decide) dX3_init_53 (fun H locs hP hD hS => ?_)
  have hP : va_P G.1 pCl [(h0, .inr (3, [.ref q1, .ref q2, .int 0, .int 0, .int 0])), (q1, .inl (G.2.1 2, 3008, .inr (.inl g41))), (q2, .inl (G.2.1 2, 3008, .inr (.inl (vp_updL g37 (Int32.toNatClampNeg 5) x42))))] H := hP
  have hD : va_D A [(h0, .inr (3, [.ref q1, .ref q2, .int 0, .int 0, .int 0])), (q1, .inl (G.2.1 2, 3008, .inr (.inl g41))), (q2, .inl (G.2.1 2, 3008, .inr (.inl (vp_updL g37 (Int32.toNatClampNeg 5) x42))))] := hD
  generalize (vp_updL g37 (Int32.toNatClampNeg 5) x42) = g44 at hP hD
  refine lv_iinc (v := 6) (lv' := [(1, .int 6), (0, .ref h0)]) hx hb dX3_init_54 hl (k := 0) rfl (by decide) (by decide) rfl (fun ls hl => ?_)
  refine lv_goto (tgt := 24) hx hb dX3_init_57 (by decide) ?_
  refine lv_iload_n hx hb dX3_init_24 rfl (lv_at hl 0 rfl) ?_
  refine lv_bipush (v := 7) hx hb dX3_init_25 (by decide) ?_
  refine lv_icmp_ge (tgt := 60) hx hb dX3_init_27 (by decide) (fun c45 => absurd c45 (by decide)) (fun c45 => ?_)
  refine lv_aload_n hx hb dX3_init_30 rfl (lv_at hl 1 rfl) ?_
  refine va_get (D := G.1) (ci := 3) (v := .ref q1) (C := RX3) (T := TX3) (N := 5) hx hb hq pin_wsX30 hown hE.1.1 hP 0 rfl rfl 0 (by decide) (hq _ pw_103) (fun _ h9 => h9) rfl dX3_init_31 ?_
  refine lv_iload_n hx hb dX3_init_34 rfl (lv_at hl 0 rfl) ?_
  refine lv_sipush (v := 256) hx hb dX3_init_35 (by decide) ?_
  refine lv_iload_n hx hb dX3_init_38 rfl (lv_at hl 0 rfl) ?_
  refine lv_ior hx hb dX3_init_39 ?_
  refine lv_topi (fun x46 e47 => ?_)
  obtain rfl : x46 = 262 := e47.trans (by decide)
  refine lv_i2l (v := 262) hx hb dX3_init_40 (by decide) ?_
  refine va_last hx hb hE.1.1 hP hD hS 1 2 rfl rfl (by unfold vp_in; decide) dX3_init_41 (fun H locs hP hD hS => ?_)
  have hP : va_P G.1 pCl [(h0, .inr (3, [.ref q1, .ref q2, .int 0, .int 0, .int 0])), (q1, .inl (G.2.1 2, 3008, .inr (.inl (vp_updL g41 (Int32.toNatClampNeg 6) 262)))), (q2, .inl (G.2.1 2, 3008, .inr (.inl g44)))] H := hP
  have hD : va_D A [(h0, .inr (3, [.ref q1, .ref q2, .int 0, .int 0, .int 0])), (q1, .inl (G.2.1 2, 3008, .inr (.inl (vp_updL g41 (Int32.toNatClampNeg 6) 262)))), (q2, .inl (G.2.1 2, 3008, .inr (.inl g44)))] := hD
  generalize (vp_updL g41 (Int32.toNatClampNeg 6) 262) = g48 at hP hD
  refine lv_aload_n hx hb dX3_init_42 rfl (lv_at hl 1 rfl) ?_
  refine va_get (D := G.1) (ci := 3) (v := .ref q2) (C := RX3) (T := TX3) (N := 5) hx hb hq pin_wsX30 hown hE.1.1 hP 0 rfl rfl 1 (by decide) (hq _ pw_104) (fun _ h9 => h9) rfl dX3_init_43 ?_
  refine lv_iload_n hx hb dX3_init_46 rfl (lv_at hl 0 rfl) ?_
  refine lv_aload_n hx hb dX3_init_47 rfl (lv_at hl 1 rfl) ?_
  refine va_get (D := G.1) (ci := 3) (v := .ref q1) (C := RX3) (T := TX3) (N := 5) hx hb hq pin_wsX30 hown hE.1.1 hP 0 rfl rfl 0 (by decide) (hq _ pw_103) (fun _ h9 => h9) rfl dX3_init_48 ?_
  refine lv_iload_n hx hb dX3_init_51 rfl (lv_at hl 0 rfl) ?_
  refine va_lald hx hb hE.1.1 hP 1 2 rfl rfl (by unfold vp_in; decide) dX3_init_52 ?_
  refine lv_topl (fun x49 e50 => ?_)
  refine va_last hx hb hE.1.1 hP hD hS 2 2 rfl rfl (by unfold vp_in; decide) dX3_init_53 (fun H locs hP hD hS => ?_)
  have hP : va_P G.1 pCl [(h0, .inr (3, [.ref q1, .ref q2, .int 0, .int 0, .int 0])), (q1, .inl (G.2.1 2, 3008, .inr (.inl g48))), (q2, .inl (G.2.1 2, 3008, .inr (.inl (vp_updL g44 (Int32.toNatClampNeg 6) x49))))] H := hP
  have hD : va_D A [(h0, .inr (3, [.ref q1, .ref q2, .int 0, .int 0, .int 0])), (q1, .inl (G.2.1 2, 3008, .inr (.inl g48))), (q2, .inl (G.2.1 2, 3008, .inr (.inl (vp_updL g44 (Int32.toNatClampNeg 6) x49))))] := hD
  generalize (vp_updL g44 (Int32.toNatClampNeg 6) x49) = g51 at hP hD
  refine lv_iinc (v := 7) (lv' := [(1, .int 7), (0, .ref h0)]) hx hb dX3_init_54 hl (k := 0) rfl (by decide) (by decide) rfl (fun ls hl => ?_)
  refine lv_goto (tgt := 24) hx hb dX3_init_57 (by decide) ?_
  refine lv_iload_n hx hb dX3_init_24 rfl (lv_at hl 0 rfl) ?_
  refine lv_bipush (v := 7) hx hb dX3_init_25 (by decide) ?_
  refine lv_icmp_ge (tgt := 60) hx hb dX3_init_27 (by decide) (fun c52 => ?_) (fun c52 => absurd (by decide) c52)
  refine lv_aload_n hx hb dX3_init_60 rfl (lv_at hl 1 rfl) ?_
  refine lv_bipush (v := 8) hx hb dX3_init_61 (by decide) ?_
  refine va_put (D := G.1) (ci := 3) (v := .int 8) (ty := .int) (C := RX3) (T := TX3) (N := 5) hx hb hq pin_wsX30 tyX3 tyX3_ok nmX3 hown hE.1.1 hP hD hS 0 rfl rfl 2 (by decide) (hq _ pw_105) (fun _ h9 => h9) rfl (by decide +kernel) rfl rfl (Nat.le_of_ble_eq_true rfl) dX3_init_63 (fun H locs hP hD hS => ?_)
  have hP : va_P G.1 pCl [(h0, .inr (3, [.ref q1, .ref q2, .int 8, .int 0, .int 0])), (q1, .inl (G.2.1 2, 3008, .inr (.inl g48))), (q2, .inl (G.2.1 2, 3008, .inr (.inl g51)))] H := hP
  have hD : va_D A [(h0, .inr (3, [.ref q1, .ref q2, .int 8, .int 0, .int 0])), (q1, .inl (G.2.1 2, 3008, .inr (.inl g48))), (q2, .inl (G.2.1 2, 3008, .inr (.inl g51)))] := hD
  refine W.widen (k := 2) (n := 6016) (Nat.le_of_ble_eq_true rfl) (Nat.le_of_ble_eq_true rfl) ?_
  exact W.vret hx hb hr (fun t ht hW => ⟨⟨_, ((fun k => match k with | 0 => q1 | _ => q2), (fun _ => fun _ => 0), (fun k => match k with | 0 => g48 | _ => g51)), rfl, rfl, by rw [ht]; exact hP.sub [0, 1, 2] rfl, hD.sub [0, 1, 2] (by decide) rfl⟩, hS.F ht⟩) hS.2.2 dX3_init_66
theorem dX5_init_0 : decode cX5_init 0 = .ok (.aload_n 0, 1) := by decide +kernel
theorem dX5_init_1 : decode cX5_init 1 = .ok (.invokespecial 5, 3) := by decide +kernel
theorem dX5_init_4 : decode cX5_init 4 = .ok (.aload_n 0, 1) := by decide +kernel
theorem dX5_init_5 : decode cX5_init 5 = .ok (.aload_n 1, 1) := by decide +kernel
theorem dX5_init_6 : decode cX5_init 6 = .ok (.putfield 11, 3) := by decide +kernel
theorem dX5_init_9 : decode cX5_init 9 = .ok (.aload_n 0, 1) := by decide +kernel
theorem dX5_init_10 : decode cX5_init 10 = .ok (.new 15, 3) := by decide +kernel
theorem dX5_init_13 : decode cX5_init 13 = .ok (.dup, 1) := by decide +kernel
theorem dX5_init_14 : decode cX5_init 14 = .ok (.invokespecial 17, 3) := by decide +kernel
theorem dX5_init_17 : decode cX5_init 17 = .ok (.putfield 18, 3) := by decide +kernel
theorem dX5_init_20 : decode cX5_init 20 = .ok (.aload_n 0, 1) := by decide +kernel
theorem dX5_init_21 : decode cX5_init 21 = .ok (.sipush 32000, 3) := by decide +kernel
theorem dX5_init_24 : decode cX5_init 24 = .ok (.newarray .long, 2) := by decide +kernel
theorem dX5_init_26 : decode cX5_init 26 = .ok (.putfield 22, 3) := by decide +kernel
theorem dX5_init_29 : decode cX5_init 29 = .ok (.aload_n 0, 1) := by decide +kernel
theorem dX5_init_30 : decode cX5_init 30 = .ok (.sipush 300, 3) := by decide +kernel
theorem dX5_init_33 : decode cX5_init 33 = .ok (.newarray .int, 2) := by decide +kernel
theorem dX5_init_35 : decode cX5_init 35 = .ok (.putfield 26, 3) := by decide +kernel
theorem dX5_init_38 : decode cX5_init 38 = .ok (.aload_n 0, 1) := by decide +kernel
theorem dX5_init_39 : decode cX5_init 39 = .ok (.sipush 200, 3) := by decide +kernel
theorem dX5_init_42 : decode cX5_init 42 = .ok (.newarray .int, 2) := by decide +kernel
theorem dX5_init_44 : decode cX5_init 44 = .ok (.putfield 30, 3) := by decide +kernel
theorem dX5_init_47 : decode cX5_init 47 = .ok (.aload_n 0, 1) := by decide +kernel
theorem dX5_init_48 : decode cX5_init 48 = .ok (.sipush 400, 3) := by decide +kernel
theorem dX5_init_51 : decode cX5_init 51 = .ok (.newarray .int, 2) := by decide +kernel
theorem dX5_init_53 : decode cX5_init 53 = .ok (.putfield 33, 3) := by decide +kernel
theorem dX5_init_56 : decode cX5_init 56 = .ok (.aload_n 0, 1) := by decide +kernel
theorem dX5_init_57 : decode cX5_init 57 = .ok (.bipush 12, 2) := by decide +kernel
theorem dX5_init_59 : decode cX5_init 59 = .ok (.newarray .int, 2) := by decide +kernel
theorem dX5_init_61 : decode cX5_init 61 = .ok (.putfield 36, 3) := by decide +kernel
theorem dX5_init_64 : decode cX5_init 64 = .ok (.return_, 1) := by decide +kernel
theorem hS_X3_init : yX3_init.cls ≠ "java/lang/invoke/MethodHandle" ∧ yX3_init.cls ≠ "java/lang/invoke/VarHandle" ∧ (parseMethodDescriptor yX3_init.desc).map (fun d => d.parameters.length) = some 0 := by decide +kernel
set_option maxHeartbeats 1000000 in
set_option maxRecDepth 100000 in
/-- Machine(code) -/
theorem c_Machine_init (l : Launch) (G : pT) (h0 : Nat) (h1 : Nat) : PM l G pX0 yX5_init cX5_init 2 none ({ frames := 3, cells := 8, slots := 38933, locals := 81 }) [.ref h0, .ref h1] [(h0, .inr (4, [.null, .null, .null, .null, .null, .int 0, .null, .null, .null, .null, .int 0, .int 0, .int 0, .int 0, .long 0, .int 0, .int 0, .int 0, .int 0]))] (fun (v : Option Value) (u : (Nat → Nat) × (Nat → Nat → Int32) × (Nat → Nat → Int64)) => v = none) (fun u => [(h0, .inr (4, [.ref h1, .ref (u.1 0), .ref (u.1 3), .ref (u.1 4), .ref (u.1 5), .int 0, .ref (u.1 6), .ref (u.1 7), .null, .null, .int 0, .int 0, .int 0, .int 0, .long 0, .int 0, .int 0, .int 0, .int 0])), ((u.1 0), .inr (3, [.ref (u.1 1), .ref (u.1 2), .int 8, .int 0, .int 0])), ((u.1 1), .inl (G.2.1 2, 3008, .inr (.inl (u.2.2 0)))), ((u.1 2), .inl (G.2.1 2, 3008, .inr (.inl (u.2.2 1)))), ((u.1 3), .inl (G.2.1 2, 32000, .inr (.inl (fun _ => 0)))), ((u.1 4), .inl (G.2.1 0, 300, .inl (fun _ => 0))), ((u.1 5), .inl (G.2.1 0, 200, .inl (fun _ => 0))), ((u.1 6), .inl (G.2.1 0, 400, .inl (fun _ => 0))), ((u.1 7), .inl (G.2.1 0, 12, .inl (fun _ => 0)))]) := by
  intro sz
  refine Met.ofW (cc := cX5_init) (maxL := 2) (ret := none) (by decide) rfl ?_
  intro p e s m args below meth c s₁ B hml hv
  obtain ⟨rfl, hsz, hP, hD0, hE, hX⟩ := hv
  have hx := B.exec
  have hb := B.bytes
  have hr := B.returns
  have hts := atoms_spec (ws := Cond.code yX5_init cX5_init 2 none :: pw) B.pre
  have hq : ∀ w ∈ pw, w.before _ s = true := fun w h => hts w (List.mem_cons_of_mem _ h)
  have hown : s.vm.findClass RX5 = some m.cls := findClass_of_methodNamed B.named
  have hlocks := B.notSynchronized
  have hin : meth.name = "<init>" := (name_of_methodNamed B.named B.method).1
  subst hsz
  have hD := hD0.self (sz := s.heap.size)
  have hA : ∀ q : Nat, s.heap.size ≤ q → va_A [(h0, .inr (4, [.null, .null, .null, .null, .null, .int 0, .null, .null, .null, .null, .int 0, .int 0, .int 0, .int 0, .long 0, .int 0, .int 0, .int 0, .int 0]))] s.heap.size q := fun q h => Or.inr h
  have hP : va_P G.1 pCl [(h0, .inr (4, [.null, .null, .null, .null, .null, .int 0, .null, .null, .null, .null, .int 0, .int 0, .int 0, .int 0, .long 0, .int 0, .int 0, .int 0, .int 0]))] s.heap := hP
  generalize va_A [(h0, .inr (4, [.null, .null, .null, .null, .null, .int 0, .null, .null, .null, .null, .int 0, .int 0, .int 0, .int 0, .long 0, .int 0, .int 0, .int 0, .int 0]))] s.heap.size = A at hD hE hA ⊢
  have hS : va_S A s.heap s.heap [] := va_S.rf
  have hl := lv_entry ([.ref h0, .ref h1]) (n := 2) (Nat.le_of_ble_eq_true rfl)
  rw [lg_entry_eq]
  generalize (lg_sl ([.ref h0, .ref h1]) ++ List.replicate (2 - (lg_sl ([.ref h0, .ref h1])).length) Slot.unset).toArray = ls at hl ⊢
  have hl : lv_has ls 2 [(0, .ref h0), (1, .ref h1)] := hl
  refine lv_aload_n hx hb dX5_init_0 rfl (lv_at hl 0 rfl) ?_
  refine W.objInit hx hb hown (hq _ pw_106) (hq _ pw_634) (hq _ pw_635) rfl (by rw [hml]; exact hl.1) rfl dX5_init_1 (Nat.le_of_ble_eq_true rfl) (Nat.le_of_ble_eq_true rfl) ?_
  refine W.eq (g2 := F0 m 4 ls []) rfl ?_
  refine lv_aload_n hx hb dX5_init_4 rfl (lv_at hl 0 rfl) ?_
  refine lv_aload_n hx hb dX5_init_5 rfl (lv_at hl 1 rfl) ?_
  refine va_putF (D := G.1) (ci := 4) (v := .ref h1) (ty := (.object "JinjaTongue$Code")) (C := RX5) (T := TX5) (N := 19) hx hb hq pin_wsX50 tyX5 tyX5_ok nmX5 hown hE.1.1 hP hD hS 0 rfl rfl 0 (by decide) (hq _ pw_107) (fun _ h9 => h9) rfl hin rfl (by decide +kernel) rfl rfl (Nat.le_of_ble_eq_true rfl) dX5_init_6 (fun H locs hP hD hS => ?_)
  have hP : va_P G.1 pCl [(h0, .inr (4, [.ref h1, .null, .null, .null, .null, .int 0, .null, .null, .null, .null, .int 0, .int 0, .int 0, .int 0, .long 0, .int 0, .int 0, .int 0, .int 0]))] H := hP
  have hD : va_D A [(h0, .inr (4, [.ref h1, .null, .null, .null, .null, .int 0, .null, .null, .null, .null, .int 0, .int 0, .int 0, .int 0, .long 0, .int 0, .int 0, .int 0, .int 0]))] := hD
  refine lv_aload_n hx hb dX5_init_9 rfl (lv_at hl 0 rfl) ?_
  refine va_new (ci := 3) (fs := [.null, .null, .int 0, .int 0, .int 0]) (C := RX3) (T := TX3) (N := 5) hx hb hq pin_wsX30 tyX3 tyX3_ok hown (hq _ pw_108) (hq _ pw_652) (hq _ pw_460) hE.1.1 hP hD hS hA rfl nw_X3 (Nat.le_of_ble_eq_true rfl) (Nat.le_of_ble_eq_true rfl) dX5_init_10 (fun q1 H hP hD hS => ?_)
  have hP : va_P G.1 pCl [(h0, .inr (4, [.ref h1, .null, .null, .null, .null, .int 0, .null, .null, .null, .null, .int 0, .int 0, .int 0, .int 0, .long 0, .int 0, .int 0, .int 0, .int 0])), (q1, .inr (3, [.null, .null, .int 0, .int 0, .int 0]))] H := hP
  have hD : va_D A [(h0, .inr (4, [.ref h1, .null, .null, .null, .null, .int 0, .null, .null, .null, .null, .int 0, .int 0, .int 0, .int 0, .long 0, .int 0, .int 0, .int 0, .int 0])), (q1, .inr (3, [.null, .null, .int 0, .int 0, .int 0]))] := hD
  refine W.widen (k := 1) (n := 5) (Nat.le_of_ble_eq_true rfl) (Nat.le_of_ble_eq_true rfl) ?_
  refine lv_dup hx hb dX5_init_13 rfl ?_
  refine pc_I (G := G) (As := []) (rest := [.ref q1, .ref h0]) (wr := [(h0, .inr (4, [.ref h1, .null, .null, .null, .null, .int 0, .null, .null, .null, .null, .int 0, .int 0, .int 0, .int 0, .long 0, .int 0, .int 0, .int 0, .int 0]))]) hx hb hml hown hq hE hX pX0_al hP hD hS hA hl.1 (c_Heap_init l G q1) pw_109 pw_459 pw_460 pw_458 rfl hS_X3_init [1] [0] rfl rfl (by decide) (by decide) (by decide) rfl (Nat.le_of_ble_eq_true rfl) dX5_init_14 ⟨Nat.le_of_ble_eq_true rfl, Nat.le_of_ble_eq_true rfl⟩ ⟨Nat.le_of_ble_eq_true rfl, Nat.le_of_ble_eq_true rfl⟩ (fun v4 u2 H locs hw3 hP hD hS => ?_)
  obtain rfl : v4 = none := hw3
  have hP : va_P G.1 pCl [(h0, .inr (4, [.ref h1, .null, .null, .null, .null, .int 0, .null, .null, .null, .null, .int 0, .int 0, .int 0, .int 0, .long 0, .int 0, .int 0, .int 0, .int 0])), (q1, .inr (3, [.ref (u2.1 0), .ref (u2.1 1), .int 8, .int 0, .int 0])), ((u2.1 0), .inl (G.2.1 2, 3008, .inr (.inl (u2.2.2 0)))), ((u2.1 1), .inl (G.2.1 2, 3008, .inr (.inl (u2.2.2 1))))] H := hP
  have hD : va_D A [(h0, .inr (4, [.ref h1, .null, .null, .null, .null, .int 0, .null, .null, .null, .null, .int 0, .int 0, .int 0, .int 0, .long 0, .int 0, .int 0, .int 0, .int 0])), (q1, .inr (3, [.ref (u2.1 0), .ref (u2.1 1), .int 8, .int 0, .int 0])), ((u2.1 0), .inl (G.2.1 2, 3008, .inr (.inl (u2.2.2 0)))), ((u2.1 1), .inl (G.2.1 2, 3008, .inr (.inl (u2.2.2 1))))] := hD
  generalize u2.1 0 = q5 at hP hD
  generalize u2.1 1 = q6 at hP hD
  generalize u2.2.2 0 = g7 at hP hD
  generalize u2.2.2 1 = g8 at hP hD
  refine W.widen (k := 3) (n := 6021) (Nat.le_of_ble_eq_true rfl) (Nat.le_of_ble_eq_true rfl) ?_
  refine W.eq (g2 := F0 m 17 ls [.ref q1, .ref h0]) rfl ?_
  refine va_putF (D := G.1) (ci := 4) (v := .ref q1) (ty := (.object "JinjaTongue$Heap")) (C := RX5) (T := TX5) (N := 19) hx hb hq pin_wsX50 tyX5 tyX5_ok nmX5 hown hE.1.1 hP hD hS 0 rfl rfl 1 (by decide) (hq _ pw_110) (fun _ h9 => h9) rfl hin rfl (by decide +kernel) rfl rfl (Nat.le_of_ble_eq_true rfl) dX5_init_17 (fun H locs hP hD hS => ?_)
  have hP : va_P G.1 pCl [(h0, .inr (4, [.ref h1, .ref q1, .null, .null, .null, .int 0, .null, .null, .null, .null, .int 0, .int 0, .int 0, .int 0, .long 0, .int 0, .int 0, .int 0, .int 0])), (q1, .inr (3, [.ref q5, .ref q6, .int 8, .int 0, .int 0])), (q5, .inl (G.2.1 2, 3008, .inr (.inl g7))), (q6, .inl (G.2.1 2, 3008, .inr (.inl g8)))] H := hP
  have hD : va_D A [(h0, .inr (4, [.ref h1, .ref q1, .null, .null, .null, .int 0, .null, .null, .null, .null, .int 0, .int 0, .int 0, .int 0, .long 0, .int 0, .int 0, .int 0, .int 0])), (q1, .inr (3, [.ref q5, .ref q6, .int 8, .int 0, .int 0])), (q5, .inl (G.2.1 2, 3008, .inr (.inl g7))), (q6, .inl (G.2.1 2, 3008, .inr (.inl g8)))] := hD
  refine lv_aload_n hx hb dX5_init_20 rfl (lv_at hl 0 rfl) ?_
  refine lv_sipush (v := 32000) hx hb dX5_init_21 (by decide) ?_
  refine pn_newa (G := G) (atype := .long) (a0 := (32000, .inr (.inl (fun _ => 0)))) (N' := 32000) hx hb (hq _ pw_645) rfl hE.1.2.2.2.1 hP hD hS hA (fun _ => rfl) (by decide) (by decide) (by decide) (Nat.le_of_ble_eq_true rfl) (Nat.le_of_ble_eq_true rfl) dX5_init_24 (fun q9 H hP hD hS => ?_)
  have hP : va_P G.1 pCl [(h0, .inr (4, [.ref h1, .ref q1, .null, .null, .null, .int 0, .null, .null, .null, .null, .int 0, .int 0, .int 0, .int 0, .long 0, .int 0, .int 0, .int 0, .int 0])), (q1, .inr (3, [.ref q5, .ref q6, .int 8, .int 0, .int 0])), (q5, .inl (G.2.1 2, 3008, .inr (.inl g7))), (q6, .inl (G.2.1 2, 3008, .inr (.inl g8))), (q9, .inl (G.2.1 2, 32000, .inr (.inl (fun _ => 0))))] H := hP
  have hD : va_D A [(h0, .inr (4, [.ref h1, .ref q1, .null, .null, .null, .int 0, .null, .null, .null, .null, .int 0, .int 0, .int 0, .int 0, .long 0, .int 0, .int 0, .int 0, .int 0])), (q1, .inr (3, [.ref q5, .ref q6, .int 8, .int 0, .int 0])), (q5, .inl (G.2.1 2, 3008, .inr (.inl g7))), (q6, .inl (G.2.1 2, 3008, .inr (.inl g8))), (q9, .inl (G.2.1 2, 32000, .inr (.inl (fun _ => 0))))] := hD
  refine W.widen (k := 4) (n := 38021) (Nat.le_of_ble_eq_true rfl) (Nat.le_of_ble_eq_true rfl) ?_
  refine va_putF (D := G.1) (ci := 4) (v := .ref q9) (ty := (.array .long)) (C := RX5) (T := TX5) (N := 19) hx hb hq pin_wsX50 tyX5 tyX5_ok nmX5 hown hE.1.1 hP hD hS 0 rfl rfl 2 (by decide) (hq _ pw_111) (fun _ h9 => h9) rfl hin rfl (by decide +kernel) rfl rfl (Nat.le_of_ble_eq_true rfl) dX5_init_26 (fun H locs hP hD hS => ?_)
  have hP : va_P G.1 pCl [(h0, .inr (4, [.ref h1, .ref q1, .ref q9, .null, .null, .int 0, .null, .null, .null, .null, .int 0, .int 0, .int 0, .int 0, .long 0, .int 0, .int 0, .int 0, .int 0])), (q1, .inr (3, [.ref q5, .ref q6, .int 8, .int 0, .int 0])), (q5, .inl (G.2.1 2, 3008, .inr (.inl g7))), (q6, .inl (G.2.1 2, 3008, .inr (.inl g8))), (q9, .inl (G.2.1 2, 32000, .inr (.inl (fun _ => 0))))] H := hP
  have hD : va_D A [(h0, .inr (4, [.ref h1, .ref q1, .ref q9, .null, .null, .int 0, .null, .null, .null, .null, .int 0, .int 0, .int 0, .int 0, .long 0, .int 0, .int 0, .int 0, .int 0])), (q1, .inr (3, [.ref q5, .ref q6, .int 8, .int 0, .int 0])), (q5, .inl (G.2.1 2, 3008, .inr (.inl g7))), (q6, .inl (G.2.1 2, 3008, .inr (.inl g8))), (q9, .inl (G.2.1 2, 32000, .inr (.inl (fun _ => 0))))] := hD
  refine lv_aload_n hx hb dX5_init_29 rfl (lv_at hl 0 rfl) ?_
  refine lv_sipush (v := 300) hx hb dX5_init_30 (by decide) ?_
  refine pn_newa (G := G) (atype := .int) (a0 := (300, .inl (fun _ => 0))) (N' := 300) hx hb (hq _ pw_636) rfl hE.1.2.1 hP hD hS hA (fun _ => rfl) (by decide) (by decide) (by decide) (Nat.le_of_ble_eq_true rfl) (Nat.le_of_ble_eq_true rfl) dX5_init_33 (fun q10 H hP hD hS => ?_)
  have hP : va_P G.1 pCl [(h0, .inr (4, [.ref h1, .ref q1, .ref q9, .null, .null, .int 0, .null, .null, .null, .null, .int 0, .int 0, .int 0, .int 0, .long 0, .int 0, .int 0, .int 0, .int 0])), (q1, .inr (3, [.ref q5, .ref q6, .int 8, .int 0, .int 0])), (q5, .inl (G.2.1 2, 3008, .inr (.inl g7))), (q6, .inl (G.2.1 2, 3008, .inr (.inl g8))), (q9, .inl (G.2.1 2, 32000, .inr (.inl (fun _ => 0)))), (q10, .inl (G.2.1 0, 300, .inl (fun _ => 0)))] H := hP
  have hD : va_D A [(h0, .inr (4, [.ref h1, .ref q1, .ref q9, .null, .null, .int 0, .null, .null, .null, .null, .int 0, .int 0, .int 0, .int 0, .long 0, .int 0, .int 0, .int 0, .int 0])), (q1, .inr (3, [.ref q5, .ref q6, .int 8, .int 0, .int 0])), (q5, .inl (G.2.1 2, 3008, .inr (.inl g7))), (q6, .inl (G.2.1 2, 3008, .inr (.inl g8))), (q9, .inl (G.2.1 2, 32000, .inr (.inl (fun _ => 0)))), (q10, .inl (G.2.1 0, 300, .inl (fun _ => 0)))] := hD
  refine W.widen (k := 5) (n := 38321) (Nat.le_of_ble_eq_true rfl) (Nat.le_of_ble_eq_true rfl) ?_
  refine va_putF (D := G.1) (ci := 4) (v := .ref q10) (ty := (.array .int)) (C := RX5) (T := TX5) (N := 19) hx hb hq pin_wsX50 tyX5 tyX5_ok nmX5 hown hE.1.1 hP hD hS 0 rfl rfl 3 (by decide) (hq _ pw_112) (fun _ h9 => h9) rfl hin rfl (by decide +kernel) rfl rfl (Nat.le_of_ble_eq_true rfl) dX5_init_35 (fun H locs hP hD hS => ?_)
  have hP : va_P G.1 pCl [(h0, .inr (4, [.ref h1, .ref q1, .ref q9, .ref q10, .null, .int 0, .null, .null, .null, .null, .int 0, .int 0, .int 0, .int 0, .long 0, .int 0, .int 0, .int 0, .int 0])), (q1, .inr (3, [.ref q5, .ref q6, .int 8, .int 0, .int 0])), (q5, .inl (G.2.1 2, 3008, .inr (.inl g7))), (q6, .inl (G.2.1 2, 3008, .inr (.inl g8))), (q9, .inl (G.2.1 2, 32000, .inr (.inl (fun _ => 0)))), (q10, .inl (G.2.1 0, 300, .inl (fun _ => 0)))] H := hP
  have hD : va_D A [(h0, .inr (4, [.ref h1, .ref q1, .ref q9, .ref q10, .null, .int 0, .null, .null, .null, .null, .int 0, .int 0, .int 0, .int 0, .long 0, .int 0, .int 0, .int 0, .int 0])), (q1, .inr (3, [.ref q5, .ref q6, .int 8, .int 0, .int 0])), (q5, .inl (G.2.1 2, 3008, .inr (.inl g7))), (q6, .inl (G.2.1 2, 3008, .inr (.inl g8))), (q9, .inl (G.2.1 2, 32000, .inr (.inl (fun _ => 0)))), (q10, .inl (G.2.1 0, 300, .inl (fun _ => 0)))] := hD
  refine lv_aload_n hx hb dX5_init_38 rfl (lv_at hl 0 rfl) ?_
  refine lv_sipush (v := 200) hx hb dX5_init_39 (by decide) ?_
  refine pn_newa (G := G) (atype := .int) (a0 := (200, .inl (fun _ => 0))) (N' := 200) hx hb (hq _ pw_636) rfl hE.1.2.1 hP hD hS hA (fun _ => rfl) (by decide) (by decide) (by decide) (Nat.le_of_ble_eq_true rfl) (Nat.le_of_ble_eq_true rfl) dX5_init_42 (fun q11 H hP hD hS => ?_)
  have hP : va_P G.1 pCl [(h0, .inr (4, [.ref h1, .ref q1, .ref q9, .ref q10, .null, .int 0, .null, .null, .null, .null, .int 0, .int 0, .int 0, .int 0, .long 0, .int 0, .int 0, .int 0, .int 0])), (q1, .inr (3, [.ref q5, .ref q6, .int 8, .int 0, .int 0])), (q5, .inl (G.2.1 2, 3008, .inr (.inl g7))), (q6, .inl (G.2.1 2, 3008, .inr (.inl g8))), (q9, .inl (G.2.1 2, 32000, .inr (.inl (fun _ => 0)))), (q10, .inl (G.2.1 0, 300, .inl (fun _ => 0))), (q11, .inl (G.2.1 0, 200, .inl (fun _ => 0)))] H := hP
  have hD : va_D A [(h0, .inr (4, [.ref h1, .ref q1, .ref q9, .ref q10, .null, .int 0, .null, .null, .null, .null, .int 0, .int 0, .int 0, .int 0, .long 0, .int 0, .int 0, .int 0, .int 0])), (q1, .inr (3, [.ref q5, .ref q6, .int 8, .int 0, .int 0])), (q5, .inl (G.2.1 2, 3008, .inr (.inl g7))), (q6, .inl (G.2.1 2, 3008, .inr (.inl g8))), (q9, .inl (G.2.1 2, 32000, .inr (.inl (fun _ => 0)))), (q10, .inl (G.2.1 0, 300, .inl (fun _ => 0))), (q11, .inl (G.2.1 0, 200, .inl (fun _ => 0)))] := hD
  refine W.widen (k := 6) (n := 38521) (Nat.le_of_ble_eq_true rfl) (Nat.le_of_ble_eq_true rfl) ?_
  refine va_putF (D := G.1) (ci := 4) (v := .ref q11) (ty := (.array .int)) (C := RX5) (T := TX5) (N := 19) hx hb hq pin_wsX50 tyX5 tyX5_ok nmX5 hown hE.1.1 hP hD hS 0 rfl rfl 4 (by decide) (hq _ pw_113) (fun _ h9 => h9) rfl hin rfl (by decide +kernel) rfl rfl (Nat.le_of_ble_eq_true rfl) dX5_init_44 (fun H locs hP hD hS => ?_)
  have hP : va_P G.1 pCl [(h0, .inr (4, [.ref h1, .ref q1, .ref q9, .ref q10, .ref q11, .int 0, .null, .null, .null, .null, .int 0, .int 0, .int 0, .int 0, .long 0, .int 0, .int 0, .int 0, .int 0])), (q1, .inr (3, [.ref q5, .ref q6, .int 8, .int 0, .int 0])), (q5, .inl (G.2.1 2, 3008, .inr (.inl g7))), (q6, .inl (G.2.1 2, 3008, .inr (.inl g8))), (q9, .inl (G.2.1 2, 32000, .inr (.inl (fun _ => 0)))), (q10, .inl (G.2.1 0, 300, .inl (fun _ => 0))), (q11, .inl (G.2.1 0, 200, .inl (fun _ => 0)))] H := hP
  have hD : va_D A [(h0, .inr (4, [.ref h1, .ref q1, .ref q9, .ref q10, .ref q11, .int 0, .null, .null, .null, .null, .int 0, .int 0, .int 0, .int 0, .long 0, .int 0, .int 0, .int 0, .int 0])), (q1, .inr (3, [.ref q5, .ref q6, .int 8, .int 0, .int 0])), (q5, .inl (G.2.1 2, 3008, .inr (.inl g7))), (q6, .inl (G.2.1 2, 3008, .inr (.inl g8))), (q9, .inl (G.2.1 2, 32000, .inr (.inl (fun _ => 0)))), (q10, .inl (G.2.1 0, 300, .inl (fun _ => 0))), (q11, .inl (G.2.1 0, 200, .inl (fun _ => 0)))] := hD
  refine lv_aload_n hx hb dX5_init_47 rfl (lv_at hl 0 rfl) ?_
  refine lv_sipush (v := 400) hx hb dX5_init_48 (by decide) ?_
  refine pn_newa (G := G) (atype := .int) (a0 := (400, .inl (fun _ => 0))) (N' := 400) hx hb (hq _ pw_636) rfl hE.1.2.1 hP hD hS hA (fun _ => rfl) (by decide) (by decide) (by decide) (Nat.le_of_ble_eq_true rfl) (Nat.le_of_ble_eq_true rfl) dX5_init_51 (fun q12 H hP hD hS => ?_)
  have hP : va_P G.1 pCl [(h0, .inr (4, [.ref h1, .ref q1, .ref q9, .ref q10, .ref q11, .int 0, .null, .null, .null, .null, .int 0, .int 0, .int 0, .int 0, .long 0, .int 0, .int 0, .int 0, .int 0])), (q1, .inr (3, [.ref q5, .ref q6, .int 8, .int 0, .int 0])), (q5, .inl (G.2.1 2, 3008, .inr (.inl g7))), (q6, .inl (G.2.1 2, 3008, .inr (.inl g8))), (q9, .inl (G.2.1 2, 32000, .inr (.inl (fun _ => 0)))), (q10, .inl (G.2.1 0, 300, .inl (fun _ => 0))), (q11, .inl (G.2.1 0, 200, .inl (fun _ => 0))), (q12, .inl (G.2.1 0, 400, .inl (fun _ => 0)))] H := hP
  have hD : va_D A [(h0, .inr (4, [.ref h1, .ref q1, .ref q9, .ref q10, .ref q11, .int 0, .null, .null, .null, .null, .int 0, .int 0, .int 0, .int 0, .long 0, .int 0, .int 0, .int 0, .int 0])), (q1, .inr (3, [.ref q5, .ref q6, .int 8, .int 0, .int 0])), (q5, .inl (G.2.1 2, 3008, .inr (.inl g7))), (q6, .inl (G.2.1 2, 3008, .inr (.inl g8))), (q9, .inl (G.2.1 2, 32000, .inr (.inl (fun _ => 0)))), (q10, .inl (G.2.1 0, 300, .inl (fun _ => 0))), (q11, .inl (G.2.1 0, 200, .inl (fun _ => 0))), (q12, .inl (G.2.1 0, 400, .inl (fun _ => 0)))] := hD
  refine W.widen (k := 7) (n := 38921) (Nat.le_of_ble_eq_true rfl) (Nat.le_of_ble_eq_true rfl) ?_
  refine va_putF (D := G.1) (ci := 4) (v := .ref q12) (ty := (.array .int)) (C := RX5) (T := TX5) (N := 19) hx hb hq pin_wsX50 tyX5 tyX5_ok nmX5 hown hE.1.1 hP hD hS 0 rfl rfl 6 (by decide) (hq _ pw_114) (fun _ h9 => h9) rfl hin rfl (by decide +kernel) rfl rfl (Nat.le_of_ble_eq_true rfl) dX5_init_53 (fun H locs hP hD hS => ?_)
  have hP : va_P G.1 pCl [(h0, .inr (4, [.ref h1, .ref q1, .ref q9, .ref q10, .ref q11, .int 0, .ref q12, .null, .null, .null, .int 0, .int 0, .int 0, .int 0, .long 0, .int 0, .int 0, .int 0, .int 0])), (q1, .inr (3, [.ref q5, .ref q6, .int 8, .int 0, .int 0])), (q5, .inl (G.2.1 2, 3008, .inr (.inl g7))), (q6, .inl (G.2.1 2, 3008, .inr (.inl g8))), (q9, .inl (G.2.1 2, 32000, .inr (.inl (fun _ => 0)))), (q10, .inl (G.2.1 0, 300, .inl (fun _ => 0))), (q11, .inl (G.2.1 0, 200, .inl (fun _ => 0))), (q12, .inl (G.2.1 0, 400, .inl (fun _ => 0)))] H := hP
  have hD : va_D A [(h0, .inr (4, [.ref h1, .ref q1, .ref q9, .ref q10, .ref q11, .int 0, .ref q12, .null, .null, .null, .int 0, .int 0, .int 0, .int 0, .long 0, .int 0, .int 0, .int 0, .int 0])), (q1, .inr (3, [.ref q5, .ref q6, .int 8, .int 0, .int 0])), (q5, .inl (G.2.1 2, 3008, .inr (.inl g7))), (q6, .inl (G.2.1 2, 3008, .inr (.inl g8))), (q9, .inl (G.2.1 2, 32000, .inr (.inl (fun _ => 0)))), (q10, .inl (G.2.1 0, 300, .inl (fun _ => 0))), (q11, .inl (G.2.1 0, 200, .inl (fun _ => 0))), (q12, .inl (G.2.1 0, 400, .inl (fun _ => 0)))] := hD
  refine lv_aload_n hx hb dX5_init_56 rfl (lv_at hl 0 rfl) ?_
  refine lv_bipush (v := 12) hx hb dX5_init_57 (by decide) ?_
  refine pn_newa (G := G) (atype := .int) (a0 := (12, .inl (fun _ => 0))) (N' := 12) hx hb (hq _ pw_636) rfl hE.1.2.1 hP hD hS hA (fun _ => rfl) (by decide) (by decide) (by decide) (Nat.le_of_ble_eq_true rfl) (Nat.le_of_ble_eq_true rfl) dX5_init_59 (fun q13 H hP hD hS => ?_)
  have hP : va_P G.1 pCl [(h0, .inr (4, [.ref h1, .ref q1, .ref q9, .ref q10, .ref q11, .int 0, .ref q12, .null, .null, .null, .int 0, .int 0, .int 0, .int 0, .long 0, .int 0, .int 0, .int 0, .int 0])), (q1, .inr (3, [.ref q5, .ref q6, .int 8, .int 0, .int 0])), (q5, .inl (G.2.1 2, 3008, .inr (.inl g7))), (q6, .inl (G.2.1 2, 3008, .inr (.inl g8))), (q9, .inl (G.2.1 2, 32000, .inr (.inl (fun _ => 0)))), (q10, .inl (G.2.1 0, 300, .inl (fun _ => 0))), (q11, .inl (G.2.1 0, 200, .inl (fun _ => 0))), (q12, .inl (G.2.1 0, 400, .inl (fun _ => 0))), (q13, .inl (G.2.1 0, 12, .inl (fun _ => 0)))] H := hP
  have hD : va_D A [(h0, .inr (4, [.ref h1, .ref q1, .ref q9, .ref q10, .ref q11, .int 0, .ref q12, .null, .null, .null, .int 0, .int 0, .int 0, .int 0, .long 0, .int 0, .int 0, .int 0, .int 0])), (q1, .inr (3, [.ref q5, .ref q6, .int 8, .int 0, .int 0])), (q5, .inl (G.2.1 2, 3008, .inr (.inl g7))), (q6, .inl (G.2.1 2, 3008, .inr (.inl g8))), (q9, .inl (G.2.1 2, 32000, .inr (.inl (fun _ => 0)))), (q10, .inl (G.2.1 0, 300, .inl (fun _ => 0))), (q11, .inl (G.2.1 0, 200, .inl (fun _ => 0))), (q12, .inl (G.2.1 0, 400, .inl (fun _ => 0))), (q13, .inl (G.2.1 0, 12, .inl (fun _ => 0)))] := hD
  refine W.widen (k := 8) (n := 38933) (Nat.le_of_ble_eq_true rfl) (Nat.le_of_ble_eq_true rfl) ?_
  refine va_putF (D := G.1) (ci := 4) (v := .ref q13) (ty := (.array .int)) (C := RX5) (T := TX5) (N := 19) hx hb hq pin_wsX50 tyX5 tyX5_ok nmX5 hown hE.1.1 hP hD hS 0 rfl rfl 7 (by decide) (hq _ pw_115) (fun _ h9 => h9) rfl hin rfl (by decide +kernel) rfl rfl (Nat.le_of_ble_eq_true rfl) dX5_init_61 (fun H locs hP hD hS => ?_)
  have hP : va_P G.1 pCl [(h0, .inr (4, [.ref h1, .ref q1, .ref q9, .ref q10, .ref q11, .int 0, .ref q12, .ref q13, .null, .null, .int 0, .int 0, .int 0, .int 0, .long 0, .int 0, .int 0, .int 0, .int 0])), (q1, .inr (3, [.ref q5, .ref q6, .int 8, .int 0, .int 0])), (q5, .inl (G.2.1 2, 3008, .inr (.inl g7))), (q6, .inl (G.2.1 2, 3008, .inr (.inl g8))), (q9, .inl (G.2.1 2, 32000, .inr (.inl (fun _ => 0)))), (q10, .inl (G.2.1 0, 300, .inl (fun _ => 0))), (q11, .inl (G.2.1 0, 200, .inl (fun _ => 0))), (q12, .inl (G.2.1 0, 400, .inl (fun _ => 0))), (q13, .inl (G.2.1 0, 12, .inl (fun _ => 0)))] H := hP
  have hD : va_D A [(h0, .inr (4, [.ref h1, .ref q1, .ref q9, .ref q10, .ref q11, .int 0, .ref q12, .ref q13, .null, .null, .int 0, .int 0, .int 0, .int 0, .long 0, .int 0, .int 0, .int 0, .int 0])), (q1, .inr (3, [.ref q5, .ref q6, .int 8, .int 0, .int 0])), (q5, .inl (G.2.1 2, 3008, .inr (.inl g7))), (q6, .inl (G.2.1 2, 3008, .inr (.inl g8))), (q9, .inl (G.2.1 2, 32000, .inr (.inl (fun _ => 0)))), (q10, .inl (G.2.1 0, 300, .inl (fun _ => 0))), (q11, .inl (G.2.1 0, 200, .inl (fun _ => 0))), (q12, .inl (G.2.1 0, 400, .inl (fun _ => 0))), (q13, .inl (G.2.1 0, 12, .inl (fun _ => 0)))] := hD
  refine W.widen (k := 8) (n := 38933) (Nat.le_of_ble_eq_true rfl) (Nat.le_of_ble_eq_true rfl) ?_
  exact W.vret hx hb hr (fun t ht hW => ⟨⟨_, ((fun k => match k with | 0 => q1 | 1 => q5 | 2 => q6 | 3 => q9 | 4 => q10 | 5 => q11 | 6 => q12 | _ => q13), (fun _ => fun _ => 0), (fun k => match k with | 0 => g7 | _ => g8)), rfl, rfl, by rw [ht]; exact hP.sub [0, 1, 2, 3, 4, 5, 6, 7, 8] rfl, hD.sub [0, 1, 2, 3, 4, 5, 6, 7, 8] (by decide) rfl⟩, hS.F ht⟩) hS.2.2 dX5_init_64
end
section
theorem dJ0_coder_7d493_0 : decode cJ0_coder_7d493 0 = .ok (.getstatic 38, 3) := by decide +kernel
theorem dJ0_coder_7d493_3 : decode cJ0_coder_7d493 3 = .ok (.ifCond .eq 10, 3) := by decide +kernel
theorem dJ0_coder_7d493_6 : decode cJ0_coder_7d493 6 = .ok (.aload_n 0, 1) := by decide +kernel
theorem dJ0_coder_7d493_7 : decode cJ0_coder_7d493 7 = .ok (.getfield 15, 3) := by decide +kernel
theorem dJ0_coder_7d493_10 : decode cJ0_coder_7d493 10 = .ok (.goto 4, 3) := by decide +kernel
theorem dJ0_coder_7d493_14 : decode cJ0_coder_7d493 14 = .ok (.ireturn, 1) := by decide +kernel
set_option maxHeartbeats 1000000 in
set_option maxRecDepth 100000 in
/-- coder() of a constant: 0 -/
theorem c_coder (l : Launch) (G : pT) (i : Nat) (hi : i < 12) : PM l G pX0 yJ0_coder_7d493 cJ0_coder_7d493 1 (some .byte) ({ frames := 2, cells := 0, slots := 0, locals := 60 }) [.ref (G.2.2.1 i)] [] (fun (v : Option Value) (u : Unit) => v = some (.int 0)) (fun u => []) := by
  intro sz
  refine Met.ofW (cc := cJ0_coder_7d493) (maxL := 1) (ret := (some .byte)) (by decide) rfl ?_
  intro p e s m args below meth c s₁ B hml hv
  obtain ⟨rfl, hsz, hP, hD0, hE, hX⟩ := hv
  have hx := B.exec
  have hb := B.bytes
  have hr := B.returns
  have hts := atoms_spec (ws := Cond.code yJ0_coder_7d493 cJ0_coder_7d493 1 (some .byte) :: pw) B.pre
  have hq : ∀ w ∈ pw, w.before _ s = true := fun w h => hts w (List.mem_cons_of_mem _ h)
  have hown : s.vm.findClass RJ0 = some m.cls := findClass_of_methodNamed B.named
  have hlocks := B.notSynchronized
  subst hsz
  have hD := hD0.self (sz := s.heap.size)
  have hA : ∀ q : Nat, s.heap.size ≤ q → va_A [] s.heap.size q := fun q h => Or.inr h
  have hP : va_P G.1 pCl [] s.heap := hP
  generalize va_A [] s.heap.size = A at hD hE hA ⊢
  have hS : va_S A s.heap s.heap [] := va_S.rf
  have hl := lv_entry ([.ref (G.2.2.1 i)]) (n := 1) (Nat.le_of_ble_eq_true rfl)
  rw [lg_entry_eq]
  generalize (lg_sl ([.ref (G.2.2.1 i)]) ++ List.replicate (1 - (lg_sl ([.ref (G.2.2.1 i)])).length) Slot.unset).toArray = ls at hl ⊢
  have hl : lv_has ls 1 [(0, .ref (G.2.2.1 i))] := hl
  refine va_gets hx hb hE.2.2.2.1 hS hown (hq _ pw_319) (fun _ h9 => h9) dJ0_coder_7d493_0 ?_
  refine lv_if_eq (tgt := 13) hx hb dJ0_coder_7d493_3 (by decide) (fun c1 => absurd c1 (by decide)) (fun c1 => ?_)
  refine lv_aload_n hx hb dJ0_coder_7d493_6 rfl (lv_at hl 0 rfl) ?_
  refine vk_getf hx hb (hE.2.1.1 i hi).2.1 hS hown (hq _ pw_320) (fun _ h9 => h9) dJ0_coder_7d493_7 ?_
  refine lv_goto (tgt := 14) hx hb dJ0_coder_7d493_10 (by decide) ?_
  refine W.widen (k := 0) (n := 0) (Nat.le_of_ble_eq_true rfl) (Nat.le_of_ble_eq_true rfl) ?_
  exact W.zret (v := 0) hx hb hr rfl (fun t ht hW => ⟨⟨_, (), rfl, rfl, by rw [ht]; exact hP.sub [] rfl, hD.sub [] (by decide) rfl⟩, hS.F ht⟩) hS.2.2 dJ0_coder_7d493_14
theorem dJ0_isLatin1_aae02_0 : decode cJ0_isLatin1_aae02 0 = .ok (.getstatic 38, 3) := by decide +kernel
theorem dJ0_isLatin1_aae02_3 : decode cJ0_isLatin1_aae02 3 = .ok (.ifCond .eq 14, 3) := by decide +kernel
theorem dJ0_isLatin1_aae02_6 : decode cJ0_isLatin1_aae02 6 = .ok (.aload_n 0, 1) := by decide +kernel
theorem dJ0_isLatin1_aae02_7 : decode cJ0_isLatin1_aae02 7 = .ok (.getfield 15, 3) := by decide +kernel
theorem dJ0_isLatin1_aae02_10 : decode cJ0_isLatin1_aae02 10 = .ok (.ifCond .ne 7, 3) := by decide +kernel
theorem dJ0_isLatin1_aae02_13 : decode cJ0_isLatin1_aae02 13 = .ok (.iconst 1, 1) := by decide +kernel
theorem dJ0_isLatin1_aae02_14 : decode cJ0_isLatin1_aae02 14 = .ok (.goto 4, 3) := by decide +kernel
theorem dJ0_isLatin1_aae02_18 : decode cJ0_isLatin1_aae02 18 = .ok (.ireturn, 1) := by decide +kernel
set_option maxHeartbeats 1000000 in
set_option maxRecDepth 100000 in
/-- isLatin1() of a constant: true -/
theorem c_isLatin1 (l : Launch) (G : pT) (i : Nat) (hi : i < 12) : PM l G pX0 yJ0_isLatin1_aae02 cJ0_isLatin1_aae02 1 (some .boolean) ({ frames := 2, cells := 0, slots := 0, locals := 60 }) [.ref (G.2.2.1 i)] [] (fun (v : Option Value) (u : Unit) => v = some (.int 1)) (fun u => []) := by
  intro sz
  refine Met.ofW (cc := cJ0_isLatin1_aae02) (maxL := 1) (ret := (some .boolean)) (by decide) rfl ?_
  intro p e s m args below meth c s₁ B hml hv
  obtain ⟨rfl, hsz, hP, hD0, hE, hX⟩ := hv
  have hx := B.exec
  have hb := B.bytes
  have hr := B.returns
  have hts := atoms_spec (ws := Cond.code yJ0_isLatin1_aae02 cJ0_isLatin1_aae02 1 (some .boolean) :: pw) B.pre
  have hq : ∀ w ∈ pw, w.before _ s = true := fun w h => hts w (List.mem_cons_of_mem _ h)
  have hown : s.vm.findClass RJ0 = some m.cls := findClass_of_methodNamed B.named
  have hlocks := B.notSynchronized
  subst hsz
  have hD := hD0.self (sz := s.heap.size)
  have hA : ∀ q : Nat, s.heap.size ≤ q → va_A [] s.heap.size q := fun q h => Or.inr h
  have hP : va_P G.1 pCl [] s.heap := hP
  generalize va_A [] s.heap.size = A at hD hE hA ⊢
  have hS : va_S A s.heap s.heap [] := va_S.rf
  have hl := lv_entry ([.ref (G.2.2.1 i)]) (n := 1) (Nat.le_of_ble_eq_true rfl)
  rw [lg_entry_eq]
  generalize (lg_sl ([.ref (G.2.2.1 i)]) ++ List.replicate (1 - (lg_sl ([.ref (G.2.2.1 i)])).length) Slot.unset).toArray = ls at hl ⊢
  have hl : lv_has ls 1 [(0, .ref (G.2.2.1 i))] := hl
  refine va_gets hx hb hE.2.2.2.1 hS hown (hq _ pw_319) (fun _ h9 => h9) dJ0_isLatin1_aae02_0 ?_
  refine lv_if_eq (tgt := 17) hx hb dJ0_isLatin1_aae02_3 (by decide) (fun c1 => absurd c1 (by decide)) (fun c1 => ?_)
  refine lv_aload_n hx hb dJ0_isLatin1_aae02_6 rfl (lv_at hl 0 rfl) ?_
  refine vk_getf hx hb (hE.2.1.1 i hi).2.1 hS hown (hq _ pw_320) (fun _ h9 => h9) dJ0_isLatin1_aae02_7 ?_
  refine lv_if_ne (tgt := 17) hx hb dJ0_isLatin1_aae02_10 (by decide) (fun c2 => absurd c2 (by decide)) (fun c2 => ?_)
  refine lv_iconst (v := 1) hx hb dJ0_isLatin1_aae02_13 (by decide) ?_
  refine lv_goto (tgt := 18) hx hb dJ0_isLatin1_aae02_14 (by decide) ?_
  refine W.widen (k := 0) (n := 0) (Nat.le_of_ble_eq_true rfl) (Nat.le_of_ble_eq_true rfl) ?_
  exact W.zret (v := 1) hx hb hr rfl (fun t ht hW => ⟨⟨_, (), rfl, rfl, by rw [ht]; exact hP.sub [] rfl, hD.sub [] (by decide) rfl⟩, hS.F ht⟩) hS.2.2 dJ0_isLatin1_aae02_18
theorem dJ0_length_8abf5_0 : decode cJ0_length_8abf5 0 = .ok (.aload_n 0, 1) := by decide +kernel
theorem dJ0_length_8abf5_1 : decode cJ0_length_8abf5 1 = .ok (.getfield 9, 3) := by decide +kernel
theorem dJ0_length_8abf5_4 : decode cJ0_length_8abf5 4 = .ok (.arraylength, 1) := by decide +kernel
theorem dJ0_length_8abf5_5 : decode cJ0_length_8abf5 5 = .ok (.aload_n 0, 1) := by decide +kernel
theorem dJ0_length_8abf5_6 : decode cJ0_length_8abf5 6 = .ok (.invokevirtual 335, 3) := by decide +kernel
theorem dJ0_length_8abf5_9 : decode cJ0_length_8abf5 9 = .ok (.ishr, 1) := by decide +kernel
theorem dJ0_length_8abf5_10 : decode cJ0_length_8abf5 10 = .ok (.ireturn, 1) := by decide +kernel
theorem hV_J0_coder_7d493 : yJ0_coder_7d493.cls = RJ0 ∧ yJ0_coder_7d493.cls ≠ "java/lang/invoke/MethodHandle" ∧ yJ0_coder_7d493.cls ≠ "java/lang/invoke/VarHandle" ∧ (parseMethodDescriptor yJ0_coder_7d493.desc).map (fun d => d.parameters.length) = some 0 := by decide +kernel
set_option maxHeartbeats 1000000 in
set_option maxRecDepth 100000 in
/-- length() of a constant -/
theorem c_length (l : Launch) (G : pT) (i : Nat) (hi : i < 12) : PM l G pX0 yJ0_length_8abf5 cJ0_length_8abf5 1 (some .int) ({ frames := 3, cells := 0, slots := 0, locals := 80 }) [.ref (G.2.2.1 i)] [] (fun (v : Option Value) (u : Unit) => v = some (.int (nI (sLen.getD i 0)))) (fun u => []) := by
  intro sz
  refine Met.ofW (cc := cJ0_length_8abf5) (maxL := 1) (ret := (some .int)) (by decide) rfl ?_
  intro p e s m args below meth c s₁ B hml hv
  obtain ⟨rfl, hsz, hP, hD0, hE, hX⟩ := hv
  have hx := B.exec
  have hb := B.bytes
  have hr := B.returns
  have hts := atoms_spec (ws := Cond.code yJ0_length_8abf5 cJ0_length_8abf5 1 (some .int) :: pw) B.pre
  have hq : ∀ w ∈ pw, w.before _ s = true := fun w h => hts w (List.mem_cons_of_mem _ h)
  have hown : s.vm.findClass RJ0 = some m.cls := findClass_of_methodNamed B.named
  have hlocks := B.notSynchronized
  subst hsz
  have hD := hD0.self (sz := s.heap.size)
  have hA : ∀ q : Nat, s.heap.size ≤ q → va_A [] s.heap.size q := fun q h => Or.inr h
  have hP : va_P G.1 pCl [] s.heap := hP
  generalize va_A [] s.heap.size = A at hD hE hA ⊢
  have hS : va_S A s.heap s.heap [] := va_S.rf
  have hl := lv_entry ([.ref (G.2.2.1 i)]) (n := 1) (Nat.le_of_ble_eq_true rfl)
  rw [lg_entry_eq]
  generalize (lg_sl ([.ref (G.2.2.1 i)]) ++ List.replicate (1 - (lg_sl ([.ref (G.2.2.1 i)])).length) Slot.unset).toArray = ls at hl ⊢
  have hl : lv_has ls 1 [(0, .ref (G.2.2.1 i))] := hl
  refine lv_aload_n hx hb dJ0_length_8abf5_0 rfl (lv_at hl 0 rfl) ?_
  refine vk_getf hx hb (hE.2.1.1 i hi).2.2.1 hS hown (hq _ pw_317) (fun _ h9 => h9) dJ0_length_8abf5_1 ?_
  refine va_tlen (v := (nI (sLen.getD i 0))) hx hb (hE.2.1.1 i hi).2.2.2 hS rfl dJ0_length_8abf5_4 ?_
  refine lv_aload_n hx hb dJ0_length_8abf5_5 rfl (lv_at hl 0 rfl) ?_
  refine pc_VR (G := G) (As := []) (rest := [.int (nI (sLen.getD i 0))]) (wr := []) hx hb hml hown hq hE hX pX0_al hP hD hS hA hl.1 (c_coder l G i hi) (gV pw_318 pw_603 pw_604 pw_601 pw_602) hV_J0_coder_7d493 (vk_recv hE.2.1 hi hS) [] [] rfl rfl (by decide) (by decide) (by decide) rfl (Nat.le_of_ble_eq_true rfl) dJ0_length_8abf5_6 ⟨Nat.le_of_ble_eq_true rfl, Nat.le_of_ble_eq_true rfl⟩ ⟨Nat.le_of_ble_eq_true rfl, Nat.le_of_ble_eq_true rfl⟩ (fun v3 u1 H locs hw2 hP hD hS => ?_)
  obtain rfl : v3 = some (.int 0) := hw2
  have hP : va_P G.1 pCl [] H := hP
  have hD : va_D A [] := hD
  refine W.widen (k := 0) (n := 0) (Nat.le_of_ble_eq_true rfl) (Nat.le_of_ble_eq_true rfl) ?_
  refine W.eq (g2 := F0 m 9 ls [.int 0, .int (nI (sLen.getD i 0))]) rfl ?_
  refine lv_ishr hx hb dJ0_length_8abf5_9 ?_
  refine lv_topi (fun x4 e5 => ?_)
  refine W.widen (k := 0) (n := 0) (Nat.le_of_ble_eq_true rfl) (Nat.le_of_ble_eq_true rfl) ?_
  exact W.iret (v := x4) hx hb hr (fun t ht hW => ⟨⟨_, (), rfl, (by rw [e5, sc_shr0 (Nat.lt_trans (sLen_lt i hi) (by decide))]), by rw [ht]; exact hP.sub [] rfl, hD.sub [] (by decide) rfl⟩, hS.F ht⟩) hS.2.2 dJ0_length_8abf5_10
theorem dJ3_checkIndex_8e157_0 : decode cJ3_checkIndex_8e157 0 = .ok (.iload_n 0, 1) := by decide +kernel
theorem dJ3_checkIndex_8e157_1 : decode cJ3_checkIndex_8e157 1 = .ok (.ifCond .lt 8, 3) := by decide +kernel
theorem dJ3_checkIndex_8e157_4 : decode cJ3_checkIndex_8e157 4 = .ok (.iload_n 0, 1) := by decide +kernel
theorem dJ3_checkIndex_8e157_5 : decode cJ3_checkIndex_8e157 5 = .ok (.iload_n 1, 1) := by decide +kernel
theorem dJ3_checkIndex_8e157_6 : decode cJ3_checkIndex_8e157 6 = .ok (.if_icmp .lt 10, 3) := by decide +kernel
theorem dJ3_checkIndex_8e157_16 : decode cJ3_checkIndex_8e157 16 = .ok (.iload_n 0, 1) := by decide +kernel
theorem dJ3_checkIndex_8e157_17 : decode cJ3_checkIndex_8e157 17 = .ok (.ireturn, 1) := by decide +kernel
set_option maxHeartbeats 1000000 in
set_option maxRecDepth 100000 in
/-- Preconditions.checkIndex(k, n, f) within the row -/
theorem c_checkIndexN (l : Launch) (G : pT) (k : Nat) (n : Nat) (hk : k < n) (hn : n < 2000) : PM l G pX0 yJ3_checkIndex_8e157 cJ3_checkIndex_8e157 3 (some .int) ({ frames := 2, cells := 0, slots := 0, locals := 60 }) [.int (nI k), .int (nI n), .null] [] (fun (v : Option Value) (u : Unit) => v = some (.int (nI k))) (fun u => []) := by
  intro sz
  refine Met.ofW (cc := cJ3_checkIndex_8e157) (maxL := 3) (ret := (some .int)) (by decide) rfl ?_
  intro p e s m args below meth c s₁ B hml hv
  obtain ⟨rfl, hsz, hP, hD0, hE, hX⟩ := hv
  have hx := B.exec
  have hb := B.bytes
  have hr := B.returns
  have hts := atoms_spec (ws := Cond.code yJ3_checkIndex_8e157 cJ3_checkIndex_8e157 3 (some .int) :: pw) B.pre
  have hq : ∀ w ∈ pw, w.before _ s = true := fun w h => hts w (List.mem_cons_of_mem _ h)
  have hown : s.vm.findClass RJ3 = some m.cls := findClass_of_methodNamed B.named
  have hlocks := B.notSynchronized
  subst hsz
  have hD := hD0.self (sz := s.heap.size)
  have hA : ∀ q : Nat, s.heap.size ≤ q → va_A [] s.heap.size q := fun q h => Or.inr h
  have hP : va_P G.1 pCl [] s.heap := hP
  generalize va_A [] s.heap.size = A at hD hE hA ⊢
  have hS : va_S A s.heap s.heap [] := va_S.rf
  have hl := lv_entry ([.int (nI k), .int (nI n), .null]) (n := 3) (Nat.le_of_ble_eq_true rfl)
  rw [lg_entry_eq]
  generalize (lg_sl ([.int (nI k), .int (nI n), .null]) ++ List.replicate (3 - (lg_sl ([.int (nI k), .int (nI n), .null])).length) Slot.unset).toArray = ls at hl ⊢
  have hl : lv_has ls 3 [(0, .int (nI k)), (1, .int (nI n)), (2, .null)] := hl
  refine lv_iload_n hx hb dJ3_checkIndex_8e157_0 rfl (lv_at hl 0 rfl) ?_
  refine lv_if_lt (tgt := 9) hx hb dJ3_checkIndex_8e157_1 (by decide) (fun c1 => absurd c1 (nI_pos (by omega))) (fun c1 => ?_)
  refine lv_iload_n hx hb dJ3_checkIndex_8e157_4 rfl (lv_at hl 0 rfl) ?_
  refine lv_iload_n hx hb dJ3_checkIndex_8e157_5 rfl (lv_at hl 1 rfl) ?_
  refine lv_icmp_lt (tgt := 16) hx hb dJ3_checkIndex_8e157_6 (by decide) (fun c2 => ?_) (fun c2 => absurd (nI_lt hk (by omega)) c2)
  refine lv_iload_n hx hb dJ3_checkIndex_8e157_16 rfl (lv_at hl 0 rfl) ?_
  refine W.widen (k := 0) (n := 0) (Nat.le_of_ble_eq_true rfl) (Nat.le_of_ble_eq_true rfl) ?_
  exact W.iret (v := (nI k)) hx hb hr (fun t ht hW => ⟨⟨_, (), rfl, rfl, by rw [ht]; exact hP.sub [] rfl, hD.sub [] (by decide) rfl⟩, hS.F ht⟩) hS.2.2 dJ3_checkIndex_8e157_17
set_option maxHeartbeats 1000000 in
set_option maxRecDepth 100000 in
/-- Preconditions.checkIndex(k, n, f) within the row -/
theorem c_checkIndexR (l : Launch) (G : pT) (k : Nat) (n : Nat) (f : Nat) (hk : k < n) (hn : n < 2000) : PM l G pX0 yJ3_checkIndex_8e157 cJ3_checkIndex_8e157 3 (some .int) ({ frames := 2, cells := 0, slots := 0, locals := 60 }) [.int (nI k), .int (nI n), .ref f] [] (fun (v : Option Value) (u : Unit) => v = some (.int (nI k))) (fun u => []) := by
  intro sz
  refine Met.ofW (cc := cJ3_checkIndex_8e157) (maxL := 3) (ret := (some .int)) (by decide) rfl ?_
  intro p e s m args below meth c s₁ B hml hv
  obtain ⟨rfl, hsz, hP, hD0, hE, hX⟩ := hv
  have hx := B.exec
  have hb := B.bytes
  have hr := B.returns
  have hts := atoms_spec (ws := Cond.code yJ3_checkIndex_8e157 cJ3_checkIndex_8e157 3 (some .int) :: pw) B.pre
  have hq : ∀ w ∈ pw, w.before _ s = true := fun w h => hts w (List.mem_cons_of_mem _ h)
  have hown : s.vm.findClass RJ3 = some m.cls := findClass_of_methodNamed B.named
  have hlocks := B.notSynchronized
  subst hsz
  have hD := hD0.self (sz := s.heap.size)
  have hA : ∀ q : Nat, s.heap.size ≤ q → va_A [] s.heap.size q := fun q h => Or.inr h
  have hP : va_P G.1 pCl [] s.heap := hP
  generalize va_A [] s.heap.size = A at hD hE hA ⊢
  have hS : va_S A s.heap s.heap [] := va_S.rf
  have hl := lv_entry ([.int (nI k), .int (nI n), .ref f]) (n := 3) (Nat.le_of_ble_eq_true rfl)
  rw [lg_entry_eq]
  generalize (lg_sl ([.int (nI k), .int (nI n), .ref f]) ++ List.replicate (3 - (lg_sl ([.int (nI k), .int (nI n), .ref f])).length) Slot.unset).toArray = ls at hl ⊢
  have hl : lv_has ls 3 [(0, .int (nI k)), (1, .int (nI n)), (2, .ref f)] := hl
  refine lv_iload_n hx hb dJ3_checkIndex_8e157_0 rfl (lv_at hl 0 rfl) ?_
  refine lv_if_lt (tgt := 9) hx hb dJ3_checkIndex_8e157_1 (by decide) (fun c1 => absurd c1 (nI_pos (by omega))) (fun c1 => ?_)
  refine lv_iload_n hx hb dJ3_checkIndex_8e157_4 rfl (lv_at hl 0 rfl) ?_
  refine lv_iload_n hx hb dJ3_checkIndex_8e157_5 rfl (lv_at hl 1 rfl) ?_
  refine lv_icmp_lt (tgt := 16) hx hb dJ3_checkIndex_8e157_6 (by decide) (fun c2 => ?_) (fun c2 => absurd (nI_lt hk (by omega)) c2)
  refine lv_iload_n hx hb dJ3_checkIndex_8e157_16 rfl (lv_at hl 0 rfl) ?_
  refine W.widen (k := 0) (n := 0) (Nat.le_of_ble_eq_true rfl) (Nat.le_of_ble_eq_true rfl) ?_
  exact W.iret (v := (nI k)) hx hb hr (fun t ht hW => ⟨⟨_, (), rfl, rfl, by rw [ht]; exact hP.sub [] rfl, hD.sub [] (by decide) rfl⟩, hS.F ht⟩) hS.2.2 dJ3_checkIndex_8e157_17
theorem dJ0_checkIndex_df160_0 : decode cJ0_checkIndex_df160 0 = .ok (.iload_n 0, 1) := by decide +kernel
theorem dJ0_checkIndex_df160_1 : decode cJ0_checkIndex_df160 1 = .ok (.iload_n 1, 1) := by decide +kernel
theorem dJ0_checkIndex_df160_2 : decode cJ0_checkIndex_df160 2 = .ok (.getstatic 1053, 3) := by decide +kernel
theorem dJ0_checkIndex_df160_5 : decode cJ0_checkIndex_df160 5 = .ok (.invokestatic 1059, 3) := by decide +kernel
theorem dJ0_checkIndex_df160_8 : decode cJ0_checkIndex_df160 8 = .ok (.pop, 1) := by decide +kernel
theorem dJ0_checkIndex_df160_9 : decode cJ0_checkIndex_df160 9 = .ok (.return_, 1) := by decide +kernel
theorem hS_J3_checkIndex_8e157 : yJ3_checkIndex_8e157.cls ≠ "java/lang/invoke/MethodHandle" ∧ yJ3_checkIndex_8e157.cls ≠ "java/lang/invoke/VarHandle" ∧ (parseMethodDescriptor yJ3_checkIndex_8e157.desc).map (fun d => d.parameters.length) = some 3 := by decide +kernel
set_option maxHeartbeats 1000000 in
set_option maxRecDepth 100000 in
/-- String.checkIndex(k, n) within the row -/
theorem c_checkIndex (l : Launch) (G : pT) (k : Nat) (n : Nat) (hk : k < n) (hn : n < 2000) : PM l G pX0 yJ0_checkIndex_df160 cJ0_checkIndex_df160 2 none ({ frames := 3, cells := 0, slots := 0, locals := 82 }) [.int (nI k), .int (nI n)] [] (fun (v : Option Value) (u : Unit) => v = none) (fun u => []) := by
  intro sz
  refine Met.ofW (cc := cJ0_checkIndex_df160) (maxL := 2) (ret := none) (by decide) rfl ?_
  intro p e s m args below meth c s₁ B hml hv
  obtain ⟨rfl, hsz, hP, hD0, hE, hX⟩ := hv
  have hx := B.exec
  have hb := B.bytes
  have hr := B.returns
  have hts := atoms_spec (ws := Cond.code yJ0_checkIndex_df160 cJ0_checkIndex_df160 2 none :: pw) B.pre
  have hq : ∀ w ∈ pw, w.before _ s = true := fun w h => hts w (List.mem_cons_of_mem _ h)
  have hown : s.vm.findClass RJ0 = some m.cls := findClass_of_methodNamed B.named
  have hlocks := B.notSynchronized
  subst hsz
  have hD := hD0.self (sz := s.heap.size)
  have hA : ∀ q : Nat, s.heap.size ≤ q → va_A [] s.heap.size q := fun q h => Or.inr h
  have hP : va_P G.1 pCl [] s.heap := hP
  generalize va_A [] s.heap.size = A at hD hE hA ⊢
  have hS : va_S A s.heap s.heap [] := va_S.rf
  have hl := lv_entry ([.int (nI k), .int (nI n)]) (n := 2) (Nat.le_of_ble_eq_true rfl)
  rw [lg_entry_eq]
  generalize (lg_sl ([.int (nI k), .int (nI n)]) ++ List.replicate (2 - (lg_sl ([.int (nI k), .int (nI n)])).length) Slot.unset).toArray = ls at hl ⊢
  have hl : lv_has ls 2 [(0, .int (nI k)), (1, .int (nI n))] := hl
  refine lv_iload_n hx hb dJ0_checkIndex_df160_0 rfl (lv_at hl 0 rfl) ?_
  refine lv_iload_n hx hb dJ0_checkIndex_df160_1 rfl (lv_at hl 1 rfl) ?_
  rcases hE.2.2.2.2.1 with hZ | ⟨tz, hZ⟩
  · refine va_gets hx hb hZ hS hown (hq _ pw_323) (fun _ h9 => h9) dJ0_checkIndex_df160_2 ?_
    refine pc_S (G := G) (As := [.int (nI k), .int (nI n), .null]) (rest := []) (wr := []) hx hb hml hown hq hE hX pX0_al hP hD hS hA hl.1 (c_checkIndexN l G k n hk hn) (gS pw_324 pw_617 pw_618 pw_616) hS_J3_checkIndex_8e157 [] [] rfl rfl (by decide) (by decide) (by decide) rfl (Nat.le_of_ble_eq_true rfl) dJ0_checkIndex_df160_5 ⟨Nat.le_of_ble_eq_true rfl, Nat.le_of_ble_eq_true rfl⟩ ⟨Nat.le_of_ble_eq_true rfl, Nat.le_of_ble_eq_true rfl⟩ (fun v3 u1 H locs hw2 hP hD hS => ?_)
    obtain rfl : v3 = some (.int (nI k)) := hw2
    have hP : va_P G.1 pCl [] H := hP
    have hD : va_D A [] := hD
    refine W.widen (k := 0) (n := 0) (Nat.le_of_ble_eq_true rfl) (Nat.le_of_ble_eq_true rfl) ?_
    refine W.eq (g2 := F0 m 8 ls [.int (nI k)]) rfl ?_
    refine lv_pop hx hb dJ0_checkIndex_df160_8 rfl ?_
    refine W.widen (k := 0) (n := 0) (Nat.le_of_ble_eq_true rfl) (Nat.le_of_ble_eq_true rfl) ?_
    exact W.vret hx hb hr (fun t ht hW => ⟨⟨_, (), rfl, rfl, by rw [ht]; exact hP.sub [] rfl, hD.sub [] (by decide) rfl⟩, hS.F ht⟩) hS.2.2 dJ0_checkIndex_df160_9
  · refine va_gets hx hb hZ hS hown (hq _ pw_323) (fun _ h9 => h9) dJ0_checkIndex_df160_2 ?_
    refine pc_S (G := G) (As := [.int (nI k), .int (nI n), .ref tz]) (rest := []) (wr := []) hx hb hml hown hq hE hX pX0_al hP hD hS hA hl.1 (c_checkIndexR l G k n tz hk hn) (gS pw_324 pw_617 pw_618 pw_616) hS_J3_checkIndex_8e157 [] [] rfl rfl (by decide) (by decide) (by decide) rfl (Nat.le_of_ble_eq_true rfl) dJ0_checkIndex_df160_5 ⟨Nat.le_of_ble_eq_true rfl, Nat.le_of_ble_eq_true rfl⟩ ⟨Nat.le_of_ble_eq_true rfl, Nat.le_of_ble_eq_true rfl⟩ (fun v6 u4 H locs hw5 hP hD hS => ?_)
    obtain rfl : v6 = some (.int (nI k)) := hw5
    have hP : va_P G.1 pCl [] H := hP
    have hD : va_D A [] := hD
    refine W.widen (k := 0) (n := 0) (Nat.le_of_ble_eq_true rfl) (Nat.le_of_ble_eq_true rfl) ?_
    refine W.eq (g2 := F0 m 8 ls [.int (nI k)]) rfl ?_
    refine lv_pop hx hb dJ0_checkIndex_df160_8 rfl ?_
    refine W.widen (k := 0) (n := 0) (Nat.le_of_ble_eq_true rfl) (Nat.le_of_ble_eq_true rfl) ?_
    exact W.vret hx hb hr (fun t ht hW => ⟨⟨_, (), rfl, rfl, by rw [ht]; exact hP.sub [] rfl, hD.sub [] (by decide) rfl⟩, hS.F ht⟩) hS.2.2 dJ0_checkIndex_df160_9
theorem dJ1_charAt_3b067_0 : decode cJ1_charAt_3b067 0 = .ok (.iload_n 1, 1) := by decide +kernel
theorem dJ1_charAt_3b067_1 : decode cJ1_charAt_3b067 1 = .ok (.aload_n 0, 1) := by decide +kernel
theorem dJ1_charAt_3b067_2 : decode cJ1_charAt_3b067 2 = .ok (.arraylength, 1) := by decide +kernel
theorem dJ1_charAt_3b067_3 : decode cJ1_charAt_3b067 3 = .ok (.invokestatic 9, 3) := by decide +kernel
theorem dJ1_charAt_3b067_6 : decode cJ1_charAt_3b067 6 = .ok (.aload_n 0, 1) := by decide +kernel
theorem dJ1_charAt_3b067_7 : decode cJ1_charAt_3b067 7 = .ok (.iload_n 1, 1) := by decide +kernel
theorem dJ1_charAt_3b067_8 : decode cJ1_charAt_3b067 8 = .ok (.baload, 1) := by decide +kernel
theorem dJ1_charAt_3b067_9 : decode cJ1_charAt_3b067 9 = .ok (.sipush 255, 3) := by decide +kernel
theorem dJ1_charAt_3b067_12 : decode cJ1_charAt_3b067 12 = .ok (.iand, 1) := by decide +kernel
theorem dJ1_charAt_3b067_13 : decode cJ1_charAt_3b067 13 = .ok (.i2c, 1) := by decide +kernel
theorem dJ1_charAt_3b067_14 : decode cJ1_charAt_3b067 14 = .ok (.ireturn, 1) := by decide +kernel
theorem hS_J0_checkIndex_df160 : yJ0_checkIndex_df160.cls ≠ "java/lang/invoke/MethodHandle" ∧ yJ0_checkIndex_df160.cls ≠ "java/lang/invoke/VarHandle" ∧ (parseMethodDescriptor yJ0_checkIndex_df160.desc).map (fun d => d.parameters.length) = some 2 := by decide +kernel
set_option maxHeartbeats 1000000 in
set_option maxRecDepth 100000 in
/-- StringLatin1.charAt of a constant's row: some char -/
theorem c_charAt1 (l : Launch) (G : pT) (i : Nat) (k : Nat) (hi : i < 12) (hk : k < sLen.getD i 0) : PM l G pX0 yJ1_charAt_3b067 cJ1_charAt_3b067 2 (some .char) ({ frames := 4, cells := 0, slots := 0, locals := 103 }) [.ref (G.2.2.2.1 i), .int (nI k)] [] (fun (v : Option Value) (u : Unit) => ∃ r : Int32, v = some (.int r) ∧ narrow .char (.int r) = .int r) (fun u => []) := by
  intro sz
  refine Met.ofW (cc := cJ1_charAt_3b067) (maxL := 2) (ret := (some .char)) (by decide) rfl ?_
  intro p e s m args below meth c s₁ B hml hv
  obtain ⟨rfl, hsz, hP, hD0, hE, hX⟩ := hv
  have hx := B.exec
  have hb := B.bytes
  have hr := B.returns
  have hts := atoms_spec (ws := Cond.code yJ1_charAt_3b067 cJ1_charAt_3b067 2 (some .char) :: pw) B.pre
  have hq : ∀ w ∈ pw, w.before _ s = true := fun w h => hts w (List.mem_cons_of_mem _ h)
  have hown : s.vm.findClass RJ1 = some m.cls := findClass_of_methodNamed B.named
  have hlocks := B.notSynchronized
  subst hsz
  have hD := hD0.self (sz := s.heap.size)
  have hA : ∀ q : Nat, s.heap.size ≤ q → va_A [] s.heap.size q := fun q h => Or.inr h
  have hP : va_P G.1 pCl [] s.heap := hP
  generalize va_A [] s.heap.size = A at hD hE hA ⊢
  have hS : va_S A s.heap s.heap [] := va_S.rf
  have hl := lv_entry ([.ref (G.2.2.2.1 i), .int (nI k)]) (n := 2) (Nat.le_of_ble_eq_true rfl)
  rw [lg_entry_eq]
  generalize (lg_sl ([.ref (G.2.2.2.1 i), .int (nI k)]) ++ List.replicate (2 - (lg_sl ([.ref (G.2.2.2.1 i), .int (nI k)])).length) Slot.unset).toArray = ls at hl ⊢
  have hl : lv_has ls 2 [(0, .ref (G.2.2.2.1 i)), (1, .int (nI k))] := hl
  refine lv_iload_n hx hb dJ1_charAt_3b067_0 rfl (lv_at hl 1 rfl) ?_
  refine lv_aload_n hx hb dJ1_charAt_3b067_1 rfl (lv_at hl 0 rfl) ?_
  refine va_tlen (v := (nI (sLen.getD i 0))) hx hb (hE.2.1.1 i hi).2.2.2 hS rfl dJ1_charAt_3b067_2 ?_
  refine pc_S (G := G) (As := [.int (nI k), .int (nI (sLen.getD i 0))]) (rest := []) (wr := []) hx hb hml hown hq hE hX pX0_al hP hD hS hA hl.1 (c_checkIndex l G k ((sLen.getD i 0)) hk (sLen_lt i hi)) (gS pw_325 pw_612 pw_601 pw_611) hS_J0_checkIndex_df160 [] [] rfl rfl (by decide) (by decide) (by decide) rfl (Nat.le_of_ble_eq_true rfl) dJ1_charAt_3b067_3 ⟨Nat.le_of_ble_eq_true rfl, Nat.le_of_ble_eq_true rfl⟩ ⟨Nat.le_of_ble_eq_true rfl, Nat.le_of_ble_eq_true rfl⟩ (fun v3 u1 H locs hw2 hP hD hS => ?_)
  obtain rfl : v3 = none := hw2
  have hP : va_P G.1 pCl [] H := hP
  have hD : va_D A [] := hD
  refine W.widen (k := 0) (n := 0) (Nat.le_of_ble_eq_true rfl) (Nat.le_of_ble_eq_true rfl) ?_
  refine W.eq (g2 := F0 m 6 ls []) rfl ?_
  refine lv_aload_n hx hb dJ1_charAt_3b067_6 rfl (lv_at hl 0 rfl) ?_
  refine lv_iload_n hx hb dJ1_charAt_3b067_7 rfl (lv_at hl 1 rfl) ?_
  refine va_tb (v := .int ((sByt.getD i []).getD (Int32.toNatClampNeg (nI k)) 0)) hx hb (hE.2.1.1 i hi).2.2.2 hS (vp_in_nI hk (Nat.lt_trans (sLen_lt i hi) (by decide))) rfl dJ1_charAt_3b067_8 ?_
  refine lv_topi (fun x4 e5 => ?_)
  refine lv_sipush (v := 255) hx hb dJ1_charAt_3b067_9 (by decide) ?_
  refine lv_iand hx hb dJ1_charAt_3b067_12 ?_
  refine lv_topi (fun x6 e7 => ?_)
  refine lv_i2c hx hb dJ1_charAt_3b067_13 rfl ?_
  refine lv_topi (fun x8 e9 => ?_)
  refine W.widen (k := 0) (n := 0) (Nat.le_of_ble_eq_true rfl) (Nat.le_of_ble_eq_true rfl) ?_
  exact W.zret (v := x8) hx hb hr (by rw [e9]; exact pk_nc _) (fun t ht hW => ⟨⟨_, (), rfl, ⟨_, rfl, by rw [e9]; exact pk_nc _⟩, by rw [ht]; exact hP.sub [] rfl, hD.sub [] (by decide) rfl⟩, hS.F ht⟩) hS.2.2 dJ1_charAt_3b067_14
theorem dJ0_charAt_5068e_0 : decode cJ0_charAt_5068e 0 = .ok (.aload_n 0, 1) := by decide +kernel
theorem dJ0_charAt_5068e_1 : decode cJ0_charAt_5068e 1 = .ok (.invokevirtual 492, 3) := by decide +kernel
theorem dJ0_charAt_5068e_4 : decode cJ0_charAt_5068e 4 = .ok (.ifCond .eq 12, 3) := by decide +kernel
theorem dJ0_charAt_5068e_7 : decode cJ0_charAt_5068e 7 = .ok (.aload_n 0, 1) := by decide +kernel
theorem dJ0_charAt_5068e_8 : decode cJ0_charAt_5068e 8 = .ok (.getfield 9, 3) := by decide +kernel
theorem dJ0_charAt_5068e_11 : decode cJ0_charAt_5068e 11 = .ok (.iload_n 1, 1) := by decide +kernel
theorem dJ0_charAt_5068e_12 : decode cJ0_charAt_5068e 12 = .ok (.invokestatic 495, 3) := by decide +kernel
theorem dJ0_charAt_5068e_15 : decode cJ0_charAt_5068e 15 = .ok (.ireturn, 1) := by decide +kernel
theorem hV_J0_isLatin1_aae02 : yJ0_isLatin1_aae02.cls = RJ0 ∧ yJ0_isLatin1_aae02.cls ≠ "java/lang/invoke/MethodHandle" ∧ yJ0_isLatin1_aae02.cls ≠ "java/lang/invoke/VarHandle" ∧ (parseMethodDescriptor yJ0_isLatin1_aae02.desc).map (fun d => d.parameters.length) = some 0 := by decide +kernel
theorem hS_J1_charAt_3b067 : yJ1_charAt_3b067.cls ≠ "java/lang/invoke/MethodHandle" ∧ yJ1_charAt_3b067.cls ≠ "java/lang/invoke/VarHandle" ∧ (parseMethodDescriptor yJ1_charAt_3b067.desc).map (fun d => d.parameters.length) = some 2 := by decide +kernel
set_option maxHeartbeats 1000000 in
set_option maxRecDepth 100000 in
/-- charAt(k) of a constant: some char -/
theorem c_charAt (l : Launch) (G : pT) (i : Nat) (k : Nat) (hi : i < 12) (hk : k < sLen.getD i 0) : PM l G pX0 yJ0_charAt_5068e cJ0_charAt_5068e 2 (some .char) ({ frames := 5, cells := 0, slots := 0, locals := 124 }) [.ref (G.2.2.1 i), .int (nI k)] [] (fun (v : Option Value) (u : Unit) => ∃ r : Int32, v = some (.int r) ∧ narrow .char (.int r) = .int r) (fun u => []) := by
  intro sz
  refine Met.ofW (cc := cJ0_charAt_5068e) (maxL := 2) (ret := (some .char)) (by decide) rfl ?_
  intro p e s m args below meth c s₁ B hml hv
  obtain ⟨rfl, hsz, hP, hD0, hE, hX⟩ := hv
  have hx := B.exec
  have hb := B.bytes
  have hr := B.returns
  have hts := atoms_spec (ws := Cond.code yJ0_charAt_5068e cJ0_charAt_5068e 2 (some .char) :: pw) B.pre
  have hq : ∀ w ∈ pw, w.before _ s = true := fun w h => hts w (List.mem_cons_of_mem _ h)
  have hown : s.vm.findClass RJ0 = some m.cls := findClass_of_methodNamed B.named
  have hlocks := B.notSynchronized
  subst hsz
  have hD := hD0.self (sz := s.heap.size)
  have hA : ∀ q : Nat, s.heap.size ≤ q → va_A [] s.heap.size q := fun q h => Or.inr h
  have hP : va_P G.1 pCl [] s.heap := hP
  generalize va_A [] s.heap.size = A at hD hE hA ⊢
  have hS : va_S A s.heap s.heap [] := va_S.rf
  have hl := lv_entry ([.ref (G.2.2.1 i), .int (nI k)]) (n := 2) (Nat.le_of_ble_eq_true rfl)
  rw [lg_entry_eq]
  generalize (lg_sl ([.ref (G.2.2.1 i), .int (nI k)]) ++ List.replicate (2 - (lg_sl ([.ref (G.2.2.1 i), .int (nI k)])).length) Slot.unset).toArray = ls at hl ⊢
  have hl : lv_has ls 2 [(0, .ref (G.2.2.1 i)), (1, .int (nI k))] := hl
  refine lv_aload_n hx hb dJ0_charAt_5068e_0 rfl (lv_at hl 0 rfl) ?_
  refine pc_VR (G := G) (As := []) (rest := []) (wr := []) hx hb hml hown hq hE hX pX0_al hP hD hS hA hl.1 (c_isLatin1 l G i hi) (gV pw_321 pw_609 pw_610 pw_601 pw_608) hV_J0_isLatin1_aae02 (vk_recv hE.2.1 hi hS) [] [] rfl rfl (by decide) (by decide) (by decide) rfl (Nat.le_of_ble_eq_true rfl) dJ0_charAt_5068e_1 ⟨Nat.le_of_ble_eq_true rfl, Nat.le_of_ble_eq_true rfl⟩ ⟨Nat.le_of_ble_eq_true rfl, Nat.le_of_ble_eq_true rfl⟩ (fun v3 u1 H locs hw2 hP hD hS => ?_)
  obtain rfl : v3 = some (.int 1) := hw2
  have hP : va_P G.1 pCl [] H := hP
  have hD : va_D A [] := hD
  refine W.widen (k := 0) (n := 0) (Nat.le_of_ble_eq_true rfl) (Nat.le_of_ble_eq_true rfl) ?_
  refine W.eq (g2 := F0 m 4 ls [.int 1]) rfl ?_
  refine lv_if_eq (tgt := 16) hx hb dJ0_charAt_5068e_4 (by decide) (fun c4 => absurd c4 (by decide)) (fun c4 => ?_)
  refine lv_aload_n hx hb dJ0_charAt_5068e_7 rfl (lv_at hl 0 rfl) ?_
  refine vk_getf hx hb (hE.2.1.1 i hi).2.2.1 hS hown (hq _ pw_317) (fun _ h9 => h9) dJ0_charAt_5068e_8 ?_
  refine lv_iload_n hx hb dJ0_charAt_5068e_11 rfl (lv_at hl 1 rfl) ?_
  refine pc_S (G := G) (As := [.ref (G.2.2.2.1 i), .int (nI k)]) (rest := []) (wr := []) hx hb hml hown hq hE hX pX0_al hP hD hS hA hl.1 (c_charAt1 l G i k hi hk) (gS pw_322 pw_614 pw_615 pw_613) hS_J1_charAt_3b067 [] [] rfl rfl (by decide) (by decide) (by decide) rfl (Nat.le_of_ble_eq_true rfl) dJ0_charAt_5068e_12 ⟨Nat.le_of_ble_eq_true rfl, Nat.le_of_ble_eq_true rfl⟩ ⟨Nat.le_of_ble_eq_true rfl, Nat.le_of_ble_eq_true rfl⟩ (fun v7 u5 H locs hw6 hP hD hS => ?_)
  obtain ⟨x8, rfl, hc9⟩ := hw6
  have hP : va_P G.1 pCl [] H := hP
  have hD : va_D A [] := hD
  refine W.widen (k := 0) (n := 0) (Nat.le_of_ble_eq_true rfl) (Nat.le_of_ble_eq_true rfl) ?_
  refine W.eq (g2 := F0 m 15 ls [.int x8]) rfl ?_
  refine W.widen (k := 0) (n := 0) (Nat.le_of_ble_eq_true rfl) (Nat.le_of_ble_eq_true rfl) ?_
  exact W.zret (v := x8) hx hb hr hc9 (fun t ht hW => ⟨⟨_, (), rfl, ⟨_, rfl, hc9⟩, by rw [ht]; exact hP.sub [] rfl, hD.sub [] (by decide) rfl⟩, hS.F ht⟩) hS.2.2 dJ0_charAt_5068e_15
theorem dX10_spell_0 : decode cX10_spell 0 = .ok (.iconst 0, 1) := by decide +kernel
theorem dX10_spell_1 : decode cX10_spell 1 = .ok (.istore_n 3, 1) := by decide +kernel
theorem dX10_spell_2 : decode cX10_spell 2 = .ok (.iload_n 3, 1) := by decide +kernel
theorem dX10_spell_3 : decode cX10_spell 3 = .ok (.aload_n 1, 1) := by decide +kernel
theorem dX10_spell_4 : decode cX10_spell 4 = .ok (.invokevirtual 17, 3) := by decide +kernel
theorem dX10_spell_7 : decode cX10_spell 7 = .ok (.if_icmp .ge 34, 3) := by decide +kernel
theorem dX10_spell_41 : decode cX10_spell 41 = .ok (.return_, 1) := by decide +kernel
theorem dX10_spell_10 : decode cX10_spell 10 = .ok (.iload_n 2, 1) := by decide +kernel
theorem dX10_spell_11 : decode cX10_spell 11 = .ok (.iload_n 3, 1) := by decide +kernel
theorem dX10_spell_12 : decode cX10_spell 12 = .ok (.iadd, 1) := by decide +kernel
theorem dX10_spell_13 : decode cX10_spell 13 = .ok (.aload_n 0, 1) := by decide +kernel
theorem dX10_spell_14 : decode cX10_spell 14 = .ok (.getfield 27, 3) := by decide +kernel
theorem dX10_spell_17 : decode cX10_spell 17 = .ok (.arraylength, 1) := by decide +kernel
theorem dX10_spell_18 : decode cX10_spell 18 = .ok (.if_icmp .ge 17, 3) := by decide +kernel
theorem dX10_spell_21 : decode cX10_spell 21 = .ok (.aload_n 0, 1) := by decide +kernel
theorem dX10_spell_22 : decode cX10_spell 22 = .ok (.getfield 27, 3) := by decide +kernel
theorem dX10_spell_25 : decode cX10_spell 25 = .ok (.iload_n 2, 1) := by decide +kernel
theorem dX10_spell_26 : decode cX10_spell 26 = .ok (.iload_n 3, 1) := by decide +kernel
theorem dX10_spell_27 : decode cX10_spell 27 = .ok (.iadd, 1) := by decide +kernel
theorem dX10_spell_28 : decode cX10_spell 28 = .ok (.aload_n 1, 1) := by decide +kernel
theorem dX10_spell_29 : decode cX10_spell 29 = .ok (.iload_n 3, 1) := by decide +kernel
theorem dX10_spell_30 : decode cX10_spell 30 = .ok (.invokevirtual 63, 3) := by decide +kernel
theorem dX10_spell_33 : decode cX10_spell 33 = .ok (.i2b, 1) := by decide +kernel
theorem dX10_spell_34 : decode cX10_spell 34 = .ok (.bastore, 1) := by decide +kernel
theorem dX10_spell_35 : decode cX10_spell 35 = .ok (.iinc 3 1, 3) := by decide +kernel
theorem dX10_spell_38 : decode cX10_spell 38 = .ok (.goto (-36), 3) := by decide +kernel
theorem hV_J0_length_8abf5 : yJ0_length_8abf5.cls = RJ0 ∧ yJ0_length_8abf5.cls ≠ "java/lang/invoke/MethodHandle" ∧ yJ0_length_8abf5.cls ≠ "java/lang/invoke/VarHandle" ∧ (parseMethodDescriptor yJ0_length_8abf5.desc).map (fun d => d.parameters.length) = some 0 := by decide +kernel
theorem hV_J0_charAt_5068e : yJ0_charAt_5068e.cls = RJ0 ∧ yJ0_charAt_5068e.cls ≠ "java/lang/invoke/MethodHandle" ∧ yJ0_charAt_5068e.cls ≠ "java/lang/invoke/VarHandle" ∧ (parseMethodDescriptor yJ0_charAt_5068e.desc).map (fun d => d.parameters.length) = some 1 := by decide +kernel
set_option maxHeartbeats 1000000 in
set_option maxRecDepth 100000 in
/-- spell(words, start) -/
theorem c_spell (l : Launch) (G : pT) (h0 : Nat) (b : Nat) (f : Nat → Int32) (i : Nat) (st : Nat) (hi : i < 12) (hst : st + sLen.getD i 0 ≤ 5220) : PM l G pX0 yX10_spell cX10_spell 4 none ({ frames := 6, cells := 0, slots := 0, locals := 145 }) [.ref h0, .ref (G.2.2.1 i), .int (nI st)] [(h0, .inr (7, [.ref b, .int 220, .int 0, .null, .null, .null, .null, .null, .int 0, .null, .null, .null, .null, .int 0, .int 0])), (b, .inl (G.2.1 1, 5220, .inl f))] (fun (v : Option Value) (u : Nat → Int32) => v = none) (fun u => [(h0, .inr (7, [.ref b, .int 220, .int 0, .null, .null, .null, .null, .null, .int 0, .null, .null, .null, .null, .int 0, .int 0])), (b, .inl (G.2.1 1, 5220, .inl u))]) := by
  intro sz
  refine Met.ofW (cc := cX10_spell) (maxL := 4) (ret := none) (by decide) rfl ?_
  intro p e s m args below meth c s₁ B hml hv
  obtain ⟨rfl, hsz, hP, hD0, hE, hX⟩ := hv
  have hx := B.exec
  have hb := B.bytes
  have hr := B.returns
  have hts := atoms_spec (ws := Cond.code yX10_spell cX10_spell 4 none :: pw) B.pre
  have hq : ∀ w ∈ pw, w.before _ s = true := fun w h => hts w (List.mem_cons_of_mem _ h)
  have hown : s.vm.findClass RX10 = some m.cls := findClass_of_methodNamed B.named
  have hlocks := B.notSynchronized
  subst hsz
  have hD := hD0.self (sz := s.heap.size)
  have hA : ∀ q : Nat, s.heap.size ≤ q → va_A [(h0, .inr (7, [.ref b, .int 220, .int 0, .null, .null, .null, .null, .null, .int 0, .null, .null, .null, .null, .int 0, .int 0])), (b, .inl (G.2.1 1, 5220, .inl f))] s.heap.size q := fun q h => Or.inr h
  have hP : va_P G.1 pCl [(h0, .inr (7, [.ref b, .int 220, .int 0, .null, .null, .null, .null, .null, .int 0, .null, .null, .null, .null, .int 0, .int 0])), (b, .inl (G.2.1 1, 5220, .inl f))] s.heap := hP
  generalize va_A [(h0, .inr (7, [.ref b, .int 220, .int 0, .null, .null, .null, .null, .null, .int 0, .null, .null, .null, .null, .int 0, .int 0])), (b, .inl (G.2.1 1, 5220, .inl f))] s.heap.size = A at hD hE hA ⊢
  have hS : va_S A s.heap s.heap [] := va_S.rf
  have hl := lv_entry ([.ref h0, .ref (G.2.2.1 i), .int (nI st)]) (n := 4) (Nat.le_of_ble_eq_true rfl)
  rw [lg_entry_eq]
  generalize (lg_sl ([.ref h0, .ref (G.2.2.1 i), .int (nI st)]) ++ List.replicate (4 - (lg_sl ([.ref h0, .ref (G.2.2.1 i), .int (nI st)])).length) Slot.unset).toArray = ls at hl ⊢
  have hl : lv_has ls 4 [(0, .ref h0), (1, .ref (G.2.2.1 i)), (2, .int (nI st))] := hl
  refine lv_iconst (v := 0) hx hb dX10_spell_0 (by decide) ?_
  refine lv_istore_n (lv' := [(3, .int 0), (0, .ref h0), (1, .ref (G.2.2.1 i)), (2, .int (nI st))]) hx hb dX10_spell_1 rfl hl (by decide) rfl (fun ls hl => ?_)
  have loop : ∀ (n k : Nat) (f1 : Nat → Int32) (H : Heap) (locs : List Loc) (ls : Array Slot), k ≤ sLen.getD i 0 → sLen.getD i 0 + 1 ≤ k + n → va_P G.1 pCl [(h0, .inr (7, [.ref b, .int 220, .int 0, .null, .null, .null, .null, .null, .int 0, .null, .null, .null, .null, .int 0, .int 0])), (b, .inl (G.2.1 1, 5220, .inl f1))] H → va_D A [(h0, .inr (7, [.ref b, .int 220, .int 0, .null, .null, .null, .null, .null, .int 0, .null, .null, .null, .null, .int 0, .int 0])), (b, .inl (G.2.1 1, 5220, .inl f1))] → va_S A s.heap H locs → lv_has ls 4 [(3, .int (nI k)), (0, .ref h0), (1, .ref (G.2.2.1 i)), (2, .int (nI st))] → W p l e (headSpec (Cond.code yX10_spell cX10_spell 4 none :: pw) ({ frames := 6, cells := 0, slots := 0, locals := 145 } : Room)).room s m ([.ref h0, .ref (G.2.2.1 i), .int (nI st)] : List Value).toArray below meth c H locs 0 0 (MQ below (pQ G A (fun (v : Option Value) (u : Nat → Int32) => v = none) (fun u => [(h0, .inr (7, [.ref b, .int 220, .int 0, .null, .null, .null, .null, .null, .int 0, .null, .null, .null, .null, .int 0, .int 0])), (b, .inl (G.2.1 1, 5220, .inl u))])) ([.ref h0, .ref (G.2.2.1 i), .int (nI st)] : List Value).toArray s ({ frames := 6, cells := 0, slots := 0, locals := 145 } : Room).cells ({ frames := 6, cells := 0, slots := 0, locals := 145 } : Room).slots A) (F0 m 2 ls []) := by
    intro n
    induction n with
    | zero => intro k f1 H locs ls hk hn; omega
    | succ n ih =>
      intro k f1 H locs ls hk hn hP hD hS hl
      refine lv_iload_n hx hb dX10_spell_2 rfl (lv_at hl 0 rfl) ?_
      refine lv_aload_n hx hb dX10_spell_3 rfl (lv_at hl 2 rfl) ?_
      refine pc_VR (G := G) (As := []) (rest := [.int (nI k)]) (wr := [(h0, .inr (7, [.ref b, .int 220, .int 0, .null, .null, .null, .null, .null, .int 0, .null, .null, .null, .null, .int 0, .int 0])), (b, .inl (G.2.1 1, 5220, .inl f1))]) hx hb hml hown hq hE hX pX0_al hP hD hS hA hl.1 (c_length l G i hi) (gV pw_52 pw_599 pw_600 pw_601 pw_598) hV_J0_length_8abf5 (vk_recv hE.2.1 hi hS) [] [0, 1] rfl rfl (by decide) (by decide) (by decide) rfl (Nat.le_of_ble_eq_true rfl) dX10_spell_4 ⟨Nat.le_of_ble_eq_true rfl, Nat.le_of_ble_eq_true rfl⟩ ⟨Nat.le_of_ble_eq_true rfl, Nat.le_of_ble_eq_true rfl⟩ (fun v4 u2 H locs hw3 hP hD hS => ?_)
      obtain rfl : v4 = some (.int (nI (sLen.getD i 0))) := hw3
      have hP : va_P G.1 pCl [(h0, .inr (7, [.ref b, .int 220, .int 0, .null, .null, .null, .null, .null, .int 0, .null, .null, .null, .null, .int 0, .int 0])), (b, .inl (G.2.1 1, 5220, .inl f1))] H := hP
      have hD : va_D A [(h0, .inr (7, [.ref b, .int 220, .int 0, .null, .null, .null, .null, .null, .int 0, .null, .null, .null, .null, .int 0, .int 0])), (b, .inl (G.2.1 1, 5220, .inl f1))] := hD
      refine W.widen (k := 0) (n := 0) (Nat.le_of_ble_eq_true rfl) (Nat.le_of_ble_eq_true rfl) ?_
      refine W.eq (g2 := F0 m 7 ls [.int (nI (sLen.getD i 0)), .int (nI k)]) rfl ?_
      refine lv_icmp_ge (tgt := 41) hx hb dX10_spell_7 (by decide) (fun c5 => ?_) (fun c5 => ?_)
      · refine W.widen (k := 0) (n := 0) (Nat.le_of_ble_eq_true rfl) (Nat.le_of_ble_eq_true rfl) ?_
        exact W.vret hx hb hr (fun t ht hW => ⟨⟨_, f1, rfl, rfl, by rw [ht]; exact hP.sub [0, 1] rfl, hD.sub [0, 1] (by decide) rfl⟩, hS.F ht⟩) hS.2.2 dX10_spell_41
      · have hlt : k < sLen.getD i 0 := Nat.lt_of_not_le (fun h => c5 (nI_le h (Nat.lt_of_le_of_lt hk (Nat.lt_trans (sLen_lt i hi) (by decide)))))
        refine lv_iload_n hx hb dX10_spell_10 rfl (lv_at hl 3 rfl) ?_
        refine lv_iload_n hx hb dX10_spell_11 rfl (lv_at hl 0 rfl) ?_
        refine lv_iadd hx hb dX10_spell_12 ?_
        refine lv_topi (fun x6 e7 => ?_)
        refine lv_aload_n hx hb dX10_spell_13 rfl (lv_at hl 1 rfl) ?_
        refine va_get (D := G.1) (ci := 7) (v := .ref b) (C := RX10) (T := TX10) (N := 15) hx hb hq pin_wsX100 hown hE.1.1 hP 0 rfl rfl 0 (by decide) (hq _ pw_54) (fun _ h9 => h9) rfl dX10_spell_14 ?_
        refine va_alen (v := 5220) hx hb hE.1.1 hP 1 1 rfl rfl (show Int32.ofNat 5220 = 5220 from by decide) dX10_spell_17 ?_
        refine lv_icmp_ge (tgt := 35) hx hb dX10_spell_18 (by decide) (fun c8 => absurd c8 (by rw [e7, nI_add]; exact nI_ge (b := 5220) (by omega) (by decide))) (fun c8 => ?_)
        refine lv_aload_n hx hb dX10_spell_21 rfl (lv_at hl 1 rfl) ?_
        refine va_get (D := G.1) (ci := 7) (v := .ref b) (C := RX10) (T := TX10) (N := 15) hx hb hq pin_wsX100 hown hE.1.1 hP 0 rfl rfl 0 (by decide) (hq _ pw_54) (fun _ h9 => h9) rfl dX10_spell_22 ?_
        refine lv_iload_n hx hb dX10_spell_25 rfl (lv_at hl 3 rfl) ?_
        refine lv_iload_n hx hb dX10_spell_26 rfl (lv_at hl 0 rfl) ?_
        refine lv_iadd hx hb dX10_spell_27 ?_
        refine lv_topi (fun x9 e10 => ?_)
        refine lv_aload_n hx hb dX10_spell_28 rfl (lv_at hl 2 rfl) ?_
        refine lv_iload_n hx hb dX10_spell_29 rfl (lv_at hl 0 rfl) ?_
        refine pc_VR (G := G) (As := [.int (nI k)]) (rest := [.int x9, .ref b]) (wr := [(h0, .inr (7, [.ref b, .int 220, .int 0, .null, .null, .null, .null, .null, .int 0, .null, .null, .null, .null, .int 0, .int 0])), (b, .inl (G.2.1 1, 5220, .inl f1))]) hx hb hml hown hq hE hX pX0_al hP hD hS hA hl.1 (c_charAt l G i k hi hlt) (gV pw_65 pw_606 pw_607 pw_601 pw_605) hV_J0_charAt_5068e (vk_recv hE.2.1 hi hS) [] [0, 1] rfl rfl (by decide) (by decide) (by decide) rfl (Nat.le_of_ble_eq_true rfl) dX10_spell_30 ⟨Nat.le_of_ble_eq_true rfl, Nat.le_of_ble_eq_true rfl⟩ ⟨Nat.le_of_ble_eq_true rfl, Nat.le_of_ble_eq_true rfl⟩ (fun v13 u11 H locs hw12 hP hD hS => ?_)
        obtain ⟨x14, rfl, hc15⟩ := hw12
        have hP : va_P G.1 pCl [(h0, .inr (7, [.ref b, .int 220, .int 0, .null, .null, .null, .null, .null, .int 0, .null, .null, .null, .null, .int 0, .int 0])), (b, .inl (G.2.1 1, 5220, .inl f1))] H := hP
        have hD : va_D A [(h0, .inr (7, [.ref b, .int 220, .int 0, .null, .null, .null, .null, .null, .int 0, .null, .null, .null, .null, .int 0, .int 0])), (b, .inl (G.2.1 1, 5220, .inl f1))] := hD
        refine W.widen (k := 0) (n := 0) (Nat.le_of_ble_eq_true rfl) (Nat.le_of_ble_eq_true rfl) ?_
        refine W.eq (g2 := F0 m 33 ls [.int x14, .int x9, .ref b]) rfl ?_
        refine lv_i2b hx hb dX10_spell_33 rfl ?_
        refine lv_topi (fun x16 e17 => ?_)
        refine va_bast hx hb hE.1.1 hP hD hS 1 1 rfl rfl (by rw [e10, nI_add]; exact vp_in_nI (by omega) (by decide)) dX10_spell_34 (fun H locs hP hD hS => ?_)
        have hP : va_P G.1 pCl [(h0, .inr (7, [.ref b, .int 220, .int 0, .null, .null, .null, .null, .null, .int 0, .null, .null, .null, .null, .int 0, .int 0])), (b, .inl (G.2.1 1, 5220, .inl (upd f1 (Int32.toNatClampNeg x9) (vp_nar .byte x16))))] H := hP
        have hD : va_D A [(h0, .inr (7, [.ref b, .int 220, .int 0, .null, .null, .null, .null, .null, .int 0, .null, .null, .null, .null, .int 0, .int 0])), (b, .inl (G.2.1 1, 5220, .inl (upd f1 (Int32.toNatClampNeg x9) (vp_nar .byte x16))))] := hD
        generalize (upd f1 (Int32.toNatClampNeg x9) (vp_nar .byte x16)) = f18 at hP hD
        refine lv_iinc (v := (nI (k + 1))) (lv' := [(3, .int (nI (k + 1))), (0, .ref h0), (1, .ref (G.2.2.1 i)), (2, .int (nI st))]) hx hb dX10_spell_35 hl (k := 0) rfl (nI_1 k) (by decide) rfl (fun ls hl => ?_)
        refine lv_goto (tgt := 2) hx hb dX10_spell_38 (by decide) ?_
        exact ih (k + 1) f18 _ _ _ (by omega) (by omega) hP hD hS (lv_sub hl [0, 1, 2, 3] rfl)
  exact loop (sLen.getD i 0 + 1) 0 f _ _ _ (Nat.zero_le _) (by omega) hP hD hS (lv_sub hl [0, 1, 2, 3] rfl)
end
section
theorem sl_0 : nI (sLen.getD 0 0) = 100 := by decide +kernel
theorem sl_1 : nI (sLen.getD 1 0) = 71 := by decide +kernel
theorem sl_2 : nI (sLen.getD 2 0) = 49 := by decide +kernel
theorem sl_3 : nI (sLen.getD 3 0) = 6 := by decide +kernel
theorem sl_4 : nI (sLen.getD 4 0) = 4 := by decide +kernel
theorem sl_5 : nI (sLen.getD 5 0) = 4 := by decide +kernel
theorem sl_6 : nI (sLen.getD 6 0) = 4 := by decide +kernel
theorem sl_7 : nI (sLen.getD 7 0) = 5 := by decide +kernel
theorem sl_8 : nI (sLen.getD 8 0) = 5 := by decide +kernel
theorem sl_9 : nI (sLen.getD 9 0) = 4 := by decide +kernel
theorem sl_10 : nI (sLen.getD 10 0) = 4 := by decide +kernel
theorem sl_11 : nI (sLen.getD 11 0) = 4 := by decide +kernel
theorem dX10_init_0 : decode cX10_init 0 = .ok (.aload_n 0, 1) := by decide +kernel
theorem dX10_init_1 : decode cX10_init 1 = .ok (.invokespecial 5, 3) := by decide +kernel
theorem dX10_init_4 : decode cX10_init 4 = .ok (.ldc 11, 2) := by decide +kernel
theorem dX10_init_6 : decode cX10_init 6 = .ok (.astore_n 1, 1) := by decide +kernel
theorem dX10_init_7 : decode cX10_init 7 = .ok (.ldc 13, 2) := by decide +kernel
theorem dX10_init_9 : decode cX10_init 9 = .ok (.astore_n 2, 1) := by decide +kernel
theorem dX10_init_10 : decode cX10_init 10 = .ok (.ldc 15, 2) := by decide +kernel
theorem dX10_init_12 : decode cX10_init 12 = .ok (.astore_n 3, 1) := by decide +kernel
theorem dX10_init_13 : decode cX10_init 13 = .ok (.aload_n 0, 1) := by decide +kernel
theorem dX10_init_14 : decode cX10_init 14 = .ok (.aload_n 1, 1) := by decide +kernel
theorem dX10_init_15 : decode cX10_init 15 = .ok (.invokevirtual 17, 3) := by decide +kernel
theorem dX10_init_18 : decode cX10_init 18 = .ok (.aload_n 2, 1) := by decide +kernel
theorem dX10_init_19 : decode cX10_init 19 = .ok (.invokevirtual 17, 3) := by decide +kernel
theorem dX10_init_22 : decode cX10_init 22 = .ok (.iadd, 1) := by decide +kernel
theorem dX10_init_23 : decode cX10_init 23 = .ok (.aload_n 3, 1) := by decide +kernel
theorem dX10_init_24 : decode cX10_init 24 = .ok (.invokevirtual 17, 3) := by decide +kernel
theorem dX10_init_27 : decode cX10_init 27 = .ok (.iadd, 1) := by decide +kernel
theorem dX10_init_28 : decode cX10_init 28 = .ok (.putfield 23, 3) := by decide +kernel
theorem dX10_init_31 : decode cX10_init 31 = .ok (.aload_n 0, 1) := by decide +kernel
theorem dX10_init_32 : decode cX10_init 32 = .ok (.aload_n 0, 1) := by decide +kernel
theorem dX10_init_33 : decode cX10_init 33 = .ok (.getfield 23, 3) := by decide +kernel
theorem dX10_init_36 : decode cX10_init 36 = .ok (.sipush 5000, 3) := by decide +kernel
theorem dX10_init_39 : decode cX10_init 39 = .ok (.iadd, 1) := by decide +kernel
theorem dX10_init_40 : decode cX10_init 40 = .ok (.newarray .byte, 2) := by decide +kernel
theorem dX10_init_42 : decode cX10_init 42 = .ok (.putfield 27, 3) := by decide +kernel
theorem dX10_init_45 : decode cX10_init 45 = .ok (.aload_n 0, 1) := by decide +kernel
theorem dX10_init_46 : decode cX10_init 46 = .ok (.aload_n 1, 1) := by decide +kernel
theorem dX10_init_47 : decode cX10_init 47 = .ok (.iconst 0, 1) := by decide +kernel
theorem dX10_init_48 : decode cX10_init 48 = .ok (.invokevirtual 31, 3) := by decide +kernel
theorem dX10_init_51 : decode cX10_init 51 = .ok (.aload_n 0, 1) := by decide +kernel
theorem dX10_init_52 : decode cX10_init 52 = .ok (.aload_n 2, 1) := by decide +kernel
theorem dX10_init_53 : decode cX10_init 53 = .ok (.aload_n 1, 1) := by decide +kernel
theorem dX10_init_54 : decode cX10_init 54 = .ok (.invokevirtual 17, 3) := by decide +kernel
theorem dX10_init_57 : decode cX10_init 57 = .ok (.invokevirtual 31, 3) := by decide +kernel
theorem dX10_init_60 : decode cX10_init 60 = .ok (.aload_n 0, 1) := by decide +kernel
theorem dX10_init_61 : decode cX10_init 61 = .ok (.aload_n 3, 1) := by decide +kernel
theorem dX10_init_62 : decode cX10_init 62 = .ok (.aload_n 1, 1) := by decide +kernel
theorem dX10_init_63 : decode cX10_init 63 = .ok (.invokevirtual 17, 3) := by decide +kernel
theorem dX10_init_66 : decode cX10_init 66 = .ok (.aload_n 2, 1) := by decide +kernel
theorem dX10_init_67 : decode cX10_init 67 = .ok (.invokevirtual 17, 3) := by decide +kernel
theorem dX10_init_70 : decode cX10_init 70 = .ok (.iadd, 1) := by decide +kernel
theorem dX10_init_71 : decode cX10_init 71 = .ok (.invokevirtual 31, 3) := by decide +kernel
theorem dX10_init_74 : decode cX10_init 74 = .ok (.aload_n 0, 1) := by decide +kernel
theorem dX10_init_75 : decode cX10_init 75 = .ok (.sipush 5000, 3) := by decide +kernel
theorem dX10_init_78 : decode cX10_init 78 = .ok (.newarray .int, 2) := by decide +kernel
theorem dX10_init_80 : decode cX10_init 80 = .ok (.putfield 35, 3) := by decide +kernel
theorem dX10_init_83 : decode cX10_init 83 = .ok (.aload_n 0, 1) := by decide +kernel
theorem dX10_init_84 : decode cX10_init 84 = .ok (.sipush 5000, 3) := by decide +kernel
theorem dX10_init_87 : decode cX10_init 87 = .ok (.newarray .int, 2) := by decide +kernel
theorem dX10_init_89 : decode cX10_init 89 = .ok (.putfield 39, 3) := by decide +kernel
theorem dX10_init_92 : decode cX10_init 92 = .ok (.aload_n 0, 1) := by decide +kernel
theorem dX10_init_93 : decode cX10_init 93 = .ok (.sipush 5000, 3) := by decide +kernel
theorem dX10_init_96 : decode cX10_init 96 = .ok (.newarray .int, 2) := by decide +kernel
theorem dX10_init_98 : decode cX10_init 98 = .ok (.putfield 42, 3) := by decide +kernel
theorem dX10_init_101 : decode cX10_init 101 = .ok (.aload_n 0, 1) := by decide +kernel
theorem dX10_init_102 : decode cX10_init 102 = .ok (.sipush 5000, 3) := by decide +kernel
theorem dX10_init_105 : decode cX10_init 105 = .ok (.newarray .byte, 2) := by decide +kernel
theorem dX10_init_107 : decode cX10_init 107 = .ok (.putfield 45, 3) := by decide +kernel
theorem dX10_init_110 : decode cX10_init 110 = .ok (.aload_n 0, 1) := by decide +kernel
theorem dX10_init_111 : decode cX10_init 111 = .ok (.sipush 5000, 3) := by decide +kernel
theorem dX10_init_114 : decode cX10_init 114 = .ok (.newarray .int, 2) := by decide +kernel
theorem dX10_init_116 : decode cX10_init 116 = .ok (.putfield 48, 3) := by decide +kernel
theorem dX10_init_119 : decode cX10_init 119 = .ok (.aload_n 0, 1) := by decide +kernel
theorem dX10_init_120 : decode cX10_init 120 = .ok (.sipush 2540, 3) := by decide +kernel
theorem dX10_init_123 : decode cX10_init 123 = .ok (.newarray .int, 2) := by decide +kernel
theorem dX10_init_125 : decode cX10_init 125 = .ok (.putfield 51, 3) := by decide +kernel
theorem dX10_init_128 : decode cX10_init 128 = .ok (.aload_n 0, 1) := by decide +kernel
theorem dX10_init_129 : decode cX10_init 129 = .ok (.sipush 2540, 3) := by decide +kernel
theorem dX10_init_132 : decode cX10_init 132 = .ok (.newarray .int, 2) := by decide +kernel
theorem dX10_init_134 : decode cX10_init 134 = .ok (.putfield 54, 3) := by decide +kernel
theorem dX10_init_137 : decode cX10_init 137 = .ok (.aload_n 0, 1) := by decide +kernel
theorem dX10_init_138 : decode cX10_init 138 = .ok (.sipush 2540, 3) := by decide +kernel
theorem dX10_init_141 : decode cX10_init 141 = .ok (.newarray .int, 2) := by decide +kernel
theorem dX10_init_143 : decode cX10_init 143 = .ok (.putfield 57, 3) := by decide +kernel
theorem dX10_init_146 : decode cX10_init 146 = .ok (.aload_n 0, 1) := by decide +kernel
theorem dX10_init_147 : decode cX10_init 147 = .ok (.sipush 256, 3) := by decide +kernel
theorem dX10_init_150 : decode cX10_init 150 = .ok (.newarray .int, 2) := by decide +kernel
theorem dX10_init_152 : decode cX10_init 152 = .ok (.putfield 60, 3) := by decide +kernel
theorem dX10_init_155 : decode cX10_init 155 = .ok (.return_, 1) := by decide +kernel
theorem hV_X10_spell : yX10_spell.cls = RX10 ∧ yX10_spell.cls ≠ "java/lang/invoke/MethodHandle" ∧ yX10_spell.cls ≠ "java/lang/invoke/VarHandle" ∧ (parseMethodDescriptor yX10_spell.desc).map (fun d => d.parameters.length) = some 2 := by decide +kernel
set_option maxHeartbeats 1000000 in
set_option maxRecDepth 100000 in
/-- Text() -/
theorem c_Text_init (l : Launch) (G : pT) (h0 : Nat) : PM l G pX0 yX10_init cX10_init 4 none ({ frames := 7, cells := 10, slots := 38096, locals := 168 }) [.ref h0] [(h0, .inr (7, [.null, .int 0, .int 0, .null, .null, .null, .null, .null, .int 0, .null, .null, .null, .null, .int 0, .int 0]))] (fun (v : Option Value) (u : (Nat → Nat) × (Nat → Nat → Int32) × (Nat → Nat → Int64)) => v = none) (fun u => [(h0, .inr (7, [.ref (u.1 0), .int 220, .int 0, .ref (u.1 1), .ref (u.1 2), .ref (u.1 3), .ref (u.1 4), .ref (u.1 5), .int 0, .ref (u.1 6), .ref (u.1 7), .ref (u.1 8), .ref (u.1 9), .int 0, .int 0])), ((u.1 0), .inl (G.2.1 1, 5220, .inl (u.2.1 0))), ((u.1 1), .inl (G.2.1 0, 5000, .inl (fun _ => 0))), ((u.1 2), .inl (G.2.1 0, 5000, .inl (fun _ => 0))), ((u.1 3), .inl (G.2.1 0, 5000, .inl (fun _ => 0))), ((u.1 4), .inl (G.2.1 1, 5000, .inl (fun _ => 0))), ((u.1 5), .inl (G.2.1 0, 5000, .inl (fun _ => 0))), ((u.1 6), .inl (G.2.1 0, 2540, .inl (fun _ => 0))), ((u.1 7), .inl (G.2.1 0, 2540, .inl (fun _ => 0))), ((u.1 8), .inl (G.2.1 0, 2540, .inl (fun _ => 0))), ((u.1 9), .inl (G.2.1 0, 256, .inl (fun _ => 0)))]) := by
  intro sz
  refine Met.ofW (cc := cX10_init) (maxL := 4) (ret := none) (by decide) rfl ?_
  intro p e s m args below meth c s₁ B hml hv
  obtain ⟨rfl, hsz, hP, hD0, hE, hX⟩ := hv
  have hx := B.exec
  have hb := B.bytes
  have hr := B.returns
  have hts := atoms_spec (ws := Cond.code yX10_init cX10_init 4 none :: pw) B.pre
  have hq : ∀ w ∈ pw, w.before _ s = true := fun w h => hts w (List.mem_cons_of_mem _ h)
  have hown : s.vm.findClass RX10 = some m.cls := findClass_of_methodNamed B.named
  have hlocks := B.notSynchronized
  have hin : meth.name = "<init>" := (name_of_methodNamed B.named B.method).1
  subst hsz
  have hD := hD0.self (sz := s.heap.size)
  have hA : ∀ q : Nat, s.heap.size ≤ q → va_A [(h0, .inr (7, [.null, .int 0, .int 0, .null, .null, .null, .null, .null, .int 0, .null, .null, .null, .null, .int 0, .int 0]))] s.heap.size q := fun q h => Or.inr h
  have hP : va_P G.1 pCl [(h0, .inr (7, [.null, .int 0, .int 0, .null, .null, .null, .null, .null, .int 0, .null, .null, .null, .null, .int 0, .int 0]))] s.heap := hP
  generalize va_A [(h0, .inr (7, [.null, .int 0, .int 0, .null, .null, .null, .null, .null, .int 0, .null, .null, .null, .null, .int 0, .int 0]))] s.heap.size = A at hD hE hA ⊢
  have hS : va_S A s.heap s.heap [] := va_S.rf
  have hl := lv_entry ([.ref h0]) (n := 4) (Nat.le_of_ble_eq_true rfl)
  rw [lg_entry_eq]
  generalize (lg_sl ([.ref h0]) ++ List.replicate (4 - (lg_sl ([.ref h0])).length) Slot.unset).toArray = ls at hl ⊢
  have hl : lv_has ls 4 [(0, .ref h0)] := hl
  refine lv_aload_n hx hb dX10_init_0 rfl (lv_at hl 0 rfl) ?_
  refine W.objInit hx hb hown (hq _ pw_51) (hq _ pw_634) (hq _ pw_635) rfl (by rw [hml]; exact hl.1) rfl dX10_init_1 (Nat.le_of_ble_eq_true rfl) (Nat.le_of_ble_eq_true rfl) ?_
  refine W.eq (g2 := F0 m 4 ls []) rfl ?_
  refine va_ldcS (q := G.2.2.1 0) hx hb hown (hE.2.2.1 0 (by decide)) dX10_init_4 ?_
  refine lv_astore_n (lv' := [(1, .ref (G.2.2.1 0)), (0, .ref h0)]) hx hb dX10_init_6 rfl hl (by decide) rfl (fun ls hl => ?_)
  refine va_ldcS (q := G.2.2.1 1) hx hb hown (hE.2.2.1 1 (by decide)) dX10_init_7 ?_
  refine lv_astore_n (lv' := [(2, .ref (G.2.2.1 1)), (1, .ref (G.2.2.1 0)), (0, .ref h0)]) hx hb dX10_init_9 rfl hl (by decide) rfl (fun ls hl => ?_)
  refine va_ldcS (q := G.2.2.1 2) hx hb hown (hE.2.2.1 2 (by decide)) dX10_init_10 ?_
  refine lv_astore_n (lv' := [(3, .ref (G.2.2.1 2)), (2, .ref (G.2.2.1 1)), (1, .ref (G.2.2.1 0)), (0, .ref h0)]) hx hb dX10_init_12 rfl hl (by decide) rfl (fun ls hl => ?_)
  refine lv_aload_n hx hb dX10_init_13 rfl (lv_at hl 3 rfl) ?_
  refine lv_aload_n hx hb dX10_init_14 rfl (lv_at hl 2 rfl) ?_
  refine pc_VR (G := G) (As := []) (rest := [.ref h0]) (wr := [(h0, .inr (7, [.null, .int 0, .int 0, .null, .null, .null, .null, .null, .int 0, .null, .null, .null, .null, .int 0, .int 0]))]) hx hb hml hown hq hE hX pX0_al hP hD hS hA hl.1 (c_length l G 0 (by decide)) (gV pw_52 pw_599 pw_600 pw_601 pw_598) hV_J0_length_8abf5 (vk_recv hE.2.1 (by decide) hS) [] [0] rfl rfl (by decide) (by decide) (by decide) rfl (Nat.le_of_ble_eq_true rfl) dX10_init_15 ⟨Nat.le_of_ble_eq_true rfl, Nat.le_of_ble_eq_true rfl⟩ ⟨Nat.le_of_ble_eq_true rfl, Nat.le_of_ble_eq_true rfl⟩ (fun v3 u1 H locs hw2 hP hD hS => ?_)
  obtain rfl : v3 = some (.int 100) := hw2.trans (by rw [sl_0])
  have hP : va_P G.1 pCl [(h0, .inr (7, [.null, .int 0, .int 0, .null, .null, .null, .null, .null, .int 0, .null, .null, .null, .null, .int 0, .int 0]))] H := hP
  have hD : va_D A [(h0, .inr (7, [.null, .int 0, .int 0, .null, .null, .null, .null, .null, .int 0, .null, .null, .null, .null, .int 0, .int 0]))] := hD
  refine W.widen (k := 0) (n := 0) (Nat.le_of_ble_eq_true rfl) (Nat.le_of_ble_eq_true rfl) ?_
  refine W.eq (g2 := F0 m 18 ls [.int 100, .ref h0]) rfl ?_
  refine lv_aload_n hx hb dX10_init_18 rfl (lv_at hl 1 rfl) ?_
  refine pc_VR (G := G) (As := []) (rest := [.int 100, .ref h0]) (wr := [(h0, .inr (7, [.null, .int 0, .int 0, .null, .null, .null, .null, .null, .int 0, .null, .null, .null, .null, .int 0, .int 0]))]) hx hb hml hown hq hE hX pX0_al hP hD hS hA hl.1 (c_length l G 1 (by decide)) (gV pw_52 pw_599 pw_600 pw_601 pw_598) hV_J0_length_8abf5 (vk_recv hE.2.1 (by decide) hS) [] [0] rfl rfl (by decide) (by decide) (by decide) rfl (Nat.le_of_ble_eq_true rfl) dX10_init_19 ⟨Nat.le_of_ble_eq_true rfl, Nat.le_of_ble_eq_true rfl⟩ ⟨Nat.le_of_ble_eq_true rfl, Nat.le_of_ble_eq_true rfl⟩ (fun v6 u4 H locs hw5 hP hD hS => ?_)
  obtain rfl : v6 = some (.int 71) := hw5.trans (by rw [sl_1])
  have hP : va_P G.1 pCl [(h0, .inr (7, [.null, .int 0, .int 0, .null, .null, .null, .null, .null, .int 0, .null, .null, .null, .null, .int 0, .int 0]))] H := hP
  have hD : va_D A [(h0, .inr (7, [.null, .int 0, .int 0, .null, .null, .null, .null, .null, .int 0, .null, .null, .null, .null, .int 0, .int 0]))] := hD
  refine W.widen (k := 0) (n := 0) (Nat.le_of_ble_eq_true rfl) (Nat.le_of_ble_eq_true rfl) ?_
  refine W.eq (g2 := F0 m 22 ls [.int 71, .int 100, .ref h0]) rfl ?_
  refine lv_iadd hx hb dX10_init_22 ?_
  refine lv_topi (fun x7 e8 => ?_)
  obtain rfl : x7 = 171 := e8.trans (by decide)
  refine lv_aload_n hx hb dX10_init_23 rfl (lv_at hl 0 rfl) ?_
  refine pc_VR (G := G) (As := []) (rest := [.int 171, .ref h0]) (wr := [(h0, .inr (7, [.null, .int 0, .int 0, .null, .null, .null, .null, .null, .int 0, .null, .null, .null, .null, .int 0, .int 0]))]) hx hb hml hown hq hE hX pX0_al hP hD hS hA hl.1 (c_length l G 2 (by decide)) (gV pw_52 pw_599 pw_600 pw_601 pw_598) hV_J0_length_8abf5 (vk_recv hE.2.1 (by decide) hS) [] [0] rfl rfl (by decide) (by decide) (by decide) rfl (Nat.le_of_ble_eq_true rfl) dX10_init_24 ⟨Nat.le_of_ble_eq_true rfl, Nat.le_of_ble_eq_true rfl⟩ ⟨Nat.le_of_ble_eq_true rfl, Nat.le_of_ble_eq_true rfl⟩ (fun v11 u9 H locs hw10 hP hD hS => ?_)
  obtain rfl : v11 = some (.int 49) := hw10.trans (by rw [sl_2])
  have hP : va_P G.1 pCl [(h0, .inr (7, [.null, .int 0, .int 0, .null, .null, .null, .null, .null, .int 0, .null, .null, .null, .null, .int 0, .int 0]))] H := hP
  have hD : va_D A [(h0, .inr (7, [.null, .int 0, .int 0, .null, .null, .null, .null, .null, .int 0, .null, .null, .null, .null, .int 0, .int 0]))] := hD
  refine W.widen (k := 0) (n := 0) (Nat.le_of_ble_eq_true rfl) (Nat.le_of_ble_eq_true rfl) ?_
  refine W.eq (g2 := F0 m 27 ls [.int 49, .int 171, .ref h0]) rfl ?_
  refine lv_iadd hx hb dX10_init_27 ?_
  refine lv_topi (fun x12 e13 => ?_)
  obtain rfl : x12 = 220 := e13.trans (by decide)
  refine va_putF (D := G.1) (ci := 7) (v := .int 220) (ty := .int) (C := RX10) (T := TX10) (N := 15) hx hb hq pin_wsX100 tyX10 tyX10_ok nmX10 hown hE.1.1 hP hD hS 0 rfl rfl 1 (by decide) (hq _ pw_53) (fun _ h9 => h9) rfl hin rfl (by decide +kernel) rfl rfl (Nat.le_of_ble_eq_true rfl) dX10_init_28 (fun H locs hP hD hS => ?_)
  have hP : va_P G.1 pCl [(h0, .inr (7, [.null, .int 220, .int 0, .null, .null, .null, .null, .null, .int 0, .null, .null, .null, .null, .int 0, .int 0]))] H := hP
  have hD : va_D A [(h0, .inr (7, [.null, .int 220, .int 0, .null, .null, .null, .null, .null, .int 0, .null, .null, .null, .null, .int 0, .int 0]))] := hD
  refine lv_aload_n hx hb dX10_init_31 rfl (lv_at hl 3 rfl) ?_
  refine lv_aload_n hx hb dX10_init_32 rfl (lv_at hl 3 rfl) ?_
  refine va_get (D := G.1) (ci := 7) (v := .int 220) (C := RX10) (T := TX10) (N := 15) hx hb hq pin_wsX100 hown hE.1.1 hP 0 rfl rfl 1 (by decide) (hq _ pw_53) (fun _ h9 => h9) rfl dX10_init_33 ?_
  refine lv_sipush (v := 5000) hx hb dX10_init_36 (by decide) ?_
  refine lv_iadd hx hb dX10_init_39 ?_
  refine lv_topi (fun x14 e15 => ?_)
  obtain rfl : x14 = 5220 := e15.trans (by decide)
  refine pn_newa (G := G) (atype := .byte) (a0 := (5220, .inl (fun _ => 0))) (N' := 5220) hx hb (hq _ pw_661) rfl hE.1.2.2.1 hP hD hS hA (fun _ => rfl) (by decide) (by decide) (by decide) (Nat.le_of_ble_eq_true rfl) (Nat.le_of_ble_eq_true rfl) dX10_init_40 (fun q16 H hP hD hS => ?_)
  have hP : va_P G.1 pCl [(h0, .inr (7, [.null, .int 220, .int 0, .null, .null, .null, .null, .null, .int 0, .null, .null, .null, .null, .int 0, .int 0])), (q16, .inl (G.2.1 1, 5220, .inl (fun _ => 0)))] H := hP
  have hD : va_D A [(h0, .inr (7, [.null, .int 220, .int 0, .null, .null, .null, .null, .null, .int 0, .null, .null, .null, .null, .int 0, .int 0])), (q16, .inl (G.2.1 1, 5220, .inl (fun _ => 0)))] := hD
  refine W.widen (k := 1) (n := 5220) (Nat.le_of_ble_eq_true rfl) (Nat.le_of_ble_eq_true rfl) ?_
  refine va_putF (D := G.1) (ci := 7) (v := .ref q16) (ty := (.array .byte)) (C := RX10) (T := TX10) (N := 15) hx hb hq pin_wsX100 tyX10 tyX10_ok nmX10 hown hE.1.1 hP hD hS 0 rfl rfl 0 (by decide) (hq _ pw_54) (fun _ h9 => h9) rfl hin rfl (by decide +kernel) rfl rfl (Nat.le_of_ble_eq_true rfl) dX10_init_42 (fun H locs hP hD hS => ?_)
  have hP : va_P G.1 pCl [(h0, .inr (7, [.ref q16, .int 220, .int 0, .null, .null, .null, .null, .null, .int 0, .null, .null, .null, .null, .int 0, .int 0])), (q16, .inl (G.2.1 1, 5220, .inl (fun _ => 0)))] H := hP
  have hD : va_D A [(h0, .inr (7, [.ref q16, .int 220, .int 0, .null, .null, .null, .null, .null, .int 0, .null, .null, .null, .null, .int 0, .int 0])), (q16, .inl (G.2.1 1, 5220, .inl (fun _ => 0)))] := hD
  refine lv_aload_n hx hb dX10_init_45 rfl (lv_at hl 3 rfl) ?_
  refine lv_aload_n hx hb dX10_init_46 rfl (lv_at hl 2 rfl) ?_
  refine lv_iconst (v := 0) hx hb dX10_init_47 (by decide) ?_
  refine pc_V (G := G) (As := [.ref (G.2.2.1 0), .int (nI 0)]) (rest := []) (wr := []) hx hb hml hown hq hE hX pX0_al hP hD hS hA hl.1 (c_spell l G h0 q16 ((fun _ => 0)) 0 0 (by decide) (by decide +kernel)) (gV pw_55 pw_426 pw_427 pw_424 pw_425) hV_X10_spell 0 7 rfl rfl rfl [0, 1] [] rfl rfl (by decide) (by decide) (by decide) rfl (Nat.le_of_ble_eq_true rfl) dX10_init_48 ⟨Nat.le_of_ble_eq_true rfl, Nat.le_of_ble_eq_true rfl⟩ ⟨Nat.le_of_ble_eq_true rfl, Nat.le_of_ble_eq_true rfl⟩ (fun v19 f17 H locs hw18 hP hD hS => ?_)
  obtain rfl : v19 = none := hw18
  have hP : va_P G.1 pCl [(h0, .inr (7, [.ref q16, .int 220, .int 0, .null, .null, .null, .null, .null, .int 0, .null, .null, .null, .null, .int 0, .int 0])), (q16, .inl (G.2.1 1, 5220, .inl f17))] H := hP
  have hD : va_D A [(h0, .inr (7, [.ref q16, .int 220, .int 0, .null, .null, .null, .null, .null, .int 0, .null, .null, .null, .null, .int 0, .int 0])), (q16, .inl (G.2.1 1, 5220, .inl f17))] := hD
  refine W.widen (k := 1) (n := 5220) (Nat.le_of_ble_eq_true rfl) (Nat.le_of_ble_eq_true rfl) ?_
  refine W.eq (g2 := F0 m 51 ls []) rfl ?_
  refine lv_aload_n hx hb dX10_init_51 rfl (lv_at hl 3 rfl) ?_
  refine lv_aload_n hx hb dX10_init_52 rfl (lv_at hl 1 rfl) ?_
  refine lv_aload_n hx hb dX10_init_53 rfl (lv_at hl 2 rfl) ?_
  refine pc_VR (G := G) (As := []) (rest := [.ref (G.2.2.1 1), .ref h0]) (wr := [(h0, .inr (7, [.ref q16, .int 220, .int 0, .null, .null, .null, .null, .null, .int 0, .null, .null, .null, .null, .int 0, .int 0])), (q16, .inl (G.2.1 1, 5220, .inl f17))]) hx hb hml hown hq hE hX pX0_al hP hD hS hA hl.1 (c_length l G 0 (by decide)) (gV pw_52 pw_599 pw_600 pw_601 pw_598) hV_J0_length_8abf5 (vk_recv hE.2.1 (by decide) hS) [] [0, 1] rfl rfl (by decide) (by decide) (by decide) rfl (Nat.le_of_ble_eq_true rfl) dX10_init_54 ⟨Nat.le_of_ble_eq_true rfl, Nat.le_of_ble_eq_true rfl⟩ ⟨Nat.le_of_ble_eq_true rfl, Nat.le_of_ble_eq_true rfl⟩ (fun v22 u20 H locs hw21 hP hD hS => ?_)
  obtain rfl : v22 = some (.int 100) := hw21.trans (by rw [sl_0])
  have hP : va_P G.1 pCl [(h0, .inr (7, [.ref q16, .int 220, .int 0, .null, .null, .null, .null, .null, .int 0, .null, .null, .null, .null, .int 0, .int 0])), (q16, .inl (G.2.1 1, 5220, .inl f17))] H := hP
  have hD : va_D A [(h0, .inr (7, [.ref q16, .int 220, .int 0, .null, .null, .null, .null, .null, .int 0, .null, .null, .null, .null, .int 0, .int 0])), (q16, .inl (G.2.1 1, 5220, .inl f17))] := hD
  refine W.widen (k := 1) (n := 5220) (Nat.le_of_ble_eq_true rfl) (Nat.le_of_ble_eq_true rfl) ?_
  refine W.eq (g2 := F0 m 57 ls [.int 100, .ref (G.2.2.1 1), .ref h0]) rfl ?_
  refine pc_V (G := G) (As := [.ref (G.2.2.1 1), .int (nI 100)]) (rest := []) (wr := []) hx hb hml hown hq hE hX pX0_al hP hD hS hA hl.1 (c_spell l G h0 q16 f17 1 100 (by decide) (by decide +kernel)) (gV pw_55 pw_426 pw_427 pw_424 pw_425) hV_X10_spell 0 7 rfl rfl rfl [0, 1] [] rfl rfl (by decide) (by decide) (by decide) rfl (Nat.le_of_ble_eq_true rfl) dX10_init_57 ⟨Nat.le_of_ble_eq_true rfl, Nat.le_of_ble_eq_true rfl⟩ ⟨Nat.le_of_ble_eq_true rfl, Nat.le_of_ble_eq_true rfl⟩ (fun v25 f23 H locs hw24 hP hD hS => ?_)
  obtain rfl : v25 = none := hw24
  have hP : va_P G.1 pCl [(h0, .inr (7, [.ref q16, .int 220, .int 0, .null, .null, .null, .null, .null, .int 0, .null, .null, .null, .null, .int 0, .int 0])), (q16, .inl (G.2.1 1, 5220, .inl f23))] H := hP
  have hD : va_D A [(h0, .inr (7, [.ref q16, .int 220, .int 0, .null, .null, .null, .null, .null, .int 0, .null, .null, .null, .null, .int 0, .int 0])), (q16, .inl (G.2.1 1, 5220, .inl f23))] := hD
  refine W.widen (k := 1) (n := 5220) (Nat.le_of_ble_eq_true rfl) (Nat.le_of_ble_eq_true rfl) ?_
  refine W.eq (g2 := F0 m 60 ls []) rfl ?_
  refine lv_aload_n hx hb dX10_init_60 rfl (lv_at hl 3 rfl) ?_
  refine lv_aload_n hx hb dX10_init_61 rfl (lv_at hl 0 rfl) ?_
  refine lv_aload_n hx hb dX10_init_62 rfl (lv_at hl 2 rfl) ?_
  refine pc_VR (G := G) (As := []) (rest := [.ref (G.2.2.1 2), .ref h0]) (wr := [(h0, .inr (7, [.ref q16, .int 220, .int 0, .null, .null, .null, .null, .null, .int 0, .null, .null, .null, .null, .int 0, .int 0])), (q16, .inl (G.2.1 1, 5220, .inl f23))]) hx hb hml hown hq hE hX pX0_al hP hD hS hA hl.1 (c_length l G 0 (by decide)) (gV pw_52 pw_599 pw_600 pw_601 pw_598) hV_J0_length_8abf5 (vk_recv hE.2.1 (by decide) hS) [] [0, 1] rfl rfl (by decide) (by decide) (by decide) rfl (Nat.le_of_ble_eq_true rfl) dX10_init_63 ⟨Nat.le_of_ble_eq_true rfl, Nat.le_of_ble_eq_true rfl⟩ ⟨Nat.le_of_ble_eq_true rfl, Nat.le_of_ble_eq_true rfl⟩ (fun v28 u26 H locs hw27 hP hD hS => ?_)
  obtain rfl : v28 = some (.int 100) := hw27.trans (by rw [sl_0])
  have hP : va_P G.1 pCl [(h0, .inr (7, [.ref q16, .int 220, .int 0, .null, .null, .null, .null, .null, .int 0, .null, .null, .null, .null, .int 0, .int 0])), (q16, .inl (G.2.1 1, 5220, .inl f23))] H := hP
  have hD : va_D A [(h0, .inr (7, [.ref q16, .int 220, .int 0, .null, .null, .null, .null, .null, .int 0, .null, .null, .null, .null, .int 0, .int 0])), (q16, .inl (G.2.1 1, 5220, .inl f23))] := hD
  refine W.widen (k := 1) (n := 5220) (Nat.le_of_ble_eq_true rfl) (Nat.le_of_ble_eq_true rfl) ?_
  refine W.eq (g2 := F0 m 66 ls [.int 100, .ref (G.2.2.1 2), .ref h0]) rfl ?_
  refine lv_aload_n hx hb dX10_init_66 rfl (lv_at hl 1 rfl) ?_
  refine pc_VR (G := G) (As := []) (rest := [.int 100, .ref (G.2.2.1 2), .ref h0]) (wr := [(h0, .inr (7, [.ref q16, .int 220, .int 0, .null, .null, .null, .null, .null, .int 0, .null, .null, .null, .null, .int 0, .int 0])), (q16, .inl (G.2.1 1, 5220, .inl f23))]) hx hb hml hown hq hE hX pX0_al hP hD hS hA hl.1 (c_length l G 1 (by decide)) (gV pw_52 pw_599 pw_600 pw_601 pw_598) hV_J0_length_8abf5 (vk_recv hE.2.1 (by decide) hS) [] [0, 1] rfl rfl (by decide) (by decide) (by decide) rfl (Nat.le_of_ble_eq_true rfl) dX10_init_67 ⟨Nat.le_of_ble_eq_true rfl, Nat.le_of_ble_eq_true rfl⟩ ⟨Nat.le_of_ble_eq_true rfl, Nat.le_of_ble_eq_true rfl⟩ (fun v31 u29 H locs hw30 hP hD hS => ?_)
  obtain rfl : v31 = some (.int 71) := hw30.trans (by rw [sl_1])
  have hP : va_P G.1 pCl [(h0, .inr (7, [.ref q16, .int 220, .int 0, .null, .null, .null, .null, .null, .int 0, .null, .null, .null, .null, .int 0, .int 0])), (q16, .inl (G.2.1 1, 5220, .inl f23))] H := hP
  have hD : va_D A [(h0, .inr (7, [.ref q16, .int 220, .int 0, .null, .null, .null, .null, .null, .int 0, .null, .null, .null, .null, .int 0, .int 0])), (q16, .inl (G.2.1 1, 5220, .inl f23))] := hD
  refine W.widen (k := 1) (n := 5220) (Nat.le_of_ble_eq_true rfl) (Nat.le_of_ble_eq_true rfl) ?_
  refine W.eq (g2 := F0 m 70 ls [.int 71, .int 100, .ref (G.2.2.1 2), .ref h0]) rfl ?_
  refine lv_iadd hx hb dX10_init_70 ?_
  refine lv_topi (fun x32 e33 => ?_)
  obtain rfl : x32 = 171 := e33.trans (by decide)
  refine pc_V (G := G) (As := [.ref (G.2.2.1 2), .int (nI 171)]) (rest := []) (wr := []) hx hb hml hown hq hE hX pX0_al hP hD hS hA hl.1 (c_spell l G h0 q16 f23 2 171 (by decide) (by decide +kernel)) (gV pw_55 pw_426 pw_427 pw_424 pw_425) hV_X10_spell 0 7 rfl rfl rfl [0, 1] [] rfl rfl (by decide) (by decide) (by decide) rfl (Nat.le_of_ble_eq_true rfl) dX10_init_71 ⟨Nat.le_of_ble_eq_true rfl, Nat.le_of_ble_eq_true rfl⟩ ⟨Nat.le_of_ble_eq_true rfl, Nat.le_of_ble_eq_true rfl⟩ (fun v36 f34 H locs hw35 hP hD hS => ?_)
  obtain rfl : v36 = none := hw35
  have hP : va_P G.1 pCl [(h0, .inr (7, [.ref q16, .int 220, .int 0, .null, .null, .null, .null, .null, .int 0, .null, .null, .null, .null, .int 0, .int 0])), (q16, .inl (G.2.1 1, 5220, .inl f34))] H := hP
  have hD : va_D A [(h0, .inr (7, [.ref q16, .int 220, .int 0, .null, .null, .null, .null, .null, .int 0, .null, .null, .null, .null, .int 0, .int 0])), (q16, .inl (G.2.1 1, 5220, .inl f34))] := hD
  refine W.widen (k := 1) (n := 5220) (Nat.le_of_ble_eq_true rfl) (Nat.le_of_ble_eq_true rfl) ?_
  refine W.eq (g2 := F0 m 74 ls []) rfl ?_
  refine lv_aload_n hx hb dX10_init_74 rfl (lv_at hl 3 rfl) ?_
  refine lv_sipush (v := 5000) hx hb dX10_init_75 (by decide) ?_
  refine pn_newa (G := G) (atype := .int) (a0 := (5000, .inl (fun _ => 0))) (N' := 5000) hx hb (hq _ pw_636) rfl hE.1.2.1 hP hD hS hA (fun _ => rfl) (by decide) (by decide) (by decide) (Nat.le_of_ble_eq_true rfl) (Nat.le_of_ble_eq_true rfl) dX10_init_78 (fun q37 H hP hD hS => ?_)
  have hP : va_P G.1 pCl [(h0, .inr (7, [.ref q16, .int 220, .int 0, .null, .null, .null, .null, .null, .int 0, .null, .null, .null, .null, .int 0, .int 0])), (q16, .inl (G.2.1 1, 5220, .inl f34)), (q37, .inl (G.2.1 0, 5000, .inl (fun _ => 0)))] H := hP
  have hD : va_D A [(h0, .inr (7, [.ref q16, .int 220, .int 0, .null, .null, .null, .null, .null, .int 0, .null, .null, .null, .null, .int 0, .int 0])), (q16, .inl (G.2.1 1, 5220, .inl f34)), (q37, .inl (G.2.1 0, 5000, .inl (fun _ => 0)))] := hD
  refine W.widen (k := 2) (n := 10220) (Nat.le_of_ble_eq_true rfl) (Nat.le_of_ble_eq_true rfl) ?_
  refine va_putF (D := G.1) (ci := 7) (v := .ref q37) (ty := (.array .int)) (C := RX10) (T := TX10) (N := 15) hx hb hq pin_wsX100 tyX10 tyX10_ok nmX10 hown hE.1.1 hP hD hS 0 rfl rfl 3 (by decide) (hq _ pw_56) (fun _ h9 => h9) rfl hin rfl (by decide +kernel) rfl rfl (Nat.le_of_ble_eq_true rfl) dX10_init_80 (fun H locs hP hD hS => ?_)
  have hP : va_P G.1 pCl [(h0, .inr (7, [.ref q16, .int 220, .int 0, .ref q37, .null, .null, .null, .null, .int 0, .null, .null, .null, .null, .int 0, .int 0])), (q16, .inl (G.2.1 1, 5220, .inl f34)), (q37, .inl (G.2.1 0, 5000, .inl (fun _ => 0)))] H := hP
  have hD : va_D A [(h0, .inr (7, [.ref q16, .int 220, .int 0, .ref q37, .null, .null, .null, .null, .int 0, .null, .null, .null, .null, .int 0, .int 0])), (q16, .inl (G.2.1 1, 5220, .inl f34)), (q37, .inl (G.2.1 0, 5000, .inl (fun _ => 0)))] := hD
  refine lv_aload_n hx hb dX10_init_83 rfl (lv_at hl 3 rfl) ?_
  refine lv_sipush (v := 5000) hx hb dX10_init_84 (by decide) ?_
  refine pn_newa (G := G) (atype := .int) (a0 := (5000, .inl (fun _ => 0))) (N' := 5000) hx hb (hq _ pw_636) rfl hE.1.2.1 hP hD hS hA (fun _ => rfl) (by decide) (by decide) (by decide) (Nat.le_of_ble_eq_true rfl) (Nat.le_of_ble_eq_true rfl) dX10_init_87 (fun q38 H hP hD hS => ?_)
  have hP : va_P G.1 pCl [(h0, .inr (7, [.ref q16, .int 220, .int 0, .ref q37, .null, .null, .null, .null, .int 0, .null, .null, .null, .null, .int 0, .int 0])), (q16, .inl (G.2.1 1, 5220, .inl f34)), (q37, .inl (G.2.1 0, 5000, .inl (fun _ => 0))), (q38, .inl (G.2.1 0, 5000, .inl (fun _ => 0)))] H := hP
  have hD : va_D A [(h0, .inr (7, [.ref q16, .int 220, .int 0, .ref q37, .null, .null, .null, .null, .int 0, .null, .null, .null, .null, .int 0, .int 0])), (q16, .inl (G.2.1 1, 5220, .inl f34)), (q37, .inl (G.2.1 0, 5000, .inl (fun _ => 0))), (q38, .inl (G.2.1 0, 5000, .inl (fun _ => 0)))] := hD
  refine W.widen (k := 3) (n := 15220) (Nat.le_of_ble_eq_true rfl) (Nat.le_of_ble_eq_true rfl) ?_
  refine va_putF (D := G.1) (ci := 7) (v := .ref q38) (ty := (.array .int)) (C := RX10) (T := TX10) (N := 15) hx hb hq pin_wsX100 tyX10 tyX10_ok nmX10 hown hE.1.1 hP hD hS 0 rfl rfl 4 (by decide) (hq _ pw_57) (fun _ h9 => h9) rfl hin rfl (by decide +kernel) rfl rfl (Nat.le_of_ble_eq_true rfl) dX10_init_89 (fun H locs hP hD hS => ?_)
  have hP : va_P G.1 pCl [(h0, .inr (7, [.ref q16, .int 220, .int 0, .ref q37, .ref q38, .null, .null, .null, .int 0, .null, .null, .null, .null, .int 0, .int 0])), (q16, .inl (G.2.1 1, 5220, .inl f34)), (q37, .inl (G.2.1 0, 5000, .inl (fun _ => 0))), (q38, .inl (G.2.1 0, 5000, .inl (fun _ => 0)))] H := hP
  have hD : va_D A [(h0, .inr (7, [.ref q16, .int 220, .int 0, .ref q37, .ref q38, .null, .null, .null, .int 0, .null, .null, .null, .null, .int 0, .int 0])), (q16, .inl (G.2.1 1, 5220, .inl f34)), (q37, .inl (G.2.1 0, 5000, .inl (fun _ => 0))), (q38, .inl (G.2.1 0, 5000, .inl (fun _ => 0)))] := hD
  refine lv_aload_n hx hb dX10_init_92 rfl (lv_at hl 3 rfl) ?_
  refine lv_sipush (v := 5000) hx hb dX10_init_93 (by decide) ?_
  refine pn_newa (G := G) (atype := .int) (a0 := (5000, .inl (fun _ => 0))) (N' := 5000) hx hb (hq _ pw_636) rfl hE.1.2.1 hP hD hS hA (fun _ => rfl) (by decide) (by decide) (by decide) (Nat.le_of_ble_eq_true rfl) (Nat.le_of_ble_eq_true rfl) dX10_init_96 (fun q39 H hP hD hS => ?_)
  have hP : va_P G.1 pCl [(h0, .inr (7, [.ref q16, .int 220, .int 0, .ref q37, .ref q38, .null, .null, .null, .int 0, .null, .null, .null, .null, .int 0, .int 0])), (q16, .inl (G.2.1 1, 5220, .inl f34)), (q37, .inl (G.2.1 0, 5000, .inl (fun _ => 0))), (q38, .inl (G.2.1 0, 5000, .inl (fun _ => 0))), (q39, .inl (G.2.1 0, 5000, .inl (fun _ => 0)))] H := hP
  have hD : va_D A [(h0, .inr (7, [.ref q16, .int 220, .int 0, .ref q37, .ref q38, .null, .null, .null, .int 0, .null, .null, .null, .null, .int 0, .int 0])), (q16, .inl (G.2.1 1, 5220, .inl f34)), (q37, .inl (G.2.1 0, 5000, .inl (fun _ => 0))), (q38, .inl (G.2.1 0, 5000, .inl (fun _ => 0))), (q39, .inl (G.2.1 0, 5000, .inl (fun _ => 0)))] := hD
  refine W.widen (k := 4) (n := 20220) (Nat.le_of_ble_eq_true rfl) (Nat.le_of_ble_eq_true rfl) ?_
  refine va_putF (D := G.1) (ci := 7) (v := .ref q39) (ty := (.array .int)) (C := RX10) (T := TX10) (N := 15) hx hb hq pin_wsX100 tyX10 tyX10_ok nmX10 hown hE.1.1 hP hD hS 0 rfl rfl 5 (by decide) (hq _ pw_58) (fun _ h9 => h9) rfl hin rfl (by decide +kernel) rfl rfl (Nat.le_of_ble_eq_true rfl) dX10_init_98 (fun H locs hP hD hS => ?_)
  have hP : va_P G.1 pCl [(h0, .inr (7, [.ref q16, .int 220, .int 0, .ref q37, .ref q38, .ref q39, .null, .null, .int 0, .null, .null, .null, .null, .int 0, .int 0])), (q16, .inl (G.2.1 1, 5220, .inl f34)), (q37, .inl (G.2.1 0, 5000, .inl (fun _ => 0))), (q38, .inl (G.2.1 0, 5000, .inl (fun _ => 0))), (q39, .inl (G.2.1 0, 5000, .inl (fun _ => 0)))] H := hP
  have hD : va_D A [(h0, .inr (7, [.ref q16, .int 220, .int 0, .ref q37, .ref q38, .ref q39, .null, .null, .int 0, .null, .null, .null, .null, .int 0, .int 0])), (q16, .inl (G.2.1 1, 5220, .inl f34)), (q37, .inl (G.2.1 0, 5000, .inl (fun _ => 0))), (q38, .inl (G.2.1 0, 5000, .inl (fun _ => 0))), (q39, .inl (G.2.1 0, 5000, .inl (fun _ => 0)))] := hD
  refine lv_aload_n hx hb dX10_init_101 rfl (lv_at hl 3 rfl) ?_
  refine lv_sipush (v := 5000) hx hb dX10_init_102 (by decide) ?_
  refine pn_newa (G := G) (atype := .byte) (a0 := (5000, .inl (fun _ => 0))) (N' := 5000) hx hb (hq _ pw_661) rfl hE.1.2.2.1 hP hD hS hA (fun _ => rfl) (by decide) (by decide) (by decide) (Nat.le_of_ble_eq_true rfl) (Nat.le_of_ble_eq_true rfl) dX10_init_105 (fun q40 H hP hD hS => ?_)
  have hP : va_P G.1 pCl [(h0, .inr (7, [.ref q16, .int 220, .int 0, .ref q37, .ref q38, .ref q39, .null, .null, .int 0, .null, .null, .null, .null, .int 0, .int 0])), (q16, .inl (G.2.1 1, 5220, .inl f34)), (q37, .inl (G.2.1 0, 5000, .inl (fun _ => 0))), (q38, .inl (G.2.1 0, 5000, .inl (fun _ => 0))), (q39, .inl (G.2.1 0, 5000, .inl (fun _ => 0))), (q40, .inl (G.2.1 1, 5000, .inl (fun _ => 0)))] H := hP
  have hD : va_D A [(h0, .inr (7, [.ref q16, .int 220, .int 0, .ref q37, .ref q38, .ref q39, .null, .null, .int 0, .null, .null, .null, .null, .int 0, .int 0])), (q16, .inl (G.2.1 1, 5220, .inl f34)), (q37, .inl (G.2.1 0, 5000, .inl (fun _ => 0))), (q38, .inl (G.2.1 0, 5000, .inl (fun _ => 0))), (q39, .inl (G.2.1 0, 5000, .inl (fun _ => 0))), (q40, .inl (G.2.1 1, 5000, .inl (fun _ => 0)))] := hD
  refine W.widen (k := 5) (n := 25220) (Nat.le_of_ble_eq_true rfl) (Nat.le_of_ble_eq_true rfl) ?_
  refine va_putF (D := G.1) (ci := 7) (v := .ref q40) (ty := (.array .byte)) (C := RX10) (T := TX10) (N := 15) hx hb hq pin_wsX100 tyX10 tyX10_ok nmX10 hown hE.1.1 hP hD hS 0 rfl rfl 6 (by decide) (hq _ pw_59) (fun _ h9 => h9) rfl hin rfl (by decide +kernel) rfl rfl (Nat.le_of_ble_eq_true rfl) dX10_init_107 (fun H locs hP hD hS => ?_)
  have hP : va_P G.1 pCl [(h0, .inr (7, [.ref q16, .int 220, .int 0, .ref q37, .ref q38, .ref q39, .ref q40, .null, .int 0, .null, .null, .null, .null, .int 0, .int 0])), (q16, .inl (G.2.1 1, 5220, .inl f34)), (q37, .inl (G.2.1 0, 5000, .inl (fun _ => 0))), (q38, .inl (G.2.1 0, 5000, .inl (fun _ => 0))), (q39, .inl (G.2.1 0, 5000, .inl (fun _ => 0))), (q40, .inl (G.2.1 1, 5000, .inl (fun _ => 0)))] H := hP
  have hD : va_D A [(h0, .inr (7, [.ref q16, .int 220, .int 0, .ref q37, .ref q38, .ref q39, .ref q40, .null, .int 0, .null, .null, .null, .null, .int 0, .int 0])), (q16, .inl (G.2.1 1, 5220, .inl f34)), (q37, .inl (G.2.1 0, 5000, .inl (fun _ => 0))), (q38, .inl (G.2.1 0, 5000, .inl (fun _ => 0))), (q39, .inl (G.2.1 0, 5000, .inl (fun _ => 0))), (q40, .inl (G.2.1 1, 5000, .inl (fun _ => 0)))] := hD
  refine lv_aload_n hx hb dX10_init_110 rfl (lv_at hl 3 rfl) ?_
  refine lv_sipush (v := 5000) hx hb dX10_init_111 (by decide) ?_
  refine pn_newa (G := G) (atype := .int) (a0 := (5000, .inl (fun _ => 0))) (N' := 5000) hx hb (hq _ pw_636) rfl hE.1.2.1 hP hD hS hA (fun _ => rfl) (by decide) (by decide) (by decide) (Nat.le_of_ble_eq_true rfl) (Nat.le_of_ble_eq_true rfl) dX10_init_114 (fun q41 H hP hD hS => ?_)
  have hP : va_P G.1 pCl [(h0, .inr (7, [.ref q16, .int 220, .int 0, .ref q37, .ref q38, .ref q39, .ref q40, .null, .int 0, .null, .null, .null, .null, .int 0, .int 0])), (q16, .inl (G.2.1 1, 5220, .inl f34)), (q37, .inl (G.2.1 0, 5000, .inl (fun _ => 0))), (q38, .inl (G.2.1 0, 5000, .inl (fun _ => 0))), (q39, .inl (G.2.1 0, 5000, .inl (fun _ => 0))), (q40, .inl (G.2.1 1, 5000, .inl (fun _ => 0))), (q41, .inl (G.2.1 0, 5000, .inl (fun _ => 0)))] H := hP
  have hD : va_D A [(h0, .inr (7, [.ref q16, .int 220, .int 0, .ref q37, .ref q38, .ref q39, .ref q40, .null, .int 0, .null, .null, .null, .null, .int 0, .int 0])), (q16, .inl (G.2.1 1, 5220, .inl f34)), (q37, .inl (G.2.1 0, 5000, .inl (fun _ => 0))), (q38, .inl (G.2.1 0, 5000, .inl (fun _ => 0))), (q39, .inl (G.2.1 0, 5000, .inl (fun _ => 0))), (q40, .inl (G.2.1 1, 5000, .inl (fun _ => 0))), (q41, .inl (G.2.1 0, 5000, .inl (fun _ => 0)))] := hD
  refine W.widen (k := 6) (n := 30220) (Nat.le_of_ble_eq_true rfl) (Nat.le_of_ble_eq_true rfl) ?_
  refine va_putF (D := G.1) (ci := 7) (v := .ref q41) (ty := (.array .int)) (C := RX10) (T := TX10) (N := 15) hx hb hq pin_wsX100 tyX10 tyX10_ok nmX10 hown hE.1.1 hP hD hS 0 rfl rfl 7 (by decide) (hq _ pw_60) (fun _ h9 => h9) rfl hin rfl (by decide +kernel) rfl rfl (Nat.le_of_ble_eq_true rfl) dX10_init_116 (fun H locs hP hD hS => ?_)
  have hP : va_P G.1 pCl [(h0, .inr (7, [.ref q16, .int 220, .int 0, .ref q37, .ref q38, .ref q39, .ref q40, .ref q41, .int 0, .null, .null, .null, .null, .int 0, .int 0])), (q16, .inl (G.2.1 1, 5220, .inl f34)), (q37, .inl (G.2.1 0, 5000, .inl (fun _ => 0))), (q38, .inl (G.2.1 0, 5000, .inl (fun _ => 0))), (q39, .inl (G.2.1 0, 5000, .inl (fun _ => 0))), (q40, .inl (G.2.1 1, 5000, .inl (fun _ => 0))), (q41, .inl (G.2.1 0, 5000, .inl (fun _ => 0)))] H := hP
  have hD : va_D A [(h0, .inr (7, [.ref q16, .int 220, .int 0, .ref q37, .ref q38, .ref q39, .ref q40, .ref q41, .int 0, .null, .null, .null, .null, .int 0, .int 0])), (q16, .inl (G.2.1 1, 5220, .inl f34)), (q37, .inl (G.2.1 0, 5000, .inl (fun _ => 0))), (q38, .inl (G.2.1 0, 5000, .inl (fun _ => 0))), (q39, .inl (G.2.1 0, 5000, .inl (fun _ => 0))), (q40, .inl (G.2.1 1, 5000, .inl (fun _ => 0))), (q41, .inl (G.2.1 0, 5000, .inl (fun _ => 0)))] := hD
  refine lv_aload_n hx hb dX10_init_119 rfl (lv_at hl 3 rfl) ?_
  refine lv_sipush (v := 2540) hx hb dX10_init_120 (by decide) ?_
  refine pn_newa (G := G) (atype := .int) (a0 := (2540, .inl (fun _ => 0))) (N' := 2540) hx hb (hq _ pw_636) rfl hE.1.2.1 hP hD hS hA (fun _ => rfl) (by decide) (by decide) (by decide) (Nat.le_of_ble_eq_true rfl) (Nat.le_of_ble_eq_true rfl) dX10_init_123 (fun q42 H hP hD hS => ?_)
  have hP : va_P G.1 pCl [(h0, .inr (7, [.ref q16, .int 220, .int 0, .ref q37, .ref q38, .ref q39, .ref q40, .ref q41, .int 0, .null, .null, .null, .null, .int 0, .int 0])), (q16, .inl (G.2.1 1, 5220, .inl f34)), (q37, .inl (G.2.1 0, 5000, .inl (fun _ => 0))), (q38, .inl (G.2.1 0, 5000, .inl (fun _ => 0))), (q39, .inl (G.2.1 0, 5000, .inl (fun _ => 0))), (q40, .inl (G.2.1 1, 5000, .inl (fun _ => 0))), (q41, .inl (G.2.1 0, 5000, .inl (fun _ => 0))), (q42, .inl (G.2.1 0, 2540, .inl (fun _ => 0)))] H := hP
  have hD : va_D A [(h0, .inr (7, [.ref q16, .int 220, .int 0, .ref q37, .ref q38, .ref q39, .ref q40, .ref q41, .int 0, .null, .null, .null, .null, .int 0, .int 0])), (q16, .inl (G.2.1 1, 5220, .inl f34)), (q37, .inl (G.2.1 0, 5000, .inl (fun _ => 0))), (q38, .inl (G.2.1 0, 5000, .inl (fun _ => 0))), (q39, .inl (G.2.1 0, 5000, .inl (fun _ => 0))), (q40, .inl (G.2.1 1, 5000, .inl (fun _ => 0))), (q41, .inl (G.2.1 0, 5000, .inl (fun _ => 0))), (q42, .inl (G.2.1 0, 2540, .inl (fun _ => 0)))] := hD
  refine W.widen (k := 7) (n := 32760) (Nat.le_of_ble_eq_true rfl) (Nat.le_of_ble_eq_true rfl) ?_
  refine va_putF (D := G.1) (ci := 7) (v := .ref q42) (ty := (.array .int)) (C := RX10) (T := TX10) (N := 15) hx hb hq pin_wsX100 tyX10 tyX10_ok nmX10 hown hE.1.1 hP hD hS 0 rfl rfl 9 (by decide) (hq _ pw_61) (fun _ h9 => h9) rfl hin rfl (by decide +kernel) rfl rfl (Nat.le_of_ble_eq_true rfl) dX10_init_125 (fun H locs hP hD hS => ?_)
  have hP : va_P G.1 pCl [(h0, .inr (7, [.ref q16, .int 220, .int 0, .ref q37, .ref q38, .ref q39, .ref q40, .ref q41, .int 0, .ref q42, .null, .null, .null, .int 0, .int 0])), (q16, .inl (G.2.1 1, 5220, .inl f34)), (q37, .inl (G.2.1 0, 5000, .inl (fun _ => 0))), (q38, .inl (G.2.1 0, 5000, .inl (fun _ => 0))), (q39, .inl (G.2.1 0, 5000, .inl (fun _ => 0))), (q40, .inl (G.2.1 1, 5000, .inl (fun _ => 0))), (q41, .inl (G.2.1 0, 5000, .inl (fun _ => 0))), (q42, .inl (G.2.1 0, 2540, .inl (fun _ => 0)))] H := hP
  have hD : va_D A [(h0, .inr (7, [.ref q16, .int 220, .int 0, .ref q37, .ref q38, .ref q39, .ref q40, .ref q41, .int 0, .ref q42, .null, .null, .null, .int 0, .int 0])), (q16, .inl (G.2.1 1, 5220, .inl f34)), (q37, .inl (G.2.1 0, 5000, .inl (fun _ => 0))), (q38, .inl (G.2.1 0, 5000, .inl (fun _ => 0))), (q39, .inl (G.2.1 0, 5000, .inl (fun _ => 0))), (q40, .inl (G.2.1 1, 5000, .inl (fun _ => 0))), (q41, .inl (G.2.1 0, 5000, .inl (fun _ => 0))), (q42, .inl (G.2.1 0, 2540, .inl (fun _ => 0)))] := hD
  refine lv_aload_n hx hb dX10_init_128 rfl (lv_at hl 3 rfl) ?_
  refine lv_sipush (v := 2540) hx hb dX10_init_129 (by decide) ?_
  refine pn_newa (G := G) (atype := .int) (a0 := (2540, .inl (fun _ => 0))) (N' := 2540) hx hb (hq _ pw_636) rfl hE.1.2.1 hP hD hS hA (fun _ => rfl) (by decide) (by decide) (by decide) (Nat.le_of_ble_eq_true rfl) (Nat.le_of_ble_eq_true rfl) dX10_init_132 (fun q43 H hP hD hS => ?_)
  have hP : va_P G.1 pCl [(h0, .inr (7, [.ref q16, .int 220, .int 0, .ref q37, .ref q38, .ref q39, .ref q40, .ref q41, .int 0, .ref q42, .null, .null, .null, .int 0, .int 0])), (q16, .inl (G.2.1 1, 5220, .inl f34)), (q37, .inl (G.2.1 0, 5000, .inl (fun _ => 0))), (q38, .inl (G.2.1 0, 5000, .inl (fun _ => 0))), (q39, .inl (G.2.1 0, 5000, .inl (fun _ => 0))), (q40, .inl (G.2.1 1, 5000, .inl (fun _ => 0))), (q41, .inl (G.2.1 0, 5000, .inl (fun _ => 0))), (q42, .inl (G.2.1 0, 2540, .inl (fun _ => 0))), (q43, .inl (G.2.1 0, 2540, .inl (fun _ => 0)))] H := hP
  have hD : va_D A [(h0, .inr (7, [.ref q16, .int 220, .int 0, .ref q37, .ref q38, .ref q39, .ref q40, .ref q41, .int 0, .ref q42, .null, .null, .null, .int 0, .int 0])), (q16, .inl (G.2.1 1, 5220, .inl f34)), (q37, .inl (G.2.1 0, 5000, .inl (fun _ => 0))), (q38, .inl (G.2.1 0, 5000, .inl (fun _ => 0))), (q39, .inl (G.2.1 0, 5000, .inl (fun _ => 0))), (q40, .inl (G.2.1 1, 5000, .inl (fun _ => 0))), (q41, .inl (G.2.1 0, 5000, .inl (fun _ => 0))), (q42, .inl (G.2.1 0, 2540, .inl (fun _ => 0))), (q43, .inl (G.2.1 0, 2540, .inl (fun _ => 0)))] := hD
  refine W.widen (k := 8) (n := 35300) (Nat.le_of_ble_eq_true rfl) (Nat.le_of_ble_eq_true rfl) ?_
  refine va_putF (D := G.1) (ci := 7) (v := .ref q43) (ty := (.array .int)) (C := RX10) (T := TX10) (N := 15) hx hb hq pin_wsX100 tyX10 tyX10_ok nmX10 hown hE.1.1 hP hD hS 0 rfl rfl 10 (by decide) (hq _ pw_62) (fun _ h9 => h9) rfl hin rfl (by decide +kernel) rfl rfl (Nat.le_of_ble_eq_true rfl) dX10_init_134 (fun H locs hP hD hS => ?_)
  have hP : va_P G.1 pCl [(h0, .inr (7, [.ref q16, .int 220, .int 0, .ref q37, .ref q38, .ref q39, .ref q40, .ref q41, .int 0, .ref q42, .ref q43, .null, .null, .int 0, .int 0])), (q16, .inl (G.2.1 1, 5220, .inl f34)), (q37, .inl (G.2.1 0, 5000, .inl (fun _ => 0))), (q38, .inl (G.2.1 0, 5000, .inl (fun _ => 0))), (q39, .inl (G.2.1 0, 5000, .inl (fun _ => 0))), (q40, .inl (G.2.1 1, 5000, .inl (fun _ => 0))), (q41, .inl (G.2.1 0, 5000, .inl (fun _ => 0))), (q42, .inl (G.2.1 0, 2540, .inl (fun _ => 0))), (q43, .inl (G.2.1 0, 2540, .inl (fun _ => 0)))] H := hP
  have hD : va_D A [(h0, .inr (7, [.ref q16, .int 220, .int 0, .ref q37, .ref q38, .ref q39, .ref q40, .ref q41, .int 0, .ref q42, .ref q43, .null, .null, .int 0, .int 0])), (q16, .inl (G.2.1 1, 5220, .inl f34)), (q37, .inl (G.2.1 0, 5000, .inl (fun _ => 0))), (q38, .inl (G.2.1 0, 5000, .inl (fun _ => 0))), (q39, .inl (G.2.1 0, 5000, .inl (fun _ => 0))), (q40, .inl (G.2.1 1, 5000, .inl (fun _ => 0))), (q41, .inl (G.2.1 0, 5000, .inl (fun _ => 0))), (q42, .inl (G.2.1 0, 2540, .inl (fun _ => 0))), (q43, .inl (G.2.1 0, 2540, .inl (fun _ => 0)))] := hD
  refine lv_aload_n hx hb dX10_init_137 rfl (lv_at hl 3 rfl) ?_
  refine lv_sipush (v := 2540) hx hb dX10_init_138 (by decide) ?_
  refine pn_newa (G := G) (atype := .int) (a0 := (2540, .inl (fun _ => 0))) (N' := 2540) hx hb (hq _ pw_636) rfl hE.1.2.1 hP hD hS hA (fun _ => rfl) (by decide) (by decide) (by decide) (Nat.le_of_ble_eq_true rfl) (Nat.le_of_ble_eq_true rfl) dX10_init_141 (fun q44 H hP hD hS => ?_)
  have hP : va_P G.1 pCl [(h0, .inr (7, [.ref q16, .int 220, .int 0, .ref q37, .ref q38, .ref q39, .ref q40, .ref q41, .int 0, .ref q42, .ref q43, .null, .null, .int 0, .int 0])), (q16, .inl (G.2.1 1, 5220, .inl f34)), (q37, .inl (G.2.1 0, 5000, .inl (fun _ => 0))), (q38, .inl (G.2.1 0, 5000, .inl (fun _ => 0))), (q39, .inl (G.2.1 0, 5000, .inl (fun _ => 0))), (q40, .inl (G.2.1 1, 5000, .inl (fun _ => 0))), (q41, .inl (G.2.1 0, 5000, .inl (fun _ => 0))), (q42, .inl (G.2.1 0, 2540, .inl (fun _ => 0))), (q43, .inl (G.2.1 0, 2540, .inl (fun _ => 0))), (q44, .inl (G.2.1 0, 2540, .inl (fun _ => 0)))] H := hP
  have hD : va_D A [(h0, .inr (7, [.ref q16, .int 220, .int 0, .ref q37, .ref q38, .ref q39, .ref q40, .ref q41, .int 0, .ref q42, .ref q43, .null, .null, .int 0, .int 0])), (q16, .inl (G.2.1 1, 5220, .inl f34)), (q37, .inl (G.2.1 0, 5000, .inl (fun _ => 0))), (q38, .inl (G.2.1 0, 5000, .inl (fun _ => 0))), (q39, .inl (G.2.1 0, 5000, .inl (fun _ => 0))), (q40, .inl (G.2.1 1, 5000, .inl (fun _ => 0))), (q41, .inl (G.2.1 0, 5000, .inl (fun _ => 0))), (q42, .inl (G.2.1 0, 2540, .inl (fun _ => 0))), (q43, .inl (G.2.1 0, 2540, .inl (fun _ => 0))), (q44, .inl (G.2.1 0, 2540, .inl (fun _ => 0)))] := hD
  refine W.widen (k := 9) (n := 37840) (Nat.le_of_ble_eq_true rfl) (Nat.le_of_ble_eq_true rfl) ?_
  refine va_putF (D := G.1) (ci := 7) (v := .ref q44) (ty := (.array .int)) (C := RX10) (T := TX10) (N := 15) hx hb hq pin_wsX100 tyX10 tyX10_ok nmX10 hown hE.1.1 hP hD hS 0 rfl rfl 11 (by decide) (hq _ pw_63) (fun _ h9 => h9) rfl hin rfl (by decide +kernel) rfl rfl (Nat.le_of_ble_eq_true rfl) dX10_init_143 (fun H locs hP hD hS => ?_)
  have hP : va_P G.1 pCl [(h0, .inr (7, [.ref q16, .int 220, .int 0, .ref q37, .ref q38, .ref q39, .ref q40, .ref q41, .int 0, .ref q42, .ref q43, .ref q44, .null, .int 0, .int 0])), (q16, .inl (G.2.1 1, 5220, .inl f34)), (q37, .inl (G.2.1 0, 5000, .inl (fun _ => 0))), (q38, .inl (G.2.1 0, 5000, .inl (fun _ => 0))), (q39, .inl (G.2.1 0, 5000, .inl (fun _ => 0))), (q40, .inl (G.2.1 1, 5000, .inl (fun _ => 0))), (q41, .inl (G.2.1 0, 5000, .inl (fun _ => 0))), (q42, .inl (G.2.1 0, 2540, .inl (fun _ => 0))), (q43, .inl (G.2.1 0, 2540, .inl (fun _ => 0))), (q44, .inl (G.2.1 0, 2540, .inl (fun _ => 0)))] H := hP
  have hD : va_D A [(h0, .inr (7, [.ref q16, .int 220, .int 0, .ref q37, .ref q38, .ref q39, .ref q40, .ref q41, .int 0, .ref q42, .ref q43, .ref q44, .null, .int 0, .int 0])), (q16, .inl (G.2.1 1, 5220, .inl f34)), (q37, .inl (G.2.1 0, 5000, .inl (fun _ => 0))), (q38, .inl (G.2.1 0, 5000, .inl (fun _ => 0))), (q39, .inl (G.2.1 0, 5000, .inl (fun _ => 0))), (q40, .inl (G.2.1 1, 5000, .inl (fun _ => 0))), (q41, .inl (G.2.1 0, 5000, .inl (fun _ => 0))), (q42, .inl (G.2.1 0, 2540, .inl (fun _ => 0))), (q43, .inl (G.2.1 0, 2540, .inl (fun _ => 0))), (q44, .inl (G.2.1 0, 2540, .inl (fun _ => 0)))] := hD
  refine lv_aload_n hx hb dX10_init_146 rfl (lv_at hl 3 rfl) ?_
  refine lv_sipush (v := 256) hx hb dX10_init_147 (by decide) ?_
  refine pn_newa (G := G) (atype := .int) (a0 := (256, .inl (fun _ => 0))) (N' := 256) hx hb (hq _ pw_636) rfl hE.1.2.1 hP hD hS hA (fun _ => rfl) (by decide) (by decide) (by decide) (Nat.le_of_ble_eq_true rfl) (Nat.le_of_ble_eq_true rfl) dX10_init_150 (fun q45 H hP hD hS => ?_)
  have hP : va_P G.1 pCl [(h0, .inr (7, [.ref q16, .int 220, .int 0, .ref q37, .ref q38, .ref q39, .ref q40, .ref q41, .int 0, .ref q42, .ref q43, .ref q44, .null, .int 0, .int 0])), (q16, .inl (G.2.1 1, 5220, .inl f34)), (q37, .inl (G.2.1 0, 5000, .inl (fun _ => 0))), (q38, .inl (G.2.1 0, 5000, .inl (fun _ => 0))), (q39, .inl (G.2.1 0, 5000, .inl (fun _ => 0))), (q40, .inl (G.2.1 1, 5000, .inl (fun _ => 0))), (q41, .inl (G.2.1 0, 5000, .inl (fun _ => 0))), (q42, .inl (G.2.1 0, 2540, .inl (fun _ => 0))), (q43, .inl (G.2.1 0, 2540, .inl (fun _ => 0))), (q44, .inl (G.2.1 0, 2540, .inl (fun _ => 0))), (q45, .inl (G.2.1 0, 256, .inl (fun _ => 0)))] H := hP
  have hD : va_D A [(h0, .inr (7, [.ref q16, .int 220, .int 0, .ref q37, .ref q38, .ref q39, .ref q40, .ref q41, .int 0, .ref q42, .ref q43, .ref q44, .null, .int 0, .int 0])), (q16, .inl (G.2.1 1, 5220, .inl f34)), (q37, .inl (G.2.1 0, 5000, .inl (fun _ => 0))), (q38, .inl (G.2.1 0, 5000, .inl (fun _ => 0))), (q39, .inl (G.2.1 0, 5000, .inl (fun _ => 0))), (q40, .inl (G.2.1 1, 5000, .inl (fun _ => 0))), (q41, .inl (G.2.1 0, 5000, .inl (fun _ => 0))), (q42, .inl (G.2.1 0, 2540, .inl (fun _ => 0))), (q43, .inl (G.2.1 0, 2540, .inl (fun _ => 0))), (q44, .inl (G.2.1 0, 2540, .inl (fun _ => 0))), (q45, .inl (G.2.1 0, 256, .inl (fun _ => 0)))] := hD
  refine W.widen (k := 10) (n := 38096) (Nat.le_of_ble_eq_true rfl) (Nat.le_of_ble_eq_true rfl) ?_
  refine va_putF (D := G.1) (ci := 7) (v := .ref q45) (ty := (.array .int)) (C := RX10) (T := TX10) (N := 15) hx hb hq pin_wsX100 tyX10 tyX10_ok nmX10 hown hE.1.1 hP hD hS 0 rfl rfl 12 (by decide) (hq _ pw_64) (fun _ h9 => h9) rfl hin rfl (by decide +kernel) rfl rfl (Nat.le_of_ble_eq_true rfl) dX10_init_152 (fun H locs hP hD hS => ?_)
  have hP : va_P G.1 pCl [(h0, .inr (7, [.ref q16, .int 220, .int 0, .ref q37, .ref q38, .ref q39, .ref q40, .ref q41, .int 0, .ref q42, .ref q43, .ref q44, .ref q45, .int 0, .int 0])), (q16, .inl (G.2.1 1, 5220, .inl f34)), (q37, .inl (G.2.1 0, 5000, .inl (fun _ => 0))), (q38, .inl (G.2.1 0, 5000, .inl (fun _ => 0))), (q39, .inl (G.2.1 0, 5000, .inl (fun _ => 0))), (q40, .inl (G.2.1 1, 5000, .inl (fun _ => 0))), (q41, .inl (G.2.1 0, 5000, .inl (fun _ => 0))), (q42, .inl (G.2.1 0, 2540, .inl (fun _ => 0))), (q43, .inl (G.2.1 0, 2540, .inl (fun _ => 0))), (q44, .inl (G.2.1 0, 2540, .inl (fun _ => 0))), (q45, .inl (G.2.1 0, 256, .inl (fun _ => 0)))] H := hP
  have hD : va_D A [(h0, .inr (7, [.ref q16, .int 220, .int 0, .ref q37, .ref q38, .ref q39, .ref q40, .ref q41, .int 0, .ref q42, .ref q43, .ref q44, .ref q45, .int 0, .int 0])), (q16, .inl (G.2.1 1, 5220, .inl f34)), (q37, .inl (G.2.1 0, 5000, .inl (fun _ => 0))), (q38, .inl (G.2.1 0, 5000, .inl (fun _ => 0))), (q39, .inl (G.2.1 0, 5000, .inl (fun _ => 0))), (q40, .inl (G.2.1 1, 5000, .inl (fun _ => 0))), (q41, .inl (G.2.1 0, 5000, .inl (fun _ => 0))), (q42, .inl (G.2.1 0, 2540, .inl (fun _ => 0))), (q43, .inl (G.2.1 0, 2540, .inl (fun _ => 0))), (q44, .inl (G.2.1 0, 2540, .inl (fun _ => 0))), (q45, .inl (G.2.1 0, 256, .inl (fun _ => 0)))] := hD
  refine W.widen (k := 10) (n := 38096) (Nat.le_of_ble_eq_true rfl) (Nat.le_of_ble_eq_true rfl) ?_
  exact W.vret hx hb hr (fun t ht hW => ⟨⟨_, ((fun k => match k with | 0 => q16 | 1 => q37 | 2 => q38 | 3 => q39 | 4 => q40 | 5 => q41 | 6 => q42 | 7 => q43 | 8 => q44 | _ => q45), (fun k => match k with | _ => f34), (fun _ => fun _ => 0)), rfl, rfl, by rw [ht]; exact hP.sub [0, 1, 2, 3, 4, 5, 6, 7, 8, 9, 10] rfl, hD.sub [0, 1, 2, 3, 4, 5, 6, 7, 8, 9, 10] (by decide) rfl⟩, hS.F ht⟩) hS.2.2 dX10_init_155
theorem dX11_init_0 : decode cX11_init 0 = .ok (.aload_n 0, 1) := by decide +kernel
theorem dX11_init_1 : decode cX11_init 1 = .ok (.invokespecial 1, 3) := by decide +kernel
theorem dX11_init_4 : decode cX11_init 4 = .ok (.aload_n 0, 1) := by decide +kernel
theorem dX11_init_5 : decode cX11_init 5 = .ok (.sipush 5000, 3) := by decide +kernel
theorem dX11_init_8 : decode cX11_init 8 = .ok (.newarray .byte, 2) := by decide +kernel
theorem dX11_init_10 : decode cX11_init 10 = .ok (.putfield 9, 3) := by decide +kernel
theorem dX11_init_13 : decode cX11_init 13 = .ok (.aload_n 0, 1) := by decide +kernel
theorem dX11_init_14 : decode cX11_init 14 = .ok (.new 13, 3) := by decide +kernel
theorem dX11_init_17 : decode cX11_init 17 = .ok (.dup, 1) := by decide +kernel
theorem dX11_init_18 : decode cX11_init 18 = .ok (.invokespecial 15, 3) := by decide +kernel
theorem dX11_init_21 : decode cX11_init 21 = .ok (.putfield 16, 3) := by decide +kernel
theorem dX11_init_24 : decode cX11_init 24 = .ok (.aload_n 0, 1) := by decide +kernel
theorem dX11_init_25 : decode cX11_init 25 = .ok (.new 20, 3) := by decide +kernel
theorem dX11_init_28 : decode cX11_init 28 = .ok (.dup, 1) := by decide +kernel
theorem dX11_init_29 : decode cX11_init 29 = .ok (.invokespecial 22, 3) := by decide +kernel
theorem dX11_init_32 : decode cX11_init 32 = .ok (.putfield 23, 3) := by decide +kernel
theorem dX11_init_35 : decode cX11_init 35 = .ok (.aload_n 0, 1) := by decide +kernel
theorem dX11_init_36 : decode cX11_init 36 = .ok (.new 27, 3) := by decide +kernel
theorem dX11_init_39 : decode cX11_init 39 = .ok (.dup, 1) := by decide +kernel
theorem dX11_init_40 : decode cX11_init 40 = .ok (.aload_n 0, 1) := by decide +kernel
theorem dX11_init_41 : decode cX11_init 41 = .ok (.getfield 16, 3) := by decide +kernel
theorem dX11_init_44 : decode cX11_init 44 = .ok (.invokespecial 29, 3) := by decide +kernel
theorem dX11_init_47 : decode cX11_init 47 = .ok (.putfield 32, 3) := by decide +kernel
theorem dX11_init_50 : decode cX11_init 50 = .ok (.aload_n 0, 1) := by decide +kernel
theorem dX11_init_51 : decode cX11_init 51 = .ok (.new 36, 3) := by decide +kernel
theorem dX11_init_54 : decode cX11_init 54 = .ok (.dup, 1) := by decide +kernel
theorem dX11_init_55 : decode cX11_init 55 = .ok (.aload_n 0, 1) := by decide +kernel
theorem dX11_init_56 : decode cX11_init 56 = .ok (.getfield 16, 3) := by decide +kernel
theorem dX11_init_59 : decode cX11_init 59 = .ok (.aload_n 0, 1) := by decide +kernel
theorem dX11_init_60 : decode cX11_init 60 = .ok (.getfield 23, 3) := by decide +kernel
theorem dX11_init_63 : decode cX11_init 63 = .ok (.invokespecial 38, 3) := by decide +kernel
theorem dX11_init_66 : decode cX11_init 66 = .ok (.putfield 41, 3) := by decide +kernel
theorem dX11_init_69 : decode cX11_init 69 = .ok (.aload_n 0, 1) := by decide +kernel
theorem dX11_init_70 : decode cX11_init 70 = .ok (.new 45, 3) := by decide +kernel
theorem dX11_init_73 : decode cX11_init 73 = .ok (.dup, 1) := by decide +kernel
theorem dX11_init_74 : decode cX11_init 74 = .ok (.aload_n 0, 1) := by decide +kernel
theorem dX11_init_75 : decode cX11_init 75 = .ok (.getfield 23, 3) := by decide +kernel
theorem dX11_init_78 : decode cX11_init 78 = .ok (.invokespecial 47, 3) := by decide +kernel
theorem dX11_init_81 : decode cX11_init 81 = .ok (.putfield 50, 3) := by decide +kernel
theorem dX11_init_84 : decode cX11_init 84 = .ok (.return_, 1) := by decide +kernel
theorem hS_X10_init : yX10_init.cls ≠ "java/lang/invoke/MethodHandle" ∧ yX10_init.cls ≠ "java/lang/invoke/VarHandle" ∧ (parseMethodDescriptor yX10_init.desc).map (fun d => d.parameters.length) = some 0 := by decide +kernel
theorem hS_X1_init : yX1_init.cls ≠ "java/lang/invoke/MethodHandle" ∧ yX1_init.cls ≠ "java/lang/invoke/VarHandle" ∧ (parseMethodDescriptor yX1_init.desc).map (fun d => d.parameters.length) = some 0 := by decide +kernel
theorem hS_X8_init : yX8_init.cls ≠ "java/lang/invoke/MethodHandle" ∧ yX8_init.cls ≠ "java/lang/invoke/VarHandle" ∧ (parseMethodDescriptor yX8_init.desc).map (fun d => d.parameters.length) = some 1 := by decide +kernel
theorem hS_X0_init : yX0_init.cls ≠ "java/lang/invoke/MethodHandle" ∧ yX0_init.cls ≠ "java/lang/invoke/VarHandle" ∧ (parseMethodDescriptor yX0_init.desc).map (fun d => d.parameters.length) = some 2 := by decide +kernel
theorem hS_X5_init : yX5_init.cls ≠ "java/lang/invoke/MethodHandle" ∧ yX5_init.cls ≠ "java/lang/invoke/VarHandle" ∧ (parseMethodDescriptor yX5_init.desc).map (fun d => d.parameters.length) = some 1 := by decide +kernel
set_option maxHeartbeats 1000000 in
set_option maxRecDepth 100000 in
/-- JinjaTongue() -/
theorem c_JT_init (l : Launch) (G : pT) (h0 : Nat) : PM l G pX0 yX11_init cX11_init 1 none ({ frames := 8, cells := 36, slots := 125309, locals := 191 }) [.ref h0] [(h0, .inr (8, [.null, .int 0, .null, .null, .null, .null, .null, .null]))] (fun (v : Option Value) (u : (Nat → Nat) × (Nat → Nat → Int32) × (Nat → Nat → Int64)) => v = none) (fun u => [(h0, .inr (8, [.ref (u.1 0), .int 0, .ref (u.1 1), .ref (u.1 12), .ref (u.1 22), .ref (u.1 23), .ref (u.1 27), .null])), ((u.1 0), .inl (G.2.1 1, 5000, .inl (fun _ => 0))), ((u.1 1), .inr (7, [.ref (u.1 2), .int 220, .int 0, .ref (u.1 3), .ref (u.1 4), .ref (u.1 5), .ref (u.1 6), .ref (u.1 7), .int 0, .ref (u.1 8), .ref (u.1 9), .ref (u.1 10), .ref (u.1 11), .int 0, .int 0])), ((u.1 2), .inl (G.2.1 1, 5220, .inl (u.2.1 0))), ((u.1 3), .inl (G.2.1 0, 5000, .inl (fun _ => 0))), ((u.1 4), .inl (G.2.1 0, 5000, .inl (fun _ => 0))), ((u.1 5), .inl (G.2.1 0, 5000, .inl (fun _ => 0))), ((u.1 6), .inl (G.2.1 1, 5000, .inl (fun _ => 0))), ((u.1 7), .inl (G.2.1 0, 5000, .inl (fun _ => 0))), ((u.1 8), .inl (G.2.1 0, 2540, .inl (fun _ => 0))), ((u.1 9), .inl (G.2.1 0, 2540, .inl (fun _ => 0))), ((u.1 10), .inl (G.2.1 0, 2540, .inl (fun _ => 0))), ((u.1 11), .inl (G.2.1 0, 256, .inl (fun _ => 0))), ((u.1 12), .inr (1, [.ref (u.1 13), .ref (u.1 14), .ref (u.1 15), .ref (u.1 16), .int 0, .ref (u.1 17), .ref (u.1 18), .ref (u.1 19), .ref (u.1 20), .ref (u.1 21), .int 0, .int 0, .int 0])), ((u.1 13), .inl (G.2.1 0, 10000, .inl (fun _ => 0))), ((u.1 14), .inl (G.2.1 0, 10000, .inl (fun _ => 0))), ((u.1 15), .inl (G.2.1 0, 10000, .inl (fun _ => 0))), ((u.1 16), .inl (G.2.1 0, 10000, .inl (fun _ => 0))), ((u.1 17), .inl (G.2.1 0, 625, .inl (fun _ => 0))), ((u.1 18), .inl (G.2.1 0, 625, .inl (fun _ => 0))), ((u.1 19), .inl (G.2.1 0, 625, .inl (fun _ => 0))), ((u.1 20), .inl (G.2.1 0, 625, .inl (fun _ => 0))), ((u.1 21), .inl (G.2.1 0, 625, .inl (fun _ => 0))), ((u.1 22), .inr (5, [.ref (u.1 1), .null, .int 0, .int 0, .int 0])), ((u.1 23), .inr (0, [.ref (u.1 1), .ref (u.1 12), .ref (u.1 24), .ref (u.1 25), .ref (u.1 26), .int 0, .null, .null, .int 0, .int 0, .int 0, .null, .int 0])), ((u.1 24), .inl (G.2.1 0, 30, .inl (fun _ => 0))), ((u.1 25), .inl (G.2.1 0, 30, .inl (fun _ => 0))), ((u.1 26), .inl (G.2.1 0, 30, .inl (fun _ => 0))), ((u.1 27), .inr (4, [.ref (u.1 12), .ref (u.1 28), .ref (u.1 31), .ref (u.1 32), .ref (u.1 33), .int 0, .ref (u.1 34), .ref (u.1 35), .null, .null, .int 0, .int 0, .int 0, .int 0, .long 0, .int 0, .int 0, .int 0, .int 0])), ((u.1 28), .inr (3, [.ref (u.1 29), .ref (u.1 30), .int 8, .int 0, .int 0])), ((u.1 29), .inl (G.2.1 2, 3008, .inr (.inl (u.2.2 0)))), ((u.1 30), .inl (G.2.1 2, 3008, .inr (.inl (u.2.2 1)))), ((u.1 31), .inl (G.2.1 2, 32000, .inr (.inl (fun _ => 0)))), ((u.1 32), .inl (G.2.1 0, 300, .inl (fun _ => 0))), ((u.1 33), .inl (G.2.1 0, 200, .inl (fun _ => 0))), ((u.1 34), .inl (G.2.1 0, 400, .inl (fun _ => 0))), ((u.1 35), .inl (G.2.1 0, 12, .inl (fun _ => 0)))]) := by
  intro sz
  refine Met.ofW (cc := cX11_init) (maxL := 1) (ret := none) (by decide) rfl ?_
  intro p e s m args below meth c s₁ B hml hv
  obtain ⟨rfl, hsz, hP, hD0, hE, hX⟩ := hv
  have hx := B.exec
  have hb := B.bytes
  have hr := B.returns
  have hts := atoms_spec (ws := Cond.code yX11_init cX11_init 1 none :: pw) B.pre
  have hq : ∀ w ∈ pw, w.before _ s = true := fun w h => hts w (List.mem_cons_of_mem _ h)
  have hown : s.vm.findClass RX11 = some m.cls := findClass_of_methodNamed B.named
  have hlocks := B.notSynchronized
  have hin : meth.name = "<init>" := (name_of_methodNamed B.named B.method).1
  subst hsz
  have hD := hD0.self (sz := s.heap.size)
  have hA : ∀ q : Nat, s.heap.size ≤ q → va_A [(h0, .inr (8, [.null, .int 0, .null, .null, .null, .null, .null, .null]))] s.heap.size q := fun q h => Or.inr h
  have hP : va_P G.1 pCl [(h0, .inr (8, [.null, .int 0, .null, .null, .null, .null, .null, .null]))] s.heap := hP
  generalize va_A [(h0, .inr (8, [.null, .int 0, .null, .null, .null, .null, .null, .null]))] s.heap.size = A at hD hE hA ⊢
  have hS : va_S A s.heap s.heap [] := va_S.rf
  have hl := lv_entry ([.ref h0]) (n := 1) (Nat.le_of_ble_eq_true rfl)
  rw [lg_entry_eq]
  generalize (lg_sl ([.ref h0]) ++ List.replicate (1 - (lg_sl ([.ref h0])).length) Slot.unset).toArray = ls at hl ⊢
  have hl : lv_has ls 1 [(0, .ref h0)] := hl
  refine lv_aload_n hx hb dX11_init_0 rfl (lv_at hl 0 rfl) ?_
  refine W.objInit hx hb hown (hq _ pw_0) (hq _ pw_634) (hq _ pw_635) rfl (by rw [hml]; exact hl.1) rfl dX11_init_1 (Nat.le_of_ble_eq_true rfl) (Nat.le_of_ble_eq_true rfl) ?_
  refine W.eq (g2 := F0 m 4 ls []) rfl ?_
  refine lv_aload_n hx hb dX11_init_4 rfl (lv_at hl 0 rfl) ?_
  refine lv_sipush (v := 5000) hx hb dX11_init_5 (by decide) ?_
  refine pn_newa (G := G) (atype := .byte) (a0 := (5000, .inl (fun _ => 0))) (N' := 5000) hx hb (hq _ pw_661) rfl hE.1.2.2.1 hP hD hS hA (fun _ => rfl) (by decide) (by decide) (by decide) (Nat.le_of_ble_eq_true rfl) (Nat.le_of_ble_eq_true rfl) dX11_init_8 (fun q1 H hP hD hS => ?_)
  have hP : va_P G.1 pCl [(h0, .inr (8, [.null, .int 0, .null, .null, .null, .null, .null, .null])), (q1, .inl (G.2.1 1, 5000, .inl (fun _ => 0)))] H := hP
  have hD : va_D A [(h0, .inr (8, [.null, .int 0, .null, .null, .null, .null, .null, .null])), (q1, .inl (G.2.1 1, 5000, .inl (fun _ => 0)))] := hD
  refine W.widen (k := 1) (n := 5000) (Nat.le_of_ble_eq_true rfl) (Nat.le_of_ble_eq_true rfl) ?_
  refine va_putF (D := G.1) (ci := 8) (v := .ref q1) (ty := (.array .byte)) (C := RX11) (T := TX11) (N := 8) hx hb hq pin_wsX110 tyX11 tyX11_ok nmX11 hown hE.1.1 hP hD hS 0 rfl rfl 0 (by decide) (hq _ pw_1) (fun _ h9 => h9) rfl hin rfl (by decide +kernel) rfl rfl (Nat.le_of_ble_eq_true rfl) dX11_init_10 (fun H locs hP hD hS => ?_)
  have hP : va_P G.1 pCl [(h0, .inr (8, [.ref q1, .int 0, .null, .null, .null, .null, .null, .null])), (q1, .inl (G.2.1 1, 5000, .inl (fun _ => 0)))] H := hP
  have hD : va_D A [(h0, .inr (8, [.ref q1, .int 0, .null, .null, .null, .null, .null, .null])), (q1, .inl (G.2.1 1, 5000, .inl (fun _ => 0)))] := hD
  refine lv_aload_n hx hb dX11_init_13 rfl (lv_at hl 0 rfl) ?_
  refine va_new (ci := 7) (fs := [.null, .int 0, .int 0, .null, .null, .null, .null, .null, .int 0, .null, .null, .null, .null, .int 0, .int 0]) (C := RX10) (T := TX10) (N := 15) hx hb hq pin_wsX100 tyX10 tyX10_ok hown (hq _ pw_2) (hq _ pw_662) (hq _ pw_424) hE.1.1 hP hD hS hA rfl nw_X10 (Nat.le_of_ble_eq_true rfl) (Nat.le_of_ble_eq_true rfl) dX11_init_14 (fun q2 H hP hD hS => ?_)
  have hP : va_P G.1 pCl [(h0, .inr (8, [.ref q1, .int 0, .null, .null, .null, .null, .null, .null])), (q1, .inl (G.2.1 1, 5000, .inl (fun _ => 0))), (q2, .inr (7, [.null, .int 0, .int 0, .null, .null, .null, .null, .null, .int 0, .null, .null, .null, .null, .int 0, .int 0]))] H := hP
  have hD : va_D A [(h0, .inr (8, [.ref q1, .int 0, .null, .null, .null, .null, .null, .null])), (q1, .inl (G.2.1 1, 5000, .inl (fun _ => 0))), (q2, .inr (7, [.null, .int 0, .int 0, .null, .null, .null, .null, .null, .int 0, .null, .null, .null, .null, .int 0, .int 0]))] := hD
  refine W.widen (k := 2) (n := 5015) (Nat.le_of_ble_eq_true rfl) (Nat.le_of_ble_eq_true rfl) ?_
  refine lv_dup hx hb dX11_init_17 rfl ?_
  refine pc_I (G := G) (As := []) (rest := [.ref q2, .ref h0]) (wr := [(h0, .inr (8, [.ref q1, .int 0, .null, .null, .null, .null, .null, .null])), (q1, .inl (G.2.1 1, 5000, .inl (fun _ => 0)))]) hx hb hml hown hq hE hX pX0_al hP hD hS hA hl.1 (c_Text_init l G q2) pw_3 pw_423 pw_424 pw_422 rfl hS_X10_init [2] [0, 1] rfl rfl (by decide) (by decide) (by decide) rfl (Nat.le_of_ble_eq_true rfl) dX11_init_18 ⟨Nat.le_of_ble_eq_true rfl, Nat.le_of_ble_eq_true rfl⟩ ⟨Nat.le_of_ble_eq_true rfl, Nat.le_of_ble_eq_true rfl⟩ (fun v5 u3 H locs hw4 hP hD hS => ?_)
  obtain rfl : v5 = none := hw4
  have hP : va_P G.1 pCl [(h0, .inr (8, [.ref q1, .int 0, .null, .null, .null, .null, .null, .null])), (q1, .inl (G.2.1 1, 5000, .inl (fun _ => 0))), (q2, .inr (7, [.ref (u3.1 0), .int 220, .int 0, .ref (u3.1 1), .ref (u3.1 2), .ref (u3.1 3), .ref (u3.1 4), .ref (u3.1 5), .int 0, .ref (u3.1 6), .ref (u3.1 7), .ref (u3.1 8), .ref (u3.1 9), .int 0, .int 0])), ((u3.1 0), .inl (G.2.1 1, 5220, .inl (u3.2.1 0))), ((u3.1 1), .inl (G.2.1 0, 5000, .inl (fun _ => 0))), ((u3.1 2), .inl (G.2.1 0, 5000, .inl (fun _ => 0))), ((u3.1 3), .inl (G.2.1 0, 5000, .inl (fun _ => 0))), ((u3.1 4), .inl (G.2.1 1, 5000, .inl (fun _ => 0))), ((u3.1 5), .inl (G.2.1 0, 5000, .inl (fun _ => 0))), ((u3.1 6), .inl (G.2.1 0, 2540, .inl (fun _ => 0))), ((u3.1 7), .inl (G.2.1 0, 2540, .inl (fun _ => 0))), ((u3.1 8), .inl (G.2.1 0, 2540, .inl (fun _ => 0))), ((u3.1 9), .inl (G.2.1 0, 256, .inl (fun _ => 0)))] H := hP
  have hD : va_D A [(h0, .inr (8, [.ref q1, .int 0, .null, .null, .null, .null, .null, .null])), (q1, .inl (G.2.1 1, 5000, .inl (fun _ => 0))), (q2, .inr (7, [.ref (u3.1 0), .int 220, .int 0, .ref (u3.1 1), .ref (u3.1 2), .ref (u3.1 3), .ref (u3.1 4), .ref (u3.1 5), .int 0, .ref (u3.1 6), .ref (u3.1 7), .ref (u3.1 8), .ref (u3.1 9), .int 0, .int 0])), ((u3.1 0), .inl (G.2.1 1, 5220, .inl (u3.2.1 0))), ((u3.1 1), .inl (G.2.1 0, 5000, .inl (fun _ => 0))), ((u3.1 2), .inl (G.2.1 0, 5000, .inl (fun _ => 0))), ((u3.1 3), .inl (G.2.1 0, 5000, .inl (fun _ => 0))), ((u3.1 4), .inl (G.2.1 1, 5000, .inl (fun _ => 0))), ((u3.1 5), .inl (G.2.1 0, 5000, .inl (fun _ => 0))), ((u3.1 6), .inl (G.2.1 0, 2540, .inl (fun _ => 0))), ((u3.1 7), .inl (G.2.1 0, 2540, .inl (fun _ => 0))), ((u3.1 8), .inl (G.2.1 0, 2540, .inl (fun _ => 0))), ((u3.1 9), .inl (G.2.1 0, 256, .inl (fun _ => 0)))] := hD
  generalize u3.1 0 = q6 at hP hD
  generalize u3.1 1 = q7 at hP hD
  generalize u3.1 2 = q8 at hP hD
  generalize u3.1 3 = q9 at hP hD
  generalize u3.1 4 = q10 at hP hD
  generalize u3.1 5 = q11 at hP hD
  generalize u3.1 6 = q12 at hP hD
  generalize u3.1 7 = q13 at hP hD
  generalize u3.1 8 = q14 at hP hD
  generalize u3.1 9 = q15 at hP hD
  generalize u3.2.1 0 = f16 at hP hD
  refine W.widen (k := 12) (n := 43111) (Nat.le_of_ble_eq_true rfl) (Nat.le_of_ble_eq_true rfl) ?_
  refine W.eq (g2 := F0 m 21 ls [.ref q2, .ref h0]) rfl ?_
  refine va_putF (D := G.1) (ci := 8) (v := .ref q2) (ty := (.object "JinjaTongue$Text")) (C := RX11) (T := TX11) (N := 8) hx hb hq pin_wsX110 tyX11 tyX11_ok nmX11 hown hE.1.1 hP hD hS 0 rfl rfl 2 (by decide) (hq _ pw_4) (fun _ h9 => h9) rfl hin rfl (by decide +kernel) rfl rfl (Nat.le_of_ble_eq_true rfl) dX11_init_21 (fun H locs hP hD hS => ?_)
  have hP : va_P G.1 pCl [(h0, .inr (8, [.ref q1, .int 0, .ref q2, .null, .null, .null, .null, .null])), (q1, .inl (G.2.1 1, 5000, .inl (fun _ => 0))), (q2, .inr (7, [.ref q6, .int 220, .int 0, .ref q7, .ref q8, .ref q9, .ref q10, .ref q11, .int 0, .ref q12, .ref q13, .ref q14, .ref q15, .int 0, .int 0])), (q6, .inl (G.2.1 1, 5220, .inl f16)), (q7, .inl (G.2.1 0, 5000, .inl (fun _ => 0))), (q8, .inl (G.2.1 0, 5000, .inl (fun _ => 0))), (q9, .inl (G.2.1 0, 5000, .inl (fun _ => 0))), (q10, .inl (G.2.1 1, 5000, .inl (fun _ => 0))), (q11, .inl (G.2.1 0, 5000, .inl (fun _ => 0))), (q12, .inl (G.2.1 0, 2540, .inl (fun _ => 0))), (q13, .inl (G.2.1 0, 2540, .inl (fun _ => 0))), (q14, .inl (G.2.1 0, 2540, .inl (fun _ => 0))), (q15, .inl (G.2.1 0, 256, .inl (fun _ => 0)))] H := hP
  have hD : va_D A [(h0, .inr (8, [.ref q1, .int 0, .ref q2, .null, .null, .null, .null, .null])), (q1, .inl (G.2.1 1, 5000, .inl (fun _ => 0))), (q2, .inr (7, [.ref q6, .int 220, .int 0, .ref q7, .ref q8, .ref q9, .ref q10, .ref q11, .int 0, .ref q12, .ref q13, .ref q14, .ref q15, .int 0, .int 0])), (q6, .inl (G.2.1 1, 5220, .inl f16)), (q7, .inl (G.2.1 0, 5000, .inl (fun _ => 0))), (q8, .inl (G.2.1 0, 5000, .inl (fun _ => 0))), (q9, .inl (G.2.1 0, 5000, .inl (fun _ => 0))), (q10, .inl (G.2.1 1, 5000, .inl (fun _ => 0))), (q11, .inl (G.2.1 0, 5000, .inl (fun _ => 0))), (q12, .inl (G.2.1 0, 2540, .inl (fun _ => 0))), (q13, .inl (G.2.1 0, 2540, .inl (fun _ => 0))), (q14, .inl (G.2.1 0, 2540, .inl (fun _ => 0))), (q15, .inl (G.2.1 0, 256, .inl (fun _ => 0)))] := hD
  refine lv_aload_n hx hb dX11_init_24 rfl (lv_at hl 0 rfl) ?_
  refine va_new (ci := 1) (fs := [.null, .null, .null, .null, .int 0, .null, .null, .null, .null, .null, .int 0, .int 0, .int 0]) (C := RX1) (T := TX1) (N := 13) hx hb hq pin_wsX10 tyX1 tyX1_ok hown (hq _ pw_5) (hq _ pw_663) (hq _ pw_448) hE.1.1 hP hD hS hA rfl nw_X1 (Nat.le_of_ble_eq_true rfl) (Nat.le_of_ble_eq_true rfl) dX11_init_25 (fun q17 H hP hD hS => ?_)
  have hP : va_P G.1 pCl [(h0, .inr (8, [.ref q1, .int 0, .ref q2, .null, .null, .null, .null, .null])), (q1, .inl (G.2.1 1, 5000, .inl (fun _ => 0))), (q2, .inr (7, [.ref q6, .int 220, .int 0, .ref q7, .ref q8, .ref q9, .ref q10, .ref q11, .int 0, .ref q12, .ref q13, .ref q14, .ref q15, .int 0, .int 0])), (q6, .inl (G.2.1 1, 5220, .inl f16)), (q7, .inl (G.2.1 0, 5000, .inl (fun _ => 0))), (q8, .inl (G.2.1 0, 5000, .inl (fun _ => 0))), (q9, .inl (G.2.1 0, 5000, .inl (fun _ => 0))), (q10, .inl (G.2.1 1, 5000, .inl (fun _ => 0))), (q11, .inl (G.2.1 0, 5000, .inl (fun _ => 0))), (q12, .inl (G.2.1 0, 2540, .inl (fun _ => 0))), (q13, .inl (G.2.1 0, 2540, .inl (fun _ => 0))), (q14, .inl (G.2.1 0, 2540, .inl (fun _ => 0))), (q15, .inl (G.2.1 0, 256, .inl (fun _ => 0))), (q17, .inr (1, [.null, .null, .null, .null, .int 0, .null, .null, .null, .null, .null, .int 0, .int 0, .int 0]))] H := hP
  have hD : va_D A [(h0, .inr (8, [.ref q1, .int 0, .ref q2, .null, .null, .null, .null, .null])), (q1, .inl (G.2.1 1, 5000, .inl (fun _ => 0))), (q2, .inr (7, [.ref q6, .int 220, .int 0, .ref q7, .ref q8, .ref q9, .ref q10, .ref q11, .int 0, .ref q12, .ref q13, .ref q14, .ref q15, .int 0, .int 0])), (q6, .inl (G.2.1 1, 5220, .inl f16)), (q7, .inl (G.2.1 0, 5000, .inl (fun _ => 0))), (q8, .inl (G.2.1 0, 5000, .inl (fun _ => 0))), (q9, .inl (G.2.1 0, 5000, .inl (fun _ => 0))), (q10, .inl (G.2.1 1, 5000, .inl (fun _ => 0))), (q11, .inl (G.2.1 0, 5000, .inl (fun _ => 0))), (q12, .inl (G.2.1 0, 2540, .inl (fun _ => 0))), (q13, .inl (G.2.1 0, 2540, .inl (fun _ => 0))), (q14, .inl (G.2.1 0, 2540, .inl (fun _ => 0))), (q15, .inl (G.2.1 0, 256, .inl (fun _ => 0))), (q17, .inr (1, [.null, .null, .null, .null, .int 0, .null, .null, .null, .null, .null, .int 0, .int 0, .int 0]))] := hD
  refine W.widen (k := 13) (n := 43124) (Nat.le_of_ble_eq_true rfl) (Nat.le_of_ble_eq_true rfl) ?_
  refine lv_dup hx hb dX11_init_28 rfl ?_
  refine pc_I (G := G) (As := []) (rest := [.ref q17, .ref h0]) (wr := [(h0, .inr (8, [.ref q1, .int 0, .ref q2, .null, .null, .null, .null, .null])), (q1, .inl (G.2.1 1, 5000, .inl (fun _ => 0))), (q2, .inr (7, [.ref q6, .int 220, .int 0, .ref q7, .ref q8, .ref q9, .ref q10, .ref q11, .int 0, .ref q12, .ref q13, .ref q14, .ref q15, .int 0, .int 0])), (q6, .inl (G.2.1 1, 5220, .inl f16)), (q7, .inl (G.2.1 0, 5000, .inl (fun _ => 0))), (q8, .inl (G.2.1 0, 5000, .inl (fun _ => 0))), (q9, .inl (G.2.1 0, 5000, .inl (fun _ => 0))), (q10, .inl (G.2.1 1, 5000, .inl (fun _ => 0))), (q11, .inl (G.2.1 0, 5000, .inl (fun _ => 0))), (q12, .inl (G.2.1 0, 2540, .inl (fun _ => 0))), (q13, .inl (G.2.1 0, 2540, .inl (fun _ => 0))), (q14, .inl (G.2.1 0, 2540, .inl (fun _ => 0))), (q15, .inl (G.2.1 0, 256, .inl (fun _ => 0)))]) hx hb hml hown hq hE hX pX0_al hP hD hS hA hl.1 (c_Code_init l G q17) pw_6 pw_447 pw_448 pw_446 rfl hS_X1_init [13] [0, 1, 2, 3, 4, 5, 6, 7, 8, 9, 10, 11, 12] rfl rfl (by decide) (by decide) (by decide) rfl (Nat.le_of_ble_eq_true rfl) dX11_init_29 ⟨Nat.le_of_ble_eq_true rfl, Nat.le_of_ble_eq_true rfl⟩ ⟨Nat.le_of_ble_eq_true rfl, Nat.le_of_ble_eq_true rfl⟩ (fun v20 u18 H locs hw19 hP hD hS => ?_)
  obtain rfl : v20 = none := hw19
  have hP : va_P G.1 pCl [(h0, .inr (8, [.ref q1, .int 0, .ref q2, .null, .null, .null, .null, .null])), (q1, .inl (G.2.1 1, 5000, .inl (fun _ => 0))), (q2, .inr (7, [.ref q6, .int 220, .int 0, .ref q7, .ref q8, .ref q9, .ref q10, .ref q11, .int 0, .ref q12, .ref q13, .ref q14, .ref q15, .int 0, .int 0])), (q6, .inl (G.2.1 1, 5220, .inl f16)), (q7, .inl (G.2.1 0, 5000, .inl (fun _ => 0))), (q8, .inl (G.2.1 0, 5000, .inl (fun _ => 0))), (q9, .inl (G.2.1 0, 5000, .inl (fun _ => 0))), (q10, .inl (G.2.1 1, 5000, .inl (fun _ => 0))), (q11, .inl (G.2.1 0, 5000, .inl (fun _ => 0))), (q12, .inl (G.2.1 0, 2540, .inl (fun _ => 0))), (q13, .inl (G.2.1 0, 2540, .inl (fun _ => 0))), (q14, .inl (G.2.1 0, 2540, .inl (fun _ => 0))), (q15, .inl (G.2.1 0, 256, .inl (fun _ => 0))), (q17, .inr (1, [.ref (u18.1 0), .ref (u18.1 1), .ref (u18.1 2), .ref (u18.1 3), .int 0, .ref (u18.1 4), .ref (u18.1 5), .ref (u18.1 6), .ref (u18.1 7), .ref (u18.1 8), .int 0, .int 0, .int 0])), ((u18.1 0), .inl (G.2.1 0, 10000, .inl (fun _ => 0))), ((u18.1 1), .inl (G.2.1 0, 10000, .inl (fun _ => 0))), ((u18.1 2), .inl (G.2.1 0, 10000, .inl (fun _ => 0))), ((u18.1 3), .inl (G.2.1 0, 10000, .inl (fun _ => 0))), ((u18.1 4), .inl (G.2.1 0, 625, .inl (fun _ => 0))), ((u18.1 5), .inl (G.2.1 0, 625, .inl (fun _ => 0))), ((u18.1 6), .inl (G.2.1 0, 625, .inl (fun _ => 0))), ((u18.1 7), .inl (G.2.1 0, 625, .inl (fun _ => 0))), ((u18.1 8), .inl (G.2.1 0, 625, .inl (fun _ => 0)))] H := hP
  have hD : va_D A [(h0, .inr (8, [.ref q1, .int 0, .ref q2, .null, .null, .null, .null, .null])), (q1, .inl (G.2.1 1, 5000, .inl (fun _ => 0))), (q2, .inr (7, [.ref q6, .int 220, .int 0, .ref q7, .ref q8, .ref q9, .ref q10, .ref q11, .int 0, .ref q12, .ref q13, .ref q14, .ref q15, .int 0, .int 0])), (q6, .inl (G.2.1 1, 5220, .inl f16)), (q7, .inl (G.2.1 0, 5000, .inl (fun _ => 0))), (q8, .inl (G.2.1 0, 5000, .inl (fun _ => 0))), (q9, .inl (G.2.1 0, 5000, .inl (fun _ => 0))), (q10, .inl (G.2.1 1, 5000, .inl (fun _ => 0))), (q11, .inl (G.2.1 0, 5000, .inl (fun _ => 0))), (q12, .inl (G.2.1 0, 2540, .inl (fun _ => 0))), (q13, .inl (G.2.1 0, 2540, .inl (fun _ => 0))), (q14, .inl (G.2.1 0, 2540, .inl (fun _ => 0))), (q15, .inl (G.2.1 0, 256, .inl (fun _ => 0))), (q17, .inr (1, [.ref (u18.1 0), .ref (u18.1 1), .ref (u18.1 2), .ref (u18.1 3), .int 0, .ref (u18.1 4), .ref (u18.1 5), .ref (u18.1 6), .ref (u18.1 7), .ref (u18.1 8), .int 0, .int 0, .int 0])), ((u18.1 0), .inl (G.2.1 0, 10000, .inl (fun _ => 0))), ((u18.1 1), .inl (G.2.1 0, 10000, .inl (fun _ => 0))), ((u18.1 2), .inl (G.2.1 0, 10000, .inl (fun _ => 0))), ((u18.1 3), .inl (G.2.1 0, 10000, .inl (fun _ => 0))), ((u18.1 4), .inl (G.2.1 0, 625, .inl (fun _ => 0))), ((u18.1 5), .inl (G.2.1 0, 625, .inl (fun _ => 0))), ((u18.1 6), .inl (G.2.1 0, 625, .inl (fun _ => 0))), ((u18.1 7), .inl (G.2.1 0, 625, .inl (fun _ => 0))), ((u18.1 8), .inl (G.2.1 0, 625, .inl (fun _ => 0)))] := hD
  generalize u18.1 0 = q21 at hP hD
  generalize u18.1 1 = q22 at hP hD
  generalize u18.1 2 = q23 at hP hD
  generalize u18.1 3 = q24 at hP hD
  generalize u18.1 4 = q25 at hP hD
  generalize u18.1 5 = q26 at hP hD
  generalize u18.1 6 = q27 at hP hD
  generalize u18.1 7 = q28 at hP hD
  generalize u18.1 8 = q29 at hP hD
  refine W.widen (k := 22) (n := 86249) (Nat.le_of_ble_eq_true rfl) (Nat.le_of_ble_eq_true rfl) ?_
  refine W.eq (g2 := F0 m 32 ls [.ref q17, .ref h0]) rfl ?_
  refine va_putF (D := G.1) (ci := 8) (v := .ref q17) (ty := (.object "JinjaTongue$Code")) (C := RX11) (T := TX11) (N := 8) hx hb hq pin_wsX110 tyX11 tyX11_ok nmX11 hown hE.1.1 hP hD hS 0 rfl rfl 3 (by decide) (hq _ pw_7) (fun _ h9 => h9) rfl hin rfl (by decide +kernel) rfl rfl (Nat.le_of_ble_eq_true rfl) dX11_init_32 (fun H locs hP hD hS => ?_)
  have hP : va_P G.1 pCl [(h0, .inr (8, [.ref q1, .int 0, .ref q2, .ref q17, .null, .null, .null, .null])), (q1, .inl (G.2.1 1, 5000, .inl (fun _ => 0))), (q2, .inr (7, [.ref q6, .int 220, .int 0, .ref q7, .ref q8, .ref q9, .ref q10, .ref q11, .int 0, .ref q12, .ref q13, .ref q14, .ref q15, .int 0, .int 0])), (q6, .inl (G.2.1 1, 5220, .inl f16)), (q7, .inl (G.2.1 0, 5000, .inl (fun _ => 0))), (q8, .inl (G.2.1 0, 5000, .inl (fun _ => 0))), (q9, .inl (G.2.1 0, 5000, .inl (fun _ => 0))), (q10, .inl (G.2.1 1, 5000, .inl (fun _ => 0))), (q11, .inl (G.2.1 0, 5000, .inl (fun _ => 0))), (q12, .inl (G.2.1 0, 2540, .inl (fun _ => 0))), (q13, .inl (G.2.1 0, 2540, .inl (fun _ => 0))), (q14, .inl (G.2.1 0, 2540, .inl (fun _ => 0))), (q15, .inl (G.2.1 0, 256, .inl (fun _ => 0))), (q17, .inr (1, [.ref q21, .ref q22, .ref q23, .ref q24, .int 0, .ref q25, .ref q26, .ref q27, .ref q28, .ref q29, .int 0, .int 0, .int 0])), (q21, .inl (G.2.1 0, 10000, .inl (fun _ => 0))), (q22, .inl (G.2.1 0, 10000, .inl (fun _ => 0))), (q23, .inl (G.2.1 0, 10000, .inl (fun _ => 0))), (q24, .inl (G.2.1 0, 10000, .inl (fun _ => 0))), (q25, .inl (G.2.1 0, 625, .inl (fun _ => 0))), (q26, .inl (G.2.1 0, 625, .inl (fun _ => 0))), (q27, .inl (G.2.1 0, 625, .inl (fun _ => 0))), (q28, .inl (G.2.1 0, 625, .inl (fun _ => 0))), (q29, .inl (G.2.1 0, 625, .inl (fun _ => 0)))] H := hP
  have hD : va_D A [(h0, .inr (8, [.ref q1, .int 0, .ref q2, .ref q17, .null, .null, .null, .null])), (q1, .inl (G.2.1 1, 5000, .inl (fun _ => 0))), (q2, .inr (7, [.ref q6, .int 220, .int 0, .ref q7, .ref q8, .ref q9, .ref q10, .ref q11, .int 0, .ref q12, .ref q13, .ref q14, .ref q15, .int 0, .int 0])), (q6, .inl (G.2.1 1, 5220, .inl f16)), (q7, .inl (G.2.1 0, 5000, .inl (fun _ => 0))), (q8, .inl (G.2.1 0, 5000, .inl (fun _ => 0))), (q9, .inl (G.2.1 0, 5000, .inl (fun _ => 0))), (q10, .inl (G.2.1 1, 5000, .inl (fun _ => 0))), (q11, .inl (G.2.1 0, 5000, .inl (fun _ => 0))), (q12, .inl (G.2.1 0, 2540, .inl (fun _ => 0))), (q13, .inl (G.2.1 0, 2540, .inl (fun _ => 0))), (q14, .inl (G.2.1 0, 2540, .inl (fun _ => 0))), (q15, .inl (G.2.1 0, 256, .inl (fun _ => 0))), (q17, .inr (1, [.ref q21, .ref q22, .ref q23, .ref q24, .int 0, .ref q25, .ref q26, .ref q27, .ref q28, .ref q29, .int 0, .int 0, .int 0])), (q21, .inl (G.2.1 0, 10000, .inl (fun _ => 0))), (q22, .inl (G.2.1 0, 10000, .inl (fun _ => 0))), (q23, .inl (G.2.1 0, 10000, .inl (fun _ => 0))), (q24, .inl (G.2.1 0, 10000, .inl (fun _ => 0))), (q25, .inl (G.2.1 0, 625, .inl (fun _ => 0))), (q26, .inl (G.2.1 0, 625, .inl (fun _ => 0))), (q27, .inl (G.2.1 0, 625, .inl (fun _ => 0))), (q28, .inl (G.2.1 0, 625, .inl (fun _ => 0))), (q29, .inl (G.2.1 0, 625, .inl (fun _ => 0)))] := hD
  refine lv_aload_n hx hb dX11_init_35 rfl (lv_at hl 0 rfl) ?_
  refine va_new (ci := 5) (fs := [.null, .null, .int 0, .int 0, .int 0]) (C := RX8) (T := TX8) (N := 5) hx hb hq pin_wsX80 tyX8 tyX8_ok hown (hq _ pw_8) (hq _ pw_664) (hq _ pw_451) hE.1.1 hP hD hS hA rfl nw_X8 (Nat.le_of_ble_eq_true rfl) (Nat.le_of_ble_eq_true rfl) dX11_init_36 (fun q30 H hP hD hS => ?_)
  have hP : va_P G.1 pCl [(h0, .inr (8, [.ref q1, .int 0, .ref q2, .ref q17, .null, .null, .null, .null])), (q1, .inl (G.2.1 1, 5000, .inl (fun _ => 0))), (q2, .inr (7, [.ref q6, .int 220, .int 0, .ref q7, .ref q8, .ref q9, .ref q10, .ref q11, .int 0, .ref q12, .ref q13, .ref q14, .ref q15, .int 0, .int 0])), (q6, .inl (G.2.1 1, 5220, .inl f16)), (q7, .inl (G.2.1 0, 5000, .inl (fun _ => 0))), (q8, .inl (G.2.1 0, 5000, .inl (fun _ => 0))), (q9, .inl (G.2.1 0, 5000, .inl (fun _ => 0))), (q10, .inl (G.2.1 1, 5000, .inl (fun _ => 0))), (q11, .inl (G.2.1 0, 5000, .inl (fun _ => 0))), (q12, .inl (G.2.1 0, 2540, .inl (fun _ => 0))), (q13, .inl (G.2.1 0, 2540, .inl (fun _ => 0))), (q14, .inl (G.2.1 0, 2540, .inl (fun _ => 0))), (q15, .inl (G.2.1 0, 256, .inl (fun _ => 0))), (q17, .inr (1, [.ref q21, .ref q22, .ref q23, .ref q24, .int 0, .ref q25, .ref q26, .ref q27, .ref q28, .ref q29, .int 0, .int 0, .int 0])), (q21, .inl (G.2.1 0, 10000, .inl (fun _ => 0))), (q22, .inl (G.2.1 0, 10000, .inl (fun _ => 0))), (q23, .inl (G.2.1 0, 10000, .inl (fun _ => 0))), (q24, .inl (G.2.1 0, 10000, .inl (fun _ => 0))), (q25, .inl (G.2.1 0, 625, .inl (fun _ => 0))), (q26, .inl (G.2.1 0, 625, .inl (fun _ => 0))), (q27, .inl (G.2.1 0, 625, .inl (fun _ => 0))), (q28, .inl (G.2.1 0, 625, .inl (fun _ => 0))), (q29, .inl (G.2.1 0, 625, .inl (fun _ => 0))), (q30, .inr (5, [.null, .null, .int 0, .int 0, .int 0]))] H := hP
  have hD : va_D A [(h0, .inr (8, [.ref q1, .int 0, .ref q2, .ref q17, .null, .null, .null, .null])), (q1, .inl (G.2.1 1, 5000, .inl (fun _ => 0))), (q2, .inr (7, [.ref q6, .int 220, .int 0, .ref q7, .ref q8, .ref q9, .ref q10, .ref q11, .int 0, .ref q12, .ref q13, .ref q14, .ref q15, .int 0, .int 0])), (q6, .inl (G.2.1 1, 5220, .inl f16)), (q7, .inl (G.2.1 0, 5000, .inl (fun _ => 0))), (q8, .inl (G.2.1 0, 5000, .inl (fun _ => 0))), (q9, .inl (G.2.1 0, 5000, .inl (fun _ => 0))), (q10, .inl (G.2.1 1, 5000, .inl (fun _ => 0))), (q11, .inl (G.2.1 0, 5000, .inl (fun _ => 0))), (q12, .inl (G.2.1 0, 2540, .inl (fun _ => 0))), (q13, .inl (G.2.1 0, 2540, .inl (fun _ => 0))), (q14, .inl (G.2.1 0, 2540, .inl (fun _ => 0))), (q15, .inl (G.2.1 0, 256, .inl (fun _ => 0))), (q17, .inr (1, [.ref q21, .ref q22, .ref q23, .ref q24, .int 0, .ref q25, .ref q26, .ref q27, .ref q28, .ref q29, .int 0, .int 0, .int 0])), (q21, .inl (G.2.1 0, 10000, .inl (fun _ => 0))), (q22, .inl (G.2.1 0, 10000, .inl (fun _ => 0))), (q23, .inl (G.2.1 0, 10000, .inl (fun _ => 0))), (q24, .inl (G.2.1 0, 10000, .inl (fun _ => 0))), (q25, .inl (G.2.1 0, 625, .inl (fun _ => 0))), (q26, .inl (G.2.1 0, 625, .inl (fun _ => 0))), (q27, .inl (G.2.1 0, 625, .inl (fun _ => 0))), (q28, .inl (G.2.1 0, 625, .inl (fun _ => 0))), (q29, .inl (G.2.1 0, 625, .inl (fun _ => 0))), (q30, .inr (5, [.null, .null, .int 0, .int 0, .int 0]))] := hD
  refine W.widen (k := 23) (n := 86254) (Nat.le_of_ble_eq_true rfl) (Nat.le_of_ble_eq_true rfl) ?_
  refine lv_dup hx hb dX11_init_39 rfl ?_
  refine lv_aload_n hx hb dX11_init_40 rfl (lv_at hl 0 rfl) ?_
  refine va_get (D := G.1) (ci := 8) (v := .ref q2) (C := RX11) (T := TX11) (N := 8) hx hb hq pin_wsX110 hown hE.1.1 hP 0 rfl rfl 2 (by decide) (hq _ pw_4) (fun _ h9 => h9) rfl dX11_init_41 ?_
  refine pc_I (G := G) (As := [.ref q2]) (rest := [.ref q30, .ref h0]) (wr := [(h0, .inr (8, [.ref q1, .int 0, .ref q2, .ref q17, .null, .null, .null, .null])), (q1, .inl (G.2.1 1, 5000, .inl (fun _ => 0))), (q2, .inr (7, [.ref q6, .int 220, .int 0, .ref q7, .ref q8, .ref q9, .ref q10, .ref q11, .int 0, .ref q12, .ref q13, .ref q14, .ref q15, .int 0, .int 0])), (q6, .inl (G.2.1 1, 5220, .inl f16)), (q7, .inl (G.2.1 0, 5000, .inl (fun _ => 0))), (q8, .inl (G.2.1 0, 5000, .inl (fun _ => 0))), (q9, .inl (G.2.1 0, 5000, .inl (fun _ => 0))), (q10, .inl (G.2.1 1, 5000, .inl (fun _ => 0))), (q11, .inl (G.2.1 0, 5000, .inl (fun _ => 0))), (q12, .inl (G.2.1 0, 2540, .inl (fun _ => 0))), (q13, .inl (G.2.1 0, 2540, .inl (fun _ => 0))), (q14, .inl (G.2.1 0, 2540, .inl (fun _ => 0))), (q15, .inl (G.2.1 0, 256, .inl (fun _ => 0))), (q17, .inr (1, [.ref q21, .ref q22, .ref q23, .ref q24, .int 0, .ref q25, .ref q26, .ref q27, .ref q28, .ref q29, .int 0, .int 0, .int 0])), (q21, .inl (G.2.1 0, 10000, .inl (fun _ => 0))), (q22, .inl (G.2.1 0, 10000, .inl (fun _ => 0))), (q23, .inl (G.2.1 0, 10000, .inl (fun _ => 0))), (q24, .inl (G.2.1 0, 10000, .inl (fun _ => 0))), (q25, .inl (G.2.1 0, 625, .inl (fun _ => 0))), (q26, .inl (G.2.1 0, 625, .inl (fun _ => 0))), (q27, .inl (G.2.1 0, 625, .inl (fun _ => 0))), (q28, .inl (G.2.1 0, 625, .inl (fun _ => 0))), (q29, .inl (G.2.1 0, 625, .inl (fun _ => 0)))]) hx hb hml hown hq hE hX pX0_al hP hD hS hA hl.1 (c_Parser_init l G q30 q2) pw_9 pw_450 pw_451 pw_449 rfl hS_X8_init [23] [0, 1, 2, 3, 4, 5, 6, 7, 8, 9, 10, 11, 12, 13, 14, 15, 16, 17, 18, 19, 20, 21, 22] rfl rfl (by decide) (by decide) (by decide) rfl (Nat.le_of_ble_eq_true rfl) dX11_init_44 ⟨Nat.le_of_ble_eq_true rfl, Nat.le_of_ble_eq_true rfl⟩ ⟨Nat.le_of_ble_eq_true rfl, Nat.le_of_ble_eq_true rfl⟩ (fun v33 u31 H locs hw32 hP hD hS => ?_)
  obtain rfl : v33 = none := hw32
  have hP : va_P G.1 pCl [(h0, .inr (8, [.ref q1, .int 0, .ref q2, .ref q17, .null, .null, .null, .null])), (q1, .inl (G.2.1 1, 5000, .inl (fun _ => 0))), (q2, .inr (7, [.ref q6, .int 220, .int 0, .ref q7, .ref q8, .ref q9, .ref q10, .ref q11, .int 0, .ref q12, .ref q13, .ref q14, .ref q15, .int 0, .int 0])), (q6, .inl (G.2.1 1, 5220, .inl f16)), (q7, .inl (G.2.1 0, 5000, .inl (fun _ => 0))), (q8, .inl (G.2.1 0, 5000, .inl (fun _ => 0))), (q9, .inl (G.2.1 0, 5000, .inl (fun _ => 0))), (q10, .inl (G.2.1 1, 5000, .inl (fun _ => 0))), (q11, .inl (G.2.1 0, 5000, .inl (fun _ => 0))), (q12, .inl (G.2.1 0, 2540, .inl (fun _ => 0))), (q13, .inl (G.2.1 0, 2540, .inl (fun _ => 0))), (q14, .inl (G.2.1 0, 2540, .inl (fun _ => 0))), (q15, .inl (G.2.1 0, 256, .inl (fun _ => 0))), (q17, .inr (1, [.ref q21, .ref q22, .ref q23, .ref q24, .int 0, .ref q25, .ref q26, .ref q27, .ref q28, .ref q29, .int 0, .int 0, .int 0])), (q21, .inl (G.2.1 0, 10000, .inl (fun _ => 0))), (q22, .inl (G.2.1 0, 10000, .inl (fun _ => 0))), (q23, .inl (G.2.1 0, 10000, .inl (fun _ => 0))), (q24, .inl (G.2.1 0, 10000, .inl (fun _ => 0))), (q25, .inl (G.2.1 0, 625, .inl (fun _ => 0))), (q26, .inl (G.2.1 0, 625, .inl (fun _ => 0))), (q27, .inl (G.2.1 0, 625, .inl (fun _ => 0))), (q28, .inl (G.2.1 0, 625, .inl (fun _ => 0))), (q29, .inl (G.2.1 0, 625, .inl (fun _ => 0))), (q30, .inr (5, [.ref q2, .null, .int 0, .int 0, .int 0]))] H := hP
  have hD : va_D A [(h0, .inr (8, [.ref q1, .int 0, .ref q2, .ref q17, .null, .null, .null, .null])), (q1, .inl (G.2.1 1, 5000, .inl (fun _ => 0))), (q2, .inr (7, [.ref q6, .int 220, .int 0, .ref q7, .ref q8, .ref q9, .ref q10, .ref q11, .int 0, .ref q12, .ref q13, .ref q14, .ref q15, .int 0, .int 0])), (q6, .inl (G.2.1 1, 5220, .inl f16)), (q7, .inl (G.2.1 0, 5000, .inl (fun _ => 0))), (q8, .inl (G.2.1 0, 5000, .inl (fun _ => 0))), (q9, .inl (G.2.1 0, 5000, .inl (fun _ => 0))), (q10, .inl (G.2.1 1, 5000, .inl (fun _ => 0))), (q11, .inl (G.2.1 0, 5000, .inl (fun _ => 0))), (q12, .inl (G.2.1 0, 2540, .inl (fun _ => 0))), (q13, .inl (G.2.1 0, 2540, .inl (fun _ => 0))), (q14, .inl (G.2.1 0, 2540, .inl (fun _ => 0))), (q15, .inl (G.2.1 0, 256, .inl (fun _ => 0))), (q17, .inr (1, [.ref q21, .ref q22, .ref q23, .ref q24, .int 0, .ref q25, .ref q26, .ref q27, .ref q28, .ref q29, .int 0, .int 0, .int 0])), (q21, .inl (G.2.1 0, 10000, .inl (fun _ => 0))), (q22, .inl (G.2.1 0, 10000, .inl (fun _ => 0))), (q23, .inl (G.2.1 0, 10000, .inl (fun _ => 0))), (q24, .inl (G.2.1 0, 10000, .inl (fun _ => 0))), (q25, .inl (G.2.1 0, 625, .inl (fun _ => 0))), (q26, .inl (G.2.1 0, 625, .inl (fun _ => 0))), (q27, .inl (G.2.1 0, 625, .inl (fun _ => 0))), (q28, .inl (G.2.1 0, 625, .inl (fun _ => 0))), (q29, .inl (G.2.1 0, 625, .inl (fun _ => 0))), (q30, .inr (5, [.ref q2, .null, .int 0, .int 0, .int 0]))] := hD
  refine W.widen (k := 23) (n := 86254) (Nat.le_of_ble_eq_true rfl) (Nat.le_of_ble_eq_true rfl) ?_
  refine W.eq (g2 := F0 m 47 ls [.ref q30, .ref h0]) rfl ?_
  refine va_putF (D := G.1) (ci := 8) (v := .ref q30) (ty := (.object "JinjaTongue$Parser")) (C := RX11) (T := TX11) (N := 8) hx hb hq pin_wsX110 tyX11 tyX11_ok nmX11 hown hE.1.1 hP hD hS 0 rfl rfl 4 (by decide) (hq _ pw_10) (fun _ h9 => h9) rfl hin rfl (by decide +kernel) rfl rfl (Nat.le_of_ble_eq_true rfl) dX11_init_47 (fun H locs hP hD hS => ?_)
  have hP : va_P G.1 pCl [(h0, .inr (8, [.ref q1, .int 0, .ref q2, .ref q17, .ref q30, .null, .null, .null])), (q1, .inl (G.2.1 1, 5000, .inl (fun _ => 0))), (q2, .inr (7, [.ref q6, .int 220, .int 0, .ref q7, .ref q8, .ref q9, .ref q10, .ref q11, .int 0, .ref q12, .ref q13, .ref q14, .ref q15, .int 0, .int 0])), (q6, .inl (G.2.1 1, 5220, .inl f16)), (q7, .inl (G.2.1 0, 5000, .inl (fun _ => 0))), (q8, .inl (G.2.1 0, 5000, .inl (fun _ => 0))), (q9, .inl (G.2.1 0, 5000, .inl (fun _ => 0))), (q10, .inl (G.2.1 1, 5000, .inl (fun _ => 0))), (q11, .inl (G.2.1 0, 5000, .inl (fun _ => 0))), (q12, .inl (G.2.1 0, 2540, .inl (fun _ => 0))), (q13, .inl (G.2.1 0, 2540, .inl (fun _ => 0))), (q14, .inl (G.2.1 0, 2540, .inl (fun _ => 0))), (q15, .inl (G.2.1 0, 256, .inl (fun _ => 0))), (q17, .inr (1, [.ref q21, .ref q22, .ref q23, .ref q24, .int 0, .ref q25, .ref q26, .ref q27, .ref q28, .ref q29, .int 0, .int 0, .int 0])), (q21, .inl (G.2.1 0, 10000, .inl (fun _ => 0))), (q22, .inl (G.2.1 0, 10000, .inl (fun _ => 0))), (q23, .inl (G.2.1 0, 10000, .inl (fun _ => 0))), (q24, .inl (G.2.1 0, 10000, .inl (fun _ => 0))), (q25, .inl (G.2.1 0, 625, .inl (fun _ => 0))), (q26, .inl (G.2.1 0, 625, .inl (fun _ => 0))), (q27, .inl (G.2.1 0, 625, .inl (fun _ => 0))), (q28, .inl (G.2.1 0, 625, .inl (fun _ => 0))), (q29, .inl (G.2.1 0, 625, .inl (fun _ => 0))), (q30, .inr (5, [.ref q2, .null, .int 0, .int 0, .int 0]))] H := hP
  have hD : va_D A [(h0, .inr (8, [.ref q1, .int 0, .ref q2, .ref q17, .ref q30, .null, .null, .null])), (q1, .inl (G.2.1 1, 5000, .inl (fun _ => 0))), (q2, .inr (7, [.ref q6, .int 220, .int 0, .ref q7, .ref q8, .ref q9, .ref q10, .ref q11, .int 0, .ref q12, .ref q13, .ref q14, .ref q15, .int 0, .int 0])), (q6, .inl (G.2.1 1, 5220, .inl f16)), (q7, .inl (G.2.1 0, 5000, .inl (fun _ => 0))), (q8, .inl (G.2.1 0, 5000, .inl (fun _ => 0))), (q9, .inl (G.2.1 0, 5000, .inl (fun _ => 0))), (q10, .inl (G.2.1 1, 5000, .inl (fun _ => 0))), (q11, .inl (G.2.1 0, 5000, .inl (fun _ => 0))), (q12, .inl (G.2.1 0, 2540, .inl (fun _ => 0))), (q13, .inl (G.2.1 0, 2540, .inl (fun _ => 0))), (q14, .inl (G.2.1 0, 2540, .inl (fun _ => 0))), (q15, .inl (G.2.1 0, 256, .inl (fun _ => 0))), (q17, .inr (1, [.ref q21, .ref q22, .ref q23, .ref q24, .int 0, .ref q25, .ref q26, .ref q27, .ref q28, .ref q29, .int 0, .int 0, .int 0])), (q21, .inl (G.2.1 0, 10000, .inl (fun _ => 0))), (q22, .inl (G.2.1 0, 10000, .inl (fun _ => 0))), (q23, .inl (G.2.1 0, 10000, .inl (fun _ => 0))), (q24, .inl (G.2.1 0, 10000, .inl (fun _ => 0))), (q25, .inl (G.2.1 0, 625, .inl (fun _ => 0))), (q26, .inl (G.2.1 0, 625, .inl (fun _ => 0))), (q27, .inl (G.2.1 0, 625, .inl (fun _ => 0))), (q28, .inl (G.2.1 0, 625, .inl (fun _ => 0))), (q29, .inl (G.2.1 0, 625, .inl (fun _ => 0))), (q30, .inr (5, [.ref q2, .null, .int 0, .int 0, .int 0]))] := hD
  refine lv_aload_n hx hb dX11_init_50 rfl (lv_at hl 0 rfl) ?_
  refine va_new (ci := 0) (fs := [.null, .null, .null, .null, .null, .int 0, .null, .null, .int 0, .int 0, .int 0, .null, .int 0]) (C := RX0) (T := TX0) (N := 13) hx hb hq pin_wsX00 tyX0 tyX0_ok hown (hq _ pw_11) (hq _ pw_665) (hq _ pw_457) hE.1.1 hP hD hS hA rfl nw_X0 (Nat.le_of_ble_eq_true rfl) (Nat.le_of_ble_eq_true rfl) dX11_init_51 (fun q34 H hP hD hS => ?_)
  have hP : va_P G.1 pCl [(h0, .inr (8, [.ref q1, .int 0, .ref q2, .ref q17, .ref q30, .null, .null, .null])), (q1, .inl (G.2.1 1, 5000, .inl (fun _ => 0))), (q2, .inr (7, [.ref q6, .int 220, .int 0, .ref q7, .ref q8, .ref q9, .ref q10, .ref q11, .int 0, .ref q12, .ref q13, .ref q14, .ref q15, .int 0, .int 0])), (q6, .inl (G.2.1 1, 5220, .inl f16)), (q7, .inl (G.2.1 0, 5000, .inl (fun _ => 0))), (q8, .inl (G.2.1 0, 5000, .inl (fun _ => 0))), (q9, .inl (G.2.1 0, 5000, .inl (fun _ => 0))), (q10, .inl (G.2.1 1, 5000, .inl (fun _ => 0))), (q11, .inl (G.2.1 0, 5000, .inl (fun _ => 0))), (q12, .inl (G.2.1 0, 2540, .inl (fun _ => 0))), (q13, .inl (G.2.1 0, 2540, .inl (fun _ => 0))), (q14, .inl (G.2.1 0, 2540, .inl (fun _ => 0))), (q15, .inl (G.2.1 0, 256, .inl (fun _ => 0))), (q17, .inr (1, [.ref q21, .ref q22, .ref q23, .ref q24, .int 0, .ref q25, .ref q26, .ref q27, .ref q28, .ref q29, .int 0, .int 0, .int 0])), (q21, .inl (G.2.1 0, 10000, .inl (fun _ => 0))), (q22, .inl (G.2.1 0, 10000, .inl (fun _ => 0))), (q23, .inl (G.2.1 0, 10000, .inl (fun _ => 0))), (q24, .inl (G.2.1 0, 10000, .inl (fun _ => 0))), (q25, .inl (G.2.1 0, 625, .inl (fun _ => 0))), (q26, .inl (G.2.1 0, 625, .inl (fun _ => 0))), (q27, .inl (G.2.1 0, 625, .inl (fun _ => 0))), (q28, .inl (G.2.1 0, 625, .inl (fun _ => 0))), (q29, .inl (G.2.1 0, 625, .inl (fun _ => 0))), (q30, .inr (5, [.ref q2, .null, .int 0, .int 0, .int 0])), (q34, .inr (0, [.null, .null, .null, .null, .null, .int 0, .null, .null, .int 0, .int 0, .int 0, .null, .int 0]))] H := hP
  have hD : va_D A [(h0, .inr (8, [.ref q1, .int 0, .ref q2, .ref q17, .ref q30, .null, .null, .null])), (q1, .inl (G.2.1 1, 5000, .inl (fun _ => 0))), (q2, .inr (7, [.ref q6, .int 220, .int 0, .ref q7, .ref q8, .ref q9, .ref q10, .ref q11, .int 0, .ref q12, .ref q13, .ref q14, .ref q15, .int 0, .int 0])), (q6, .inl (G.2.1 1, 5220, .inl f16)), (q7, .inl (G.2.1 0, 5000, .inl (fun _ => 0))), (q8, .inl (G.2.1 0, 5000, .inl (fun _ => 0))), (q9, .inl (G.2.1 0, 5000, .inl (fun _ => 0))), (q10, .inl (G.2.1 1, 5000, .inl (fun _ => 0))), (q11, .inl (G.2.1 0, 5000, .inl (fun _ => 0))), (q12, .inl (G.2.1 0, 2540, .inl (fun _ => 0))), (q13, .inl (G.2.1 0, 2540, .inl (fun _ => 0))), (q14, .inl (G.2.1 0, 2540, .inl (fun _ => 0))), (q15, .inl (G.2.1 0, 256, .inl (fun _ => 0))), (q17, .inr (1, [.ref q21, .ref q22, .ref q23, .ref q24, .int 0, .ref q25, .ref q26, .ref q27, .ref q28, .ref q29, .int 0, .int 0, .int 0])), (q21, .inl (G.2.1 0, 10000, .inl (fun _ => 0))), (q22, .inl (G.2.1 0, 10000, .inl (fun _ => 0))), (q23, .inl (G.2.1 0, 10000, .inl (fun _ => 0))), (q24, .inl (G.2.1 0, 10000, .inl (fun _ => 0))), (q25, .inl (G.2.1 0, 625, .inl (fun _ => 0))), (q26, .inl (G.2.1 0, 625, .inl (fun _ => 0))), (q27, .inl (G.2.1 0, 625, .inl (fun _ => 0))), (q28, .inl (G.2.1 0, 625, .inl (fun _ => 0))), (q29, .inl (G.2.1 0, 625, .inl (fun _ => 0))), (q30, .inr (5, [.ref q2, .null, .int 0, .int 0, .int 0])), (q34, .inr (0, [.null, .null, .null, .null, .null, .int 0, .null, .null, .int 0, .int 0, .int 0, .null, .int 0]))] := hD
  refine W.widen (k := 24) (n := 86267) (Nat.le_of_ble_eq_true rfl) (Nat.le_of_ble_eq_true rfl) ?_
  refine lv_dup hx hb dX11_init_54 rfl ?_
  refine lv_aload_n hx hb dX11_init_55 rfl (lv_at hl 0 rfl) ?_
  refine va_get (D := G.1) (ci := 8) (v := .ref q2) (C := RX11) (T := TX11) (N := 8) hx hb hq pin_wsX110 hown hE.1.1 hP 0 rfl rfl 2 (by decide) (hq _ pw_4) (fun _ h9 => h9) rfl dX11_init_56 ?_
  refine lv_aload_n hx hb dX11_init_59 rfl (lv_at hl 0 rfl) ?_
  refine va_get (D := G.1) (ci := 8) (v := .ref q17) (C := RX11) (T := TX11) (N := 8) hx hb hq pin_wsX110 hown hE.1.1 hP 0 rfl rfl 3 (by decide) (hq _ pw_7) (fun _ h9 => h9) rfl dX11_init_60 ?_
  refine pc_I (G := G) (As := [.ref q2, .ref q17]) (rest := [.ref q34, .ref h0]) (wr := [(h0, .inr (8, [.ref q1, .int 0, .ref q2, .ref q17, .ref q30, .null, .null, .null])), (q1, .inl (G.2.1 1, 5000, .inl (fun _ => 0))), (q2, .inr (7, [.ref q6, .int 220, .int 0, .ref q7, .ref q8, .ref q9, .ref q10, .ref q11, .int 0, .ref q12, .ref q13, .ref q14, .ref q15, .int 0, .int 0])), (q6, .inl (G.2.1 1, 5220, .inl f16)), (q7, .inl (G.2.1 0, 5000, .inl (fun _ => 0))), (q8, .inl (G.2.1 0, 5000, .inl (fun _ => 0))), (q9, .inl (G.2.1 0, 5000, .inl (fun _ => 0))), (q10, .inl (G.2.1 1, 5000, .inl (fun _ => 0))), (q11, .inl (G.2.1 0, 5000, .inl (fun _ => 0))), (q12, .inl (G.2.1 0, 2540, .inl (fun _ => 0))), (q13, .inl (G.2.1 0, 2540, .inl (fun _ => 0))), (q14, .inl (G.2.1 0, 2540, .inl (fun _ => 0))), (q15, .inl (G.2.1 0, 256, .inl (fun _ => 0))), (q17, .inr (1, [.ref q21, .ref q22, .ref q23, .ref q24, .int 0, .ref q25, .ref q26, .ref q27, .ref q28, .ref q29, .int 0, .int 0, .int 0])), (q21, .inl (G.2.1 0, 10000, .inl (fun _ => 0))), (q22, .inl (G.2.1 0, 10000, .inl (fun _ => 0))), (q23, .inl (G.2.1 0, 10000, .inl (fun _ => 0))), (q24, .inl (G.2.1 0, 10000, .inl (fun _ => 0))), (q25, .inl (G.2.1 0, 625, .inl (fun _ => 0))), (q26, .inl (G.2.1 0, 625, .inl (fun _ => 0))), (q27, .inl (G.2.1 0, 625, .inl (fun _ => 0))), (q28, .inl (G.2.1 0, 625, .inl (fun _ => 0))), (q29, .inl (G.2.1 0, 625, .inl (fun _ => 0))), (q30, .inr (5, [.ref q2, .null, .int 0, .int 0, .int 0]))]) hx hb hml hown hq hE hX pX0_al hP hD hS hA hl.1 (c_Bodies_init l G q34 q2 q17) pw_12 pw_456 pw_457 pw_455 rfl hS_X0_init [24] [0, 1, 2, 3, 4, 5, 6, 7, 8, 9, 10, 11, 12, 13, 14, 15, 16, 17, 18, 19, 20, 21, 22, 23] rfl rfl (by decide) (by decide) (by decide) rfl (Nat.le_of_ble_eq_true rfl) dX11_init_63 ⟨Nat.le_of_ble_eq_true rfl, Nat.le_of_ble_eq_true rfl⟩ ⟨Nat.le_of_ble_eq_true rfl, Nat.le_of_ble_eq_true rfl⟩ (fun v37 u35 H locs hw36 hP hD hS => ?_)
  obtain rfl : v37 = none := hw36
  have hP : va_P G.1 pCl [(h0, .inr (8, [.ref q1, .int 0, .ref q2, .ref q17, .ref q30, .null, .null, .null])), (q1, .inl (G.2.1 1, 5000, .inl (fun _ => 0))), (q2, .inr (7, [.ref q6, .int 220, .int 0, .ref q7, .ref q8, .ref q9, .ref q10, .ref q11, .int 0, .ref q12, .ref q13, .ref q14, .ref q15, .int 0, .int 0])), (q6, .inl (G.2.1 1, 5220, .inl f16)), (q7, .inl (G.2.1 0, 5000, .inl (fun _ => 0))), (q8, .inl (G.2.1 0, 5000, .inl (fun _ => 0))), (q9, .inl (G.2.1 0, 5000, .inl (fun _ => 0))), (q10, .inl (G.2.1 1, 5000, .inl (fun _ => 0))), (q11, .inl (G.2.1 0, 5000, .inl (fun _ => 0))), (q12, .inl (G.2.1 0, 2540, .inl (fun _ => 0))), (q13, .inl (G.2.1 0, 2540, .inl (fun _ => 0))), (q14, .inl (G.2.1 0, 2540, .inl (fun _ => 0))), (q15, .inl (G.2.1 0, 256, .inl (fun _ => 0))), (q17, .inr (1, [.ref q21, .ref q22, .ref q23, .ref q24, .int 0, .ref q25, .ref q26, .ref q27, .ref q28, .ref q29, .int 0, .int 0, .int 0])), (q21, .inl (G.2.1 0, 10000, .inl (fun _ => 0))), (q22, .inl (G.2.1 0, 10000, .inl (fun _ => 0))), (q23, .inl (G.2.1 0, 10000, .inl (fun _ => 0))), (q24, .inl (G.2.1 0, 10000, .inl (fun _ => 0))), (q25, .inl (G.2.1 0, 625, .inl (fun _ => 0))), (q26, .inl (G.2.1 0, 625, .inl (fun _ => 0))), (q27, .inl (G.2.1 0, 625, .inl (fun _ => 0))), (q28, .inl (G.2.1 0, 625, .inl (fun _ => 0))), (q29, .inl (G.2.1 0, 625, .inl (fun _ => 0))), (q30, .inr (5, [.ref q2, .null, .int 0, .int 0, .int 0])), (q34, .inr (0, [.ref q2, .ref q17, .ref (u35.1 0), .ref (u35.1 1), .ref (u35.1 2), .int 0, .null, .null, .int 0, .int 0, .int 0, .null, .int 0])), ((u35.1 0), .inl (G.2.1 0, 30, .inl (fun _ => 0))), ((u35.1 1), .inl (G.2.1 0, 30, .inl (fun _ => 0))), ((u35.1 2), .inl (G.2.1 0, 30, .inl (fun _ => 0)))] H := hP
  have hD : va_D A [(h0, .inr (8, [.ref q1, .int 0, .ref q2, .ref q17, .ref q30, .null, .null, .null])), (q1, .inl (G.2.1 1, 5000, .inl (fun _ => 0))), (q2, .inr (7, [.ref q6, .int 220, .int 0, .ref q7, .ref q8, .ref q9, .ref q10, .ref q11, .int 0, .ref q12, .ref q13, .ref q14, .ref q15, .int 0, .int 0])), (q6, .inl (G.2.1 1, 5220, .inl f16)), (q7, .inl (G.2.1 0, 5000, .inl (fun _ => 0))), (q8, .inl (G.2.1 0, 5000, .inl (fun _ => 0))), (q9, .inl (G.2.1 0, 5000, .inl (fun _ => 0))), (q10, .inl (G.2.1 1, 5000, .inl (fun _ => 0))), (q11, .inl (G.2.1 0, 5000, .inl (fun _ => 0))), (q12, .inl (G.2.1 0, 2540, .inl (fun _ => 0))), (q13, .inl (G.2.1 0, 2540, .inl (fun _ => 0))), (q14, .inl (G.2.1 0, 2540, .inl (fun _ => 0))), (q15, .inl (G.2.1 0, 256, .inl (fun _ => 0))), (q17, .inr (1, [.ref q21, .ref q22, .ref q23, .ref q24, .int 0, .ref q25, .ref q26, .ref q27, .ref q28, .ref q29, .int 0, .int 0, .int 0])), (q21, .inl (G.2.1 0, 10000, .inl (fun _ => 0))), (q22, .inl (G.2.1 0, 10000, .inl (fun _ => 0))), (q23, .inl (G.2.1 0, 10000, .inl (fun _ => 0))), (q24, .inl (G.2.1 0, 10000, .inl (fun _ => 0))), (q25, .inl (G.2.1 0, 625, .inl (fun _ => 0))), (q26, .inl (G.2.1 0, 625, .inl (fun _ => 0))), (q27, .inl (G.2.1 0, 625, .inl (fun _ => 0))), (q28, .inl (G.2.1 0, 625, .inl (fun _ => 0))), (q29, .inl (G.2.1 0, 625, .inl (fun _ => 0))), (q30, .inr (5, [.ref q2, .null, .int 0, .int 0, .int 0])), (q34, .inr (0, [.ref q2, .ref q17, .ref (u35.1 0), .ref (u35.1 1), .ref (u35.1 2), .int 0, .null, .null, .int 0, .int 0, .int 0, .null, .int 0])), ((u35.1 0), .inl (G.2.1 0, 30, .inl (fun _ => 0))), ((u35.1 1), .inl (G.2.1 0, 30, .inl (fun _ => 0))), ((u35.1 2), .inl (G.2.1 0, 30, .inl (fun _ => 0)))] := hD
  generalize u35.1 0 = q38 at hP hD
  generalize u35.1 1 = q39 at hP hD
  generalize u35.1 2 = q40 at hP hD
  refine W.widen (k := 27) (n := 86357) (Nat.le_of_ble_eq_true rfl) (Nat.le_of_ble_eq_true rfl) ?_
  refine W.eq (g2 := F0 m 66 ls [.ref q34, .ref h0]) rfl ?_
  refine va_putF (D := G.1) (ci := 8) (v := .ref q34) (ty := (.object "JinjaTongue$Bodies")) (C := RX11) (T := TX11) (N := 8) hx hb hq pin_wsX110 tyX11 tyX11_ok nmX11 hown hE.1.1 hP hD hS 0 rfl rfl 5 (by decide) (hq _ pw_13) (fun _ h9 => h9) rfl hin rfl (by decide +kernel) rfl rfl (Nat.le_of_ble_eq_true rfl) dX11_init_66 (fun H locs hP hD hS => ?_)
  have hP : va_P G.1 pCl [(h0, .inr (8, [.ref q1, .int 0, .ref q2, .ref q17, .ref q30, .ref q34, .null, .null])), (q1, .inl (G.2.1 1, 5000, .inl (fun _ => 0))), (q2, .inr (7, [.ref q6, .int 220, .int 0, .ref q7, .ref q8, .ref q9, .ref q10, .ref q11, .int 0, .ref q12, .ref q13, .ref q14, .ref q15, .int 0, .int 0])), (q6, .inl (G.2.1 1, 5220, .inl f16)), (q7, .inl (G.2.1 0, 5000, .inl (fun _ => 0))), (q8, .inl (G.2.1 0, 5000, .inl (fun _ => 0))), (q9, .inl (G.2.1 0, 5000, .inl (fun _ => 0))), (q10, .inl (G.2.1 1, 5000, .inl (fun _ => 0))), (q11, .inl (G.2.1 0, 5000, .inl (fun _ => 0))), (q12, .inl (G.2.1 0, 2540, .inl (fun _ => 0))), (q13, .inl (G.2.1 0, 2540, .inl (fun _ => 0))), (q14, .inl (G.2.1 0, 2540, .inl (fun _ => 0))), (q15, .inl (G.2.1 0, 256, .inl (fun _ => 0))), (q17, .inr (1, [.ref q21, .ref q22, .ref q23, .ref q24, .int 0, .ref q25, .ref q26, .ref q27, .ref q28, .ref q29, .int 0, .int 0, .int 0])), (q21, .inl (G.2.1 0, 10000, .inl (fun _ => 0))), (q22, .inl (G.2.1 0, 10000, .inl (fun _ => 0))), (q23, .inl (G.2.1 0, 10000, .inl (fun _ => 0))), (q24, .inl (G.2.1 0, 10000, .inl (fun _ => 0))), (q25, .inl (G.2.1 0, 625, .inl (fun _ => 0))), (q26, .inl (G.2.1 0, 625, .inl (fun _ => 0))), (q27, .inl (G.2.1 0, 625, .inl (fun _ => 0))), (q28, .inl (G.2.1 0, 625, .inl (fun _ => 0))), (q29, .inl (G.2.1 0, 625, .inl (fun _ => 0))), (q30, .inr (5, [.ref q2, .null, .int 0, .int 0, .int 0])), (q34, .inr (0, [.ref q2, .ref q17, .ref q38, .ref q39, .ref q40, .int 0, .null, .null, .int 0, .int 0, .int 0, .null, .int 0])), (q38, .inl (G.2.1 0, 30, .inl (fun _ => 0))), (q39, .inl (G.2.1 0, 30, .inl (fun _ => 0))), (q40, .inl (G.2.1 0, 30, .inl (fun _ => 0)))] H := hP
  have hD : va_D A [(h0, .inr (8, [.ref q1, .int 0, .ref q2, .ref q17, .ref q30, .ref q34, .null, .null])), (q1, .inl (G.2.1 1, 5000, .inl (fun _ => 0))), (q2, .inr (7, [.ref q6, .int 220, .int 0, .ref q7, .ref q8, .ref q9, .ref q10, .ref q11, .int 0, .ref q12, .ref q13, .ref q14, .ref q15, .int 0, .int 0])), (q6, .inl (G.2.1 1, 5220, .inl f16)), (q7, .inl (G.2.1 0, 5000, .inl (fun _ => 0))), (q8, .inl (G.2.1 0, 5000, .inl (fun _ => 0))), (q9, .inl (G.2.1 0, 5000, .inl (fun _ => 0))), (q10, .inl (G.2.1 1, 5000, .inl (fun _ => 0))), (q11, .inl (G.2.1 0, 5000, .inl (fun _ => 0))), (q12, .inl (G.2.1 0, 2540, .inl (fun _ => 0))), (q13, .inl (G.2.1 0, 2540, .inl (fun _ => 0))), (q14, .inl (G.2.1 0, 2540, .inl (fun _ => 0))), (q15, .inl (G.2.1 0, 256, .inl (fun _ => 0))), (q17, .inr (1, [.ref q21, .ref q22, .ref q23, .ref q24, .int 0, .ref q25, .ref q26, .ref q27, .ref q28, .ref q29, .int 0, .int 0, .int 0])), (q21, .inl (G.2.1 0, 10000, .inl (fun _ => 0))), (q22, .inl (G.2.1 0, 10000, .inl (fun _ => 0))), (q23, .inl (G.2.1 0, 10000, .inl (fun _ => 0))), (q24, .inl (G.2.1 0, 10000, .inl (fun _ => 0))), (q25, .inl (G.2.1 0, 625, .inl (fun _ => 0))), (q26, .inl (G.2.1 0, 625, .inl (fun _ => 0))), (q27, .inl (G.2.1 0, 625, .inl (fun _ => 0))), (q28, .inl (G.2.1 0, 625, .inl (fun _ => 0))), (q29, .inl (G.2.1 0, 625, .inl (fun _ => 0))), (q30, .inr (5, [.ref q2, .null, .int 0, .int 0, .int 0])), (q34, .inr (0, [.ref q2, .ref q17, .ref q38, .ref q39, .ref q40, .int 0, .null, .null, .int 0, .int 0, .int 0, .null, .int 0])), (q38, .inl (G.2.1 0, 30, .inl (fun _ => 0))), (q39, .inl (G.2.1 0, 30, .inl (fun _ => 0))), (q40, .inl (G.2.1 0, 30, .inl (fun _ => 0)))] := hD
  refine lv_aload_n hx hb dX11_init_69 rfl (lv_at hl 0 rfl) ?_
  refine va_new (ci := 4) (fs := [.null, .null, .null, .null, .null, .int 0, .null, .null, .null, .null, .int 0, .int 0, .int 0, .int 0, .long 0, .int 0, .int 0, .int 0, .int 0]) (C := RX5) (T := TX5) (N := 19) hx hb hq pin_wsX50 tyX5 tyX5_ok hown (hq _ pw_14) (hq _ pw_666) (hq _ pw_463) hE.1.1 hP hD hS hA rfl nw_X5 (Nat.le_of_ble_eq_true rfl) (Nat.le_of_ble_eq_true rfl) dX11_init_70 (fun q41 H hP hD hS => ?_)
  have hP : va_P G.1 pCl [(h0, .inr (8, [.ref q1, .int 0, .ref q2, .ref q17, .ref q30, .ref q34, .null, .null])), (q1, .inl (G.2.1 1, 5000, .inl (fun _ => 0))), (q2, .inr (7, [.ref q6, .int 220, .int 0, .ref q7, .ref q8, .ref q9, .ref q10, .ref q11, .int 0, .ref q12, .ref q13, .ref q14, .ref q15, .int 0, .int 0])), (q6, .inl (G.2.1 1, 5220, .inl f16)), (q7, .inl (G.2.1 0, 5000, .inl (fun _ => 0))), (q8, .inl (G.2.1 0, 5000, .inl (fun _ => 0))), (q9, .inl (G.2.1 0, 5000, .inl (fun _ => 0))), (q10, .inl (G.2.1 1, 5000, .inl (fun _ => 0))), (q11, .inl (G.2.1 0, 5000, .inl (fun _ => 0))), (q12, .inl (G.2.1 0, 2540, .inl (fun _ => 0))), (q13, .inl (G.2.1 0, 2540, .inl (fun _ => 0))), (q14, .inl (G.2.1 0, 2540, .inl (fun _ => 0))), (q15, .inl (G.2.1 0, 256, .inl (fun _ => 0))), (q17, .inr (1, [.ref q21, .ref q22, .ref q23, .ref q24, .int 0, .ref q25, .ref q26, .ref q27, .ref q28, .ref q29, .int 0, .int 0, .int 0])), (q21, .inl (G.2.1 0, 10000, .inl (fun _ => 0))), (q22, .inl (G.2.1 0, 10000, .inl (fun _ => 0))), (q23, .inl (G.2.1 0, 10000, .inl (fun _ => 0))), (q24, .inl (G.2.1 0, 10000, .inl (fun _ => 0))), (q25, .inl (G.2.1 0, 625, .inl (fun _ => 0))), (q26, .inl (G.2.1 0, 625, .inl (fun _ => 0))), (q27, .inl (G.2.1 0, 625, .inl (fun _ => 0))), (q28, .inl (G.2.1 0, 625, .inl (fun _ => 0))), (q29, .inl (G.2.1 0, 625, .inl (fun _ => 0))), (q30, .inr (5, [.ref q2, .null, .int 0, .int 0, .int 0])), (q34, .inr (0, [.ref q2, .ref q17, .ref q38, .ref q39, .ref q40, .int 0, .null, .null, .int 0, .int 0, .int 0, .null, .int 0])), (q38, .inl (G.2.1 0, 30, .inl (fun _ => 0))), (q39, .inl (G.2.1 0, 30, .inl (fun _ => 0))), (q40, .inl (G.2.1 0, 30, .inl (fun _ => 0))), (q41, .inr (4, [.null, .null, .null, .null, .null, .int 0, .null, .null, .null, .null, .int 0, .int 0, .int 0, .int 0, .long 0, .int 0, .int 0, .int 0, .int 0]))] H := hP
  have hD : va_D A [(h0, .inr (8, [.ref q1, .int 0, .ref q2, .ref q17, .ref q30, .ref q34, .null, .null])), (q1, .inl (G.2.1 1, 5000, .inl (fun _ => 0))), (q2, .inr (7, [.ref q6, .int 220, .int 0, .ref q7, .ref q8, .ref q9, .ref q10, .ref q11, .int 0, .ref q12, .ref q13, .ref q14, .ref q15, .int 0, .int 0])), (q6, .inl (G.2.1 1, 5220, .inl f16)), (q7, .inl (G.2.1 0, 5000, .inl (fun _ => 0))), (q8, .inl (G.2.1 0, 5000, .inl (fun _ => 0))), (q9, .inl (G.2.1 0, 5000, .inl (fun _ => 0))), (q10, .inl (G.2.1 1, 5000, .inl (fun _ => 0))), (q11, .inl (G.2.1 0, 5000, .inl (fun _ => 0))), (q12, .inl (G.2.1 0, 2540, .inl (fun _ => 0))), (q13, .inl (G.2.1 0, 2540, .inl (fun _ => 0))), (q14, .inl (G.2.1 0, 2540, .inl (fun _ => 0))), (q15, .inl (G.2.1 0, 256, .inl (fun _ => 0))), (q17, .inr (1, [.ref q21, .ref q22, .ref q23, .ref q24, .int 0, .ref q25, .ref q26, .ref q27, .ref q28, .ref q29, .int 0, .int 0, .int 0])), (q21, .inl (G.2.1 0, 10000, .inl (fun _ => 0))), (q22, .inl (G.2.1 0, 10000, .inl (fun _ => 0))), (q23, .inl (G.2.1 0, 10000, .inl (fun _ => 0))), (q24, .inl (G.2.1 0, 10000, .inl (fun _ => 0))), (q25, .inl (G.2.1 0, 625, .inl (fun _ => 0))), (q26, .inl (G.2.1 0, 625, .inl (fun _ => 0))), (q27, .inl (G.2.1 0, 625, .inl (fun _ => 0))), (q28, .inl (G.2.1 0, 625, .inl (fun _ => 0))), (q29, .inl (G.2.1 0, 625, .inl (fun _ => 0))), (q30, .inr (5, [.ref q2, .null, .int 0, .int 0, .int 0])), (q34, .inr (0, [.ref q2, .ref q17, .ref q38, .ref q39, .ref q40, .int 0, .null, .null, .int 0, .int 0, .int 0, .null, .int 0])), (q38, .inl (G.2.1 0, 30, .inl (fun _ => 0))), (q39, .inl (G.2.1 0, 30, .inl (fun _ => 0))), (q40, .inl (G.2.1 0, 30, .inl (fun _ => 0))), (q41, .inr (4, [.null, .null, .null, .null, .null, .int 0, .null, .null, .null, .null, .int 0, .int 0, .int 0, .int 0, .long 0, .int 0, .int 0, .int 0, .int 0]))] := hD
  refine W.widen (k := 28) (n := 86376) (Nat.le_of_ble_eq_true rfl) (Nat.le_of_ble_eq_true rfl) ?_
  refine lv_dup hx hb dX11_init_73 rfl ?_
  refine lv_aload_n hx hb dX11_init_74 rfl (lv_at hl 0 rfl) ?_
  refine va_get (D := G.1) (ci := 8) (v := .ref q17) (C := RX11) (T := TX11) (N := 8) hx hb hq pin_wsX110 hown hE.1.1 hP 0 rfl rfl 3 (by decide) (hq _ pw_7) (fun _ h9 => h9) rfl dX11_init_75 ?_
  refine pc_I (G := G) (As := [.ref q17]) (rest := [.ref q41, .ref h0]) (wr := [(h0, .inr (8, [.ref q1, .int 0, .ref q2, .ref q17, .ref q30, .ref q34, .null, .null])), (q1, .inl (G.2.1 1, 5000, .inl (fun _ => 0))), (q2, .inr (7, [.ref q6, .int 220, .int 0, .ref q7, .ref q8, .ref q9, .ref q10, .ref q11, .int 0, .ref q12, .ref q13, .ref q14, .ref q15, .int 0, .int 0])), (q6, .inl (G.2.1 1, 5220, .inl f16)), (q7, .inl (G.2.1 0, 5000, .inl (fun _ => 0))), (q8, .inl (G.2.1 0, 5000, .inl (fun _ => 0))), (q9, .inl (G.2.1 0, 5000, .inl (fun _ => 0))), (q10, .inl (G.2.1 1, 5000, .inl (fun _ => 0))), (q11, .inl (G.2.1 0, 5000, .inl (fun _ => 0))), (q12, .inl (G.2.1 0, 2540, .inl (fun _ => 0))), (q13, .inl (G.2.1 0, 2540, .inl (fun _ => 0))), (q14, .inl (G.2.1 0, 2540, .inl (fun _ => 0))), (q15, .inl (G.2.1 0, 256, .inl (fun _ => 0))), (q17, .inr (1, [.ref q21, .ref q22, .ref q23, .ref q24, .int 0, .ref q25, .ref q26, .ref q27, .ref q28, .ref q29, .int 0, .int 0, .int 0])), (q21, .inl (G.2.1 0, 10000, .inl (fun _ => 0))), (q22, .inl (G.2.1 0, 10000, .inl (fun _ => 0))), (q23, .inl (G.2.1 0, 10000, .inl (fun _ => 0))), (q24, .inl (G.2.1 0, 10000, .inl (fun _ => 0))), (q25, .inl (G.2.1 0, 625, .inl (fun _ => 0))), (q26, .inl (G.2.1 0, 625, .inl (fun _ => 0))), (q27, .inl (G.2.1 0, 625, .inl (fun _ => 0))), (q28, .inl (G.2.1 0, 625, .inl (fun _ => 0))), (q29, .inl (G.2.1 0, 625, .inl (fun _ => 0))), (q30, .inr (5, [.ref q2, .null, .int 0, .int 0, .int 0])), (q34, .inr (0, [.ref q2, .ref q17, .ref q38, .ref q39, .ref q40, .int 0, .null, .null, .int 0, .int 0, .int 0, .null, .int 0])), (q38, .inl (G.2.1 0, 30, .inl (fun _ => 0))), (q39, .inl (G.2.1 0, 30, .inl (fun _ => 0))), (q40, .inl (G.2.1 0, 30, .inl (fun _ => 0)))]) hx hb hml hown hq hE hX pX0_al hP hD hS hA hl.1 (c_Machine_init l G q41 q17) pw_15 pw_462 pw_463 pw_461 rfl hS_X5_init [28] [0, 1, 2, 3, 4, 5, 6, 7, 8, 9, 10, 11, 12, 13, 14, 15, 16, 17, 18, 19, 20, 21, 22, 23, 24, 25, 26, 27] rfl rfl (by decide) (by decide) (by decide) rfl (Nat.le_of_ble_eq_true rfl) dX11_init_78 ⟨Nat.le_of_ble_eq_true rfl, Nat.le_of_ble_eq_true rfl⟩ ⟨Nat.le_of_ble_eq_true rfl, Nat.le_of_ble_eq_true rfl⟩ (fun v44 u42 H locs hw43 hP hD hS => ?_)
  obtain rfl : v44 = none := hw43
  have hP : va_P G.1 pCl [(h0, .inr (8, [.ref q1, .int 0, .ref q2, .ref q17, .ref q30, .ref q34, .null, .null])), (q1, .inl (G.2.1 1, 5000, .inl (fun _ => 0))), (q2, .inr (7, [.ref q6, .int 220, .int 0, .ref q7, .ref q8, .ref q9, .ref q10, .ref q11, .int 0, .ref q12, .ref q13, .ref q14, .ref q15, .int 0, .int 0])), (q6, .inl (G.2.1 1, 5220, .inl f16)), (q7, .inl (G.2.1 0, 5000, .inl (fun _ => 0))), (q8, .inl (G.2.1 0, 5000, .inl (fun _ => 0))), (q9, .inl (G.2.1 0, 5000, .inl (fun _ => 0))), (q10, .inl (G.2.1 1, 5000, .inl (fun _ => 0))), (q11, .inl (G.2.1 0, 5000, .inl (fun _ => 0))), (q12, .inl (G.2.1 0, 2540, .inl (fun _ => 0))), (q13, .inl (G.2.1 0, 2540, .inl (fun _ => 0))), (q14, .inl (G.2.1 0, 2540, .inl (fun _ => 0))), (q15, .inl (G.2.1 0, 256, .inl (fun _ => 0))), (q17, .inr (1, [.ref q21, .ref q22, .ref q23, .ref q24, .int 0, .ref q25, .ref q26, .ref q27, .ref q28, .ref q29, .int 0, .int 0, .int 0])), (q21, .inl (G.2.1 0, 10000, .inl (fun _ => 0))), (q22, .inl (G.2.1 0, 10000, .inl (fun _ => 0))), (q23, .inl (G.2.1 0, 10000, .inl (fun _ => 0))), (q24, .inl (G.2.1 0, 10000, .inl (fun _ => 0))), (q25, .inl (G.2.1 0, 625, .inl (fun _ => 0))), (q26, .inl (G.2.1 0, 625, .inl (fun _ => 0))), (q27, .inl (G.2.1 0, 625, .inl (fun _ => 0))), (q28, .inl (G.2.1 0, 625, .inl (fun _ => 0))), (q29, .inl (G.2.1 0, 625, .inl (fun _ => 0))), (q30, .inr (5, [.ref q2, .null, .int 0, .int 0, .int 0])), (q34, .inr (0, [.ref q2, .ref q17, .ref q38, .ref q39, .ref q40, .int 0, .null, .null, .int 0, .int 0, .int 0, .null, .int 0])), (q38, .inl (G.2.1 0, 30, .inl (fun _ => 0))), (q39, .inl (G.2.1 0, 30, .inl (fun _ => 0))), (q40, .inl (G.2.1 0, 30, .inl (fun _ => 0))), (q41, .inr (4, [.ref q17, .ref (u42.1 0), .ref (u42.1 3), .ref (u42.1 4), .ref (u42.1 5), .int 0, .ref (u42.1 6), .ref (u42.1 7), .null, .null, .int 0, .int 0, .int 0, .int 0, .long 0, .int 0, .int 0, .int 0, .int 0])), ((u42.1 0), .inr (3, [.ref (u42.1 1), .ref (u42.1 2), .int 8, .int 0, .int 0])), ((u42.1 1), .inl (G.2.1 2, 3008, .inr (.inl (u42.2.2 0)))), ((u42.1 2), .inl (G.2.1 2, 3008, .inr (.inl (u42.2.2 1)))), ((u42.1 3), .inl (G.2.1 2, 32000, .inr (.inl (fun _ => 0)))), ((u42.1 4), .inl (G.2.1 0, 300, .inl (fun _ => 0))), ((u42.1 5), .inl (G.2.1 0, 200, .inl (fun _ => 0))), ((u42.1 6), .inl (G.2.1 0, 400, .inl (fun _ => 0))), ((u42.1 7), .inl (G.2.1 0, 12, .inl (fun _ => 0)))] H := hP
  have hD : va_D A [(h0, .inr (8, [.ref q1, .int 0, .ref q2, .ref q17, .ref q30, .ref q34, .null, .null])), (q1, .inl (G.2.1 1, 5000, .inl (fun _ => 0))), (q2, .inr (7, [.ref q6, .int 220, .int 0, .ref q7, .ref q8, .ref q9, .ref q10, .ref q11, .int 0, .ref q12, .ref q13, .ref q14, .ref q15, .int 0, .int 0])), (q6, .inl (G.2.1 1, 5220, .inl f16)), (q7, .inl (G.2.1 0, 5000, .inl (fun _ => 0))), (q8, .inl (G.2.1 0, 5000, .inl (fun _ => 0))), (q9, .inl (G.2.1 0, 5000, .inl (fun _ => 0))), (q10, .inl (G.2.1 1, 5000, .inl (fun _ => 0))), (q11, .inl (G.2.1 0, 5000, .inl (fun _ => 0))), (q12, .inl (G.2.1 0, 2540, .inl (fun _ => 0))), (q13, .inl (G.2.1 0, 2540, .inl (fun _ => 0))), (q14, .inl (G.2.1 0, 2540, .inl (fun _ => 0))), (q15, .inl (G.2.1 0, 256, .inl (fun _ => 0))), (q17, .inr (1, [.ref q21, .ref q22, .ref q23, .ref q24, .int 0, .ref q25, .ref q26, .ref q27, .ref q28, .ref q29, .int 0, .int 0, .int 0])), (q21, .inl (G.2.1 0, 10000, .inl (fun _ => 0))), (q22, .inl (G.2.1 0, 10000, .inl (fun _ => 0))), (q23, .inl (G.2.1 0, 10000, .inl (fun _ => 0))), (q24, .inl (G.2.1 0, 10000, .inl (fun _ => 0))), (q25, .inl (G.2.1 0, 625, .inl (fun _ => 0))), (q26, .inl (G.2.1 0, 625, .inl (fun _ => 0))), (q27, .inl (G.2.1 0, 625, .inl (fun _ => 0))), (q28, .inl (G.2.1 0, 625, .inl (fun _ => 0))), (q29, .inl (G.2.1 0, 625, .inl (fun _ => 0))), (q30, .inr (5, [.ref q2, .null, .int 0, .int 0, .int 0])), (q34, .inr (0, [.ref q2, .ref q17, .ref q38, .ref q39, .ref q40, .int 0, .null, .null, .int 0, .int 0, .int 0, .null, .int 0])), (q38, .inl (G.2.1 0, 30, .inl (fun _ => 0))), (q39, .inl (G.2.1 0, 30, .inl (fun _ => 0))), (q40, .inl (G.2.1 0, 30, .inl (fun _ => 0))), (q41, .inr (4, [.ref q17, .ref (u42.1 0), .ref (u42.1 3), .ref (u42.1 4), .ref (u42.1 5), .int 0, .ref (u42.1 6), .ref (u42.1 7), .null, .null, .int 0, .int 0, .int 0, .int 0, .long 0, .int 0, .int 0, .int 0, .int 0])), ((u42.1 0), .inr (3, [.ref (u42.1 1), .ref (u42.1 2), .int 8, .int 0, .int 0])), ((u42.1 1), .inl (G.2.1 2, 3008, .inr (.inl (u42.2.2 0)))), ((u42.1 2), .inl (G.2.1 2, 3008, .inr (.inl (u42.2.2 1)))), ((u42.1 3), .inl (G.2.1 2, 32000, .inr (.inl (fun _ => 0)))), ((u42.1 4), .inl (G.2.1 0, 300, .inl (fun _ => 0))), ((u42.1 5), .inl (G.2.1 0, 200, .inl (fun _ => 0))), ((u42.1 6), .inl (G.2.1 0, 400, .inl (fun _ => 0))), ((u42.1 7), .inl (G.2.1 0, 12, .inl (fun _ => 0)))] := hD
  generalize u42.1 0 = q45 at hP hD
  generalize u42.1 3 = q46 at hP hD
  generalize u42.1 4 = q47 at hP hD
  generalize u42.1 5 = q48 at hP hD
  generalize u42.1 6 = q49 at hP hD
  generalize u42.1 7 = q50 at hP hD
  generalize u42.1 1 = q51 at hP hD
  generalize u42.1 2 = q52 at hP hD
  generalize u42.2.2 0 = g53 at hP hD
  generalize u42.2.2 1 = g54 at hP hD
  refine W.widen (k := 36) (n := 125309) (Nat.le_of_ble_eq_true rfl) (Nat.le_of_ble_eq_true rfl) ?_
  refine W.eq (g2 := F0 m 81 ls [.ref q41, .ref h0]) rfl ?_
  refine va_putF (D := G.1) (ci := 8) (v := .ref q41) (ty := (.object "JinjaTongue$Machine")) (C := RX11) (T := TX11) (N := 8) hx hb hq pin_wsX110 tyX11 tyX11_ok nmX11 hown hE.1.1 hP hD hS 0 rfl rfl 6 (by decide) (hq _ pw_16) (fun _ h9 => h9) rfl hin rfl (by decide +kernel) rfl rfl (Nat.le_of_ble_eq_true rfl) dX11_init_81 (fun H locs hP hD hS => ?_)
  have hP : va_P G.1 pCl [(h0, .inr (8, [.ref q1, .int 0, .ref q2, .ref q17, .ref q30, .ref q34, .ref q41, .null])), (q1, .inl (G.2.1 1, 5000, .inl (fun _ => 0))), (q2, .inr (7, [.ref q6, .int 220, .int 0, .ref q7, .ref q8, .ref q9, .ref q10, .ref q11, .int 0, .ref q12, .ref q13, .ref q14, .ref q15, .int 0, .int 0])), (q6, .inl (G.2.1 1, 5220, .inl f16)), (q7, .inl (G.2.1 0, 5000, .inl (fun _ => 0))), (q8, .inl (G.2.1 0, 5000, .inl (fun _ => 0))), (q9, .inl (G.2.1 0, 5000, .inl (fun _ => 0))), (q10, .inl (G.2.1 1, 5000, .inl (fun _ => 0))), (q11, .inl (G.2.1 0, 5000, .inl (fun _ => 0))), (q12, .inl (G.2.1 0, 2540, .inl (fun _ => 0))), (q13, .inl (G.2.1 0, 2540, .inl (fun _ => 0))), (q14, .inl (G.2.1 0, 2540, .inl (fun _ => 0))), (q15, .inl (G.2.1 0, 256, .inl (fun _ => 0))), (q17, .inr (1, [.ref q21, .ref q22, .ref q23, .ref q24, .int 0, .ref q25, .ref q26, .ref q27, .ref q28, .ref q29, .int 0, .int 0, .int 0])), (q21, .inl (G.2.1 0, 10000, .inl (fun _ => 0))), (q22, .inl (G.2.1 0, 10000, .inl (fun _ => 0))), (q23, .inl (G.2.1 0, 10000, .inl (fun _ => 0))), (q24, .inl (G.2.1 0, 10000, .inl (fun _ => 0))), (q25, .inl (G.2.1 0, 625, .inl (fun _ => 0))), (q26, .inl (G.2.1 0, 625, .inl (fun _ => 0))), (q27, .inl (G.2.1 0, 625, .inl (fun _ => 0))), (q28, .inl (G.2.1 0, 625, .inl (fun _ => 0))), (q29, .inl (G.2.1 0, 625, .inl (fun _ => 0))), (q30, .inr (5, [.ref q2, .null, .int 0, .int 0, .int 0])), (q34, .inr (0, [.ref q2, .ref q17, .ref q38, .ref q39, .ref q40, .int 0, .null, .null, .int 0, .int 0, .int 0, .null, .int 0])), (q38, .inl (G.2.1 0, 30, .inl (fun _ => 0))), (q39, .inl (G.2.1 0, 30, .inl (fun _ => 0))), (q40, .inl (G.2.1 0, 30, .inl (fun _ => 0))), (q41, .inr (4, [.ref q17, .ref q45, .ref q46, .ref q47, .ref q48, .int 0, .ref q49, .ref q50, .null, .null, .int 0, .int 0, .int 0, .int 0, .long 0, .int 0, .int 0, .int 0, .int 0])), (q45, .inr (3, [.ref q51, .ref q52, .int 8, .int 0, .int 0])), (q51, .inl (G.2.1 2, 3008, .inr (.inl g53))), (q52, .inl (G.2.1 2, 3008, .inr (.inl g54))), (q46, .inl (G.2.1 2, 32000, .inr (.inl (fun _ => 0)))), (q47, .inl (G.2.1 0, 300, .inl (fun _ => 0))), (q48, .inl (G.2.1 0, 200, .inl (fun _ => 0))), (q49, .inl (G.2.1 0, 400, .inl (fun _ => 0))), (q50, .inl (G.2.1 0, 12, .inl (fun _ => 0)))] H := hP
  have hD : va_D A [(h0, .inr (8, [.ref q1, .int 0, .ref q2, .ref q17, .ref q30, .ref q34, .ref q41, .null])), (q1, .inl (G.2.1 1, 5000, .inl (fun _ => 0))), (q2, .inr (7, [.ref q6, .int 220, .int 0, .ref q7, .ref q8, .ref q9, .ref q10, .ref q11, .int 0, .ref q12, .ref q13, .ref q14, .ref q15, .int 0, .int 0])), (q6, .inl (G.2.1 1, 5220, .inl f16)), (q7, .inl (G.2.1 0, 5000, .inl (fun _ => 0))), (q8, .inl (G.2.1 0, 5000, .inl (fun _ => 0))), (q9, .inl (G.2.1 0, 5000, .inl (fun _ => 0))), (q10, .inl (G.2.1 1, 5000, .inl (fun _ => 0))), (q11, .inl (G.2.1 0, 5000, .inl (fun _ => 0))), (q12, .inl (G.2.1 0, 2540, .inl (fun _ => 0))), (q13, .inl (G.2.1 0, 2540, .inl (fun _ => 0))), (q14, .inl (G.2.1 0, 2540, .inl (fun _ => 0))), (q15, .inl (G.2.1 0, 256, .inl (fun _ => 0))), (q17, .inr (1, [.ref q21, .ref q22, .ref q23, .ref q24, .int 0, .ref q25, .ref q26, .ref q27, .ref q28, .ref q29, .int 0, .int 0, .int 0])), (q21, .inl (G.2.1 0, 10000, .inl (fun _ => 0))), (q22, .inl (G.2.1 0, 10000, .inl (fun _ => 0))), (q23, .inl (G.2.1 0, 10000, .inl (fun _ => 0))), (q24, .inl (G.2.1 0, 10000, .inl (fun _ => 0))), (q25, .inl (G.2.1 0, 625, .inl (fun _ => 0))), (q26, .inl (G.2.1 0, 625, .inl (fun _ => 0))), (q27, .inl (G.2.1 0, 625, .inl (fun _ => 0))), (q28, .inl (G.2.1 0, 625, .inl (fun _ => 0))), (q29, .inl (G.2.1 0, 625, .inl (fun _ => 0))), (q30, .inr (5, [.ref q2, .null, .int 0, .int 0, .int 0])), (q34, .inr (0, [.ref q2, .ref q17, .ref q38, .ref q39, .ref q40, .int 0, .null, .null, .int 0, .int 0, .int 0, .null, .int 0])), (q38, .inl (G.2.1 0, 30, .inl (fun _ => 0))), (q39, .inl (G.2.1 0, 30, .inl (fun _ => 0))), (q40, .inl (G.2.1 0, 30, .inl (fun _ => 0))), (q41, .inr (4, [.ref q17, .ref q45, .ref q46, .ref q47, .ref q48, .int 0, .ref q49, .ref q50, .null, .null, .int 0, .int 0, .int 0, .int 0, .long 0, .int 0, .int 0, .int 0, .int 0])), (q45, .inr (3, [.ref q51, .ref q52, .int 8, .int 0, .int 0])), (q51, .inl (G.2.1 2, 3008, .inr (.inl g53))), (q52, .inl (G.2.1 2, 3008, .inr (.inl g54))), (q46, .inl (G.2.1 2, 32000, .inr (.inl (fun _ => 0)))), (q47, .inl (G.2.1 0, 300, .inl (fun _ => 0))), (q48, .inl (G.2.1 0, 200, .inl (fun _ => 0))), (q49, .inl (G.2.1 0, 400, .inl (fun _ => 0))), (q50, .inl (G.2.1 0, 12, .inl (fun _ => 0)))] := hD
  refine W.widen (k := 36) (n := 125309) (Nat.le_of_ble_eq_true rfl) (Nat.le_of_ble_eq_true rfl) ?_
  exact W.vret hx hb hr (fun t ht hW => ⟨⟨_, ((fun k => match k with | 0 => q1 | 1 => q2 | 2 => q6 | 3 => q7 | 4 => q8 | 5 => q9 | 6 => q10 | 7 => q11 | 8 => q12 | 9 => q13 | 10 => q14 | 11 => q15 | 12 => q17 | 13 => q21 | 14 => q22 | 15 => q23 | 16 => q24 | 17 => q25 | 18 => q26 | 19 => q27 | 20 => q28 | 21 => q29 | 22 => q30 | 23 => q34 | 24 => q38 | 25 => q39 | 26 => q40 | 27 => q41 | 28 => q45 | 29 => q51 | 30 => q52 | 31 => q46 | 32 => q47 | 33 => q48 | 34 => q49 | _ => q50), (fun k => match k with | _ => f16), (fun k => match k with | 0 => g53 | _ => g54)), rfl, rfl, by rw [ht]; exact hP.sub [0, 1, 2, 3, 4, 5, 6, 7, 8, 9, 10, 11, 12, 13, 14, 15, 16, 17, 18, 19, 20, 21, 22, 23, 24, 25, 26, 27, 28, 29, 30, 31, 32, 33, 34, 35, 36] rfl, hD.sub [0, 1, 2, 3, 4, 5, 6, 7, 8, 9, 10, 11, 12, 13, 14, 15, 16, 17, 18, 19, 20, 21, 22, 23, 24, 25, 26, 27, 28, 29, 30, 31, 32, 33, 34, 35, 36] (by decide) rfl⟩, hS.F ht⟩) hS.2.2 dX11_init_84
end
section
theorem dX11_append_0 : decode cX11_append 0 = .ok (.bipush 24, 2) := by decide +kernel
theorem dX11_append_2 : decode cX11_append 2 = .ok (.istore_n 2, 1) := by decide +kernel
theorem dX11_append_3 : decode cX11_append 3 = .ok (.iload_n 2, 1) := by decide +kernel
theorem dX11_append_4 : decode cX11_append 4 = .ok (.ifCond .lt 44, 3) := by decide +kernel
theorem dX11_append_7 : decode cX11_append 7 = .ok (.aload_n 0, 1) := by decide +kernel
theorem dX11_append_8 : decode cX11_append 8 = .ok (.getfield 54, 3) := by decide +kernel
theorem dX11_append_11 : decode cX11_append 11 = .ok (.aload_n 0, 1) := by decide +kernel
theorem dX11_append_12 : decode cX11_append 12 = .ok (.getfield 9, 3) := by decide +kernel
theorem dX11_append_15 : decode cX11_append 15 = .ok (.arraylength, 1) := by decide +kernel
theorem dX11_append_16 : decode cX11_append 16 = .ok (.if_icmp .ge 26, 3) := by decide +kernel
theorem dX11_append_19 : decode cX11_append 19 = .ok (.aload_n 0, 1) := by decide +kernel
theorem dX11_append_20 : decode cX11_append 20 = .ok (.getfield 9, 3) := by decide +kernel
theorem dX11_append_23 : decode cX11_append 23 = .ok (.aload_n 0, 1) := by decide +kernel
theorem dX11_append_24 : decode cX11_append 24 = .ok (.getfield 54, 3) := by decide +kernel
theorem dX11_append_27 : decode cX11_append 27 = .ok (.iload_n 1, 1) := by decide +kernel
theorem dX11_append_28 : decode cX11_append 28 = .ok (.iload_n 2, 1) := by decide +kernel
theorem dX11_append_29 : decode cX11_append 29 = .ok (.iushr, 1) := by decide +kernel
theorem dX11_append_30 : decode cX11_append 30 = .ok (.i2b, 1) := by decide +kernel
theorem dX11_append_31 : decode cX11_append 31 = .ok (.bastore, 1) := by decide +kernel
theorem dX11_append_32 : decode cX11_append 32 = .ok (.aload_n 0, 1) := by decide +kernel
theorem dX11_append_33 : decode cX11_append 33 = .ok (.dup, 1) := by decide +kernel
theorem dX11_append_34 : decode cX11_append 34 = .ok (.getfield 54, 3) := by decide +kernel
theorem dX11_append_37 : decode cX11_append 37 = .ok (.iconst 1, 1) := by decide +kernel
theorem dX11_append_38 : decode cX11_append 38 = .ok (.iadd, 1) := by decide +kernel
theorem dX11_append_39 : decode cX11_append 39 = .ok (.putfield 54, 3) := by decide +kernel
theorem dX11_append_42 : decode cX11_append 42 = .ok (.iinc 2 (-8), 3) := by decide +kernel
theorem dX11_append_45 : decode cX11_append 45 = .ok (.goto (-42), 3) := by decide +kernel
theorem dX11_append_48 : decode cX11_append 48 = .ok (.return_, 1) := by decide +kernel
set_option maxHeartbeats 1000000 in
set_option maxRecDepth 100000 in
/-- append, 0 bytes on the tape -/
theorem c_append_0 (l : Launch) (G : pT) (h0 : Nat) (k1 : Nat) (k2 : Nat) (k3 : Nat) (k4 : Nat) (k5 : Nat) (k6 : Nat) (f : Nat → Int32) (x : Int32) : PM l G pX0 yX11_append cX11_append 3 none ({ frames := 2, cells := 0, slots := 0, locals := 60 }) [.ref h0, .int x] [(h0, .inr (8, [.ref k1, .int 0, .ref k2, .ref k3, .ref k4, .ref k5, .ref k6, .null])), (k1, .inl (G.2.1 1, 5000, .inl f))] (fun (v : Option Value) (u : (Nat → Nat) × (Nat → Nat → Int32) × (Nat → Nat → Int64)) => v = none) (fun u => [(h0, .inr (8, [.ref k1, .int 4, .ref k2, .ref k3, .ref k4, .ref k5, .ref k6, .null])), (k1, .inl (G.2.1 1, 5000, .inl (u.2.1 0)))]) := by
  intro sz
  refine Met.ofW (cc := cX11_append) (maxL := 3) (ret := none) (by decide) rfl ?_
  intro p e s m args below meth c s₁ B hml hv
  obtain ⟨rfl, hsz, hP, hD0, hE, hX⟩ := hv
  have hx := B.exec
  have hb := B.bytes
  have hr := B.returns
  have hts := atoms_spec (ws := Cond.code yX11_append cX11_append 3 none :: pw) B.pre
  have hq : ∀ w ∈ pw, w.before _ s = true := fun w h => hts w (List.mem_cons_of_mem _ h)
  have hown : s.vm.findClass RX11 = some m.cls := findClass_of_methodNamed B.named
  have hlocks := B.notSynchronized
  subst hsz
  have hD := hD0.self (sz := s.heap.size)
  have hA : ∀ q : Nat, s.heap.size ≤ q → va_A [(h0, .inr (8, [.ref k1, .int 0, .ref k2, .ref k3, .ref k4, .ref k5, .ref k6, .null])), (k1, .inl (G.2.1 1, 5000, .inl f))] s.heap.size q := fun q h => Or.inr h
  have hP : va_P G.1 pCl [(h0, .inr (8, [.ref k1, .int 0, .ref k2, .ref k3, .ref k4, .ref k5, .ref k6, .null])), (k1, .inl (G.2.1 1, 5000, .inl f))] s.heap := hP
  generalize va_A [(h0, .inr (8, [.ref k1, .int 0, .ref k2, .ref k3, .ref k4, .ref k5, .ref k6, .null])), (k1, .inl (G.2.1 1, 5000, .inl f))] s.heap.size = A at hD hE hA ⊢
  have hS : va_S A s.heap s.heap [] := va_S.rf
  have hl := lv_entry ([.ref h0, .int x]) (n := 3) (Nat.le_of_ble_eq_true rfl)
  rw [lg_entry_eq]
  generalize (lg_sl ([.ref h0, .int x]) ++ List.replicate (3 - (lg_sl ([.ref h0, .int x])).length) Slot.unset).toArray = ls at hl ⊢
  have hl : lv_has ls 3 [(0, .ref h0), (1, .int x)] := hl
  refine lv_bipush (v := 24) hx hb dX11_append_0 (by decide) ?_
  refine lv_istore_n (lv' := [(2, .int 24), (0, .ref h0), (1, .int x)]) hx hb dX11_append_2 rfl hl (by decide) rfl (fun ls hl => ?_)
  refine lv_iload_n hx hb dX11_append_3 rfl (lv_at hl 0 rfl) ?_
  refine lv_if_lt (tgt := 48) hx hb dX11_append_4 (by decide) (fun c1 => absurd c1 (by decide)) (fun c1 => ?_)
  refine lv_aload_n hx hb dX11_append_7 rfl (lv_at hl 1 rfl) ?_
  refine va_get (D := G.1) (ci := 8) (v := .int 0) (C := RX11) (T := TX11) (N := 8) hx hb hq pin_wsX110 hown hE.1.1 hP 0 rfl rfl 1 (by decide) (hq _ pw_17) (fun _ h9 => h9) rfl dX11_append_8 ?_
  refine lv_aload_n hx hb dX11_append_11 rfl (lv_at hl 1 rfl) ?_
  refine va_get (D := G.1) (ci := 8) (v := .ref k1) (C := RX11) (T := TX11) (N := 8) hx hb hq pin_wsX110 hown hE.1.1 hP 0 rfl rfl 0 (by decide) (hq _ pw_1) (fun _ h9 => h9) rfl dX11_append_12 ?_
  refine va_alen (v := 5000) hx hb hE.1.1 hP 1 1 rfl rfl (show Int32.ofNat 5000 = 5000 from by decide) dX11_append_15 ?_
  refine lv_icmp_ge (tgt := 42) hx hb dX11_append_16 (by decide) (fun c2 => absurd c2 (by decide)) (fun c2 => ?_)
  refine lv_aload_n hx hb dX11_append_19 rfl (lv_at hl 1 rfl) ?_
  refine va_get (D := G.1) (ci := 8) (v := .ref k1) (C := RX11) (T := TX11) (N := 8) hx hb hq pin_wsX110 hown hE.1.1 hP 0 rfl rfl 0 (by decide) (hq _ pw_1) (fun _ h9 => h9) rfl dX11_append_20 ?_
  refine lv_aload_n hx hb dX11_append_23 rfl (lv_at hl 1 rfl) ?_
  refine va_get (D := G.1) (ci := 8) (v := .int 0) (C := RX11) (T := TX11) (N := 8) hx hb hq pin_wsX110 hown hE.1.1 hP 0 rfl rfl 1 (by decide) (hq _ pw_17) (fun _ h9 => h9) rfl dX11_append_24 ?_
  refine lv_iload_n hx hb dX11_append_27 rfl (lv_at hl 2 rfl) ?_
  refine lv_iload_n hx hb dX11_append_28 rfl (lv_at hl 0 rfl) ?_
  refine lv_iushr hx hb dX11_append_29 rfl ?_
  refine lv_topi (fun x3 e4 => ?_)
  refine lv_i2b hx hb dX11_append_30 rfl ?_
  refine lv_topi (fun x5 e6 => ?_)
  refine va_bast hx hb hE.1.1 hP hD hS 1 1 rfl rfl (by unfold vp_in; decide) dX11_append_31 (fun H locs hP hD hS => ?_)
  have hP : va_P G.1 pCl [(h0, .inr (8, [.ref k1, .int 0, .ref k2, .ref k3, .ref k4, .ref k5, .ref k6, .null])), (k1, .inl (G.2.1 1, 5000, .inl (upd f (Int32.toNatClampNeg 0) (vp_nar .byte x5))))] H := hP
  have hD : va_D A [(h0, .inr (8, [.ref k1, .int 0, .ref k2, .ref k3, .ref k4, .ref k5, .ref k6, .null])), (k1, .inl (G.2.1 1, 5000, .inl (upd f (Int32.toNatClampNeg 0) (vp_nar .byte x5))))] := hD
  generalize (upd f (Int32.toNatClampNeg 0) (vp_nar .byte x5)) = f7 at hP hD
  refine lv_aload_n hx hb dX11_append_32 rfl (lv_at hl 1 rfl) ?_
  refine lv_dup hx hb dX11_append_33 rfl ?_
  refine va_get (D := G.1) (ci := 8) (v := .int 0) (C := RX11) (T := TX11) (N := 8) hx hb hq pin_wsX110 hown hE.1.1 hP 0 rfl rfl 1 (by decide) (hq _ pw_17) (fun _ h9 => h9) rfl dX11_append_34 ?_
  refine lv_iconst (v := 1) hx hb dX11_append_37 (by decide) ?_
  refine lv_iadd hx hb dX11_append_38 ?_
  refine lv_topi (fun x8 e9 => ?_)
  obtain rfl : x8 = 1 := e9.trans (by decide)
  refine va_put (D := G.1) (ci := 8) (v := .int 1) (ty := .int) (C := RX11) (T := TX11) (N := 8) hx hb hq pin_wsX110 tyX11 tyX11_ok nmX11 hown hE.1.1 hP hD hS 0 rfl rfl 1 (by decide) (hq _ pw_17) (fun _ h9 => h9) rfl (by decide +kernel) rfl rfl (Nat.le_of_ble_eq_true rfl) dX11_append_39 (fun H locs hP hD hS => ?_)
  have hP : va_P G.1 pCl [(h0, .inr (8, [.ref k1, .int 1, .ref k2, .ref k3, .ref k4, .ref k5, .ref k6, .null])), (k1, .inl (G.2.1 1, 5000, .inl f7))] H := hP
  have hD : va_D A [(h0, .inr (8, [.ref k1, .int 1, .ref k2, .ref k3, .ref k4, .ref k5, .ref k6, .null])), (k1, .inl (G.2.1 1, 5000, .inl f7))] := hD
  refine lv_iinc (v := 16) (lv' := [(2, .int 16), (0, .ref h0), (1, .int x)]) hx hb dX11_append_42 hl (k := 0) rfl (by decide) (by decide) rfl (fun ls hl => ?_)
  refine lv_goto (tgt := 3) hx hb dX11_append_45 (by decide) ?_
  refine lv_iload_n hx hb dX11_append_3 rfl (lv_at hl 0 rfl) ?_
  refine lv_if_lt (tgt := 48) hx hb dX11_append_4 (by decide) (fun c10 => absurd c10 (by decide)) (fun c10 => ?_)
  refine lv_aload_n hx hb dX11_append_7 rfl (lv_at hl 1 rfl) ?_
  refine va_get (D := G.1) (ci := 8) (v := .int 1) (C := RX11) (T := TX11) (N := 8) hx hb hq pin_wsX110 hown hE.1.1 hP 0 rfl rfl 1 (by decide) (hq _ pw_17) (fun _ h9 => h9) rfl dX11_append_8 ?_
  refine lv_aload_n hx hb dX11_append_11 rfl (lv_at hl 1 rfl) ?_
  refine va_get (D := G.1) (ci := 8) (v := .ref k1) (C := RX11) (T := TX11) (N := 8) hx hb hq pin_wsX110 hown hE.1.1 hP 0 rfl rfl 0 (by decide) (hq _ pw_1) (fun _ h9 => h9) rfl dX11_append_12 ?_
  refine va_alen (v := 5000) hx hb hE.1.1 hP 1 1 rfl rfl (show Int32.ofNat 5000 = 5000 from by decide) dX11_append_15 ?_
  refine lv_icmp_ge (tgt := 42) hx hb dX11_append_16 (by decide) (fun c11 => absurd c11 (by decide)) (fun c11 => ?_)
  refine lv_aload_n hx hb dX11_append_19 rfl (lv_at hl 1 rfl) ?_
  refine va_get (D := G.1) (ci := 8) (v := .ref k1) (C := RX11) (T := TX11) (N := 8) hx hb hq pin_wsX110 hown hE.1.1 hP 0 rfl rfl 0 (by decide) (hq _ pw_1) (fun _ h9 => h9) rfl dX11_append_20 ?_
  refine lv_aload_n hx hb dX11_append_23 rfl (lv_at hl 1 rfl) ?_
  refine va_get (D := G.1) (ci := 8) (v := .int 1) (C := RX11) (T := TX11) (N := 8) hx hb hq pin_wsX110 hown hE.1.1 hP 0 rfl rfl 1 (by decide) (hq _ pw_17) (fun _ h9 => h9) rfl dX11_append_24 ?_
  refine lv_iload_n hx hb dX11_append_27 rfl (lv_at hl 2 rfl) ?_
  refine lv_iload_n hx hb dX11_append_28 rfl (lv_at hl 0 rfl) ?_
  refine lv_iushr hx hb dX11_append_29 rfl ?_
  refine lv_topi (fun x12 e13 => ?_)
  refine lv_i2b hx hb dX11_append_30 rfl ?_
  refine lv_topi (fun x14 e15 => ?_)
  refine va_bast hx hb hE.1.1 hP hD hS 1 1 rfl rfl (by unfold vp_in; decide) dX11_append_31 (fun H locs hP hD hS => ?_)
  have hP : va_P G.1 pCl [(h0, .inr (8, [.ref k1, .int 1, .ref k2, .ref k3, .ref k4, .ref k5, .ref k6, .null])), (k1, .inl (G.2.1 1, 5000, .inl (upd f7 (Int32.toNatClampNeg 1) (vp_nar .byte x14))))] H := hP
  have hD : va_D A [(h0, .inr (8, [.ref k1, .int 1, .ref k2, .ref k3, .ref k4, .ref k5, .ref k6, .null])), (k1, .inl (G.2.1 1, 5000, .inl (upd f7 (Int32.toNatClampNeg 1) (vp_nar .byte x14))))] := hD
  generalize (upd f7 (Int32.toNatClampNeg 1) (vp_nar .byte x14)) = f16 at hP hD
  refine lv_aload_n hx hb dX11_append_32 rfl (lv_at hl 1 rfl) ?_
  refine lv_dup hx hb dX11_append_33 rfl ?_
  refine va_get (D := G.1) (ci := 8) (v := .int 1) (C := RX11) (T := TX11) (N := 8) hx hb hq pin_wsX110 hown hE.1.1 hP 0 rfl rfl 1 (by decide) (hq _ pw_17) (fun _ h9 => h9) rfl dX11_append_34 ?_
  refine lv_iconst (v := 1) hx hb dX11_append_37 (by decide) ?_
  refine lv_iadd hx hb dX11_append_38 ?_
  refine lv_topi (fun x17 e18 => ?_)
  obtain rfl : x17 = 2 := e18.trans (by decide)
  refine va_put (D := G.1) (ci := 8) (v := .int 2) (ty := .int) (C := RX11) (T := TX11) (N := 8) hx hb hq pin_wsX110 tyX11 tyX11_ok nmX11 hown hE.1.1 hP hD hS 0 rfl rfl 1 (by decide) (hq _ pw_17) (fun _ h9 => h9) rfl (by decide +kernel) rfl rfl (Nat.le_of_ble_eq_true rfl) dX11_append_39 (fun H locs hP hD hS => ?_)
  have hP : va_P G.1 pCl [(h0, .inr (8, [.ref k1, .int 2, .ref k2, .ref k3, .ref k4, .ref k5, .ref k6, .null])), (k1, .inl (G.2.1 1, 5000, .inl f16))] H := hP
  have hD : va_D A [(h0, .inr (8, [.ref k1, .int 2, .ref k2, .ref k3, .ref k4, .ref k5, .ref k6, .null])), (k1, .inl (G.2.1 1, 5000, .inl f16))] := hD
  refine lv_iinc (v := 8) (lv' := [(2, .int 8), (0, .ref h0), (1, .int x)]) hx hb dX11_append_42 hl (k := 0) rfl (by decide) (by decide) rfl (fun ls hl => ?_)
  refine lv_goto (tgt := 3) hx hb dX11_append_45 (by decide) ?_
  refine lv_iload_n hx hb dX11_append_3 rfl (lv_at hl 0 rfl) ?_
  refine lv_if_lt (tgt := 48) hx hb dX11_append_4 (by decide) (fun c19 => absurd c19 (by decide)) (fun c19 => ?_)
  refine lv_aload_n hx hb dX11_append_7 rfl (lv_at hl 1 rfl) ?_
  refine va_get (D := G.1) (ci := 8) (v := .int 2) (C := RX11) (T := TX11) (N := 8) hx hb hq pin_wsX110 hown hE.1.1 hP 0 rfl rfl 1 (by decide) (hq _ pw_17) (fun _ h9 => h9) rfl dX11_append_8 ?_
  refine lv_aload_n hx hb dX11_append_11 rfl (lv_at hl 1 rfl) ?_
  refine va_get (D := G.1) (ci := 8) (v := .ref k1) (C := RX11) (T := TX11) (N := 8) hx hb hq pin_wsX110 hown hE.1.1 hP 0 rfl rfl 0 (by decide) (hq _ pw_1) (fun _ h9 => h9) rfl dX11_append_12 ?_
  refine va_alen (v := 5000) hx hb hE.1.1 hP 1 1 rfl rfl (show Int32.ofNat 5000 = 5000 from by decide) dX11_append_15 ?_
  refine lv_icmp_ge (tgt := 42) hx hb dX11_append_16 (by decide) (fun c20 => absurd c20 (by decide)) (fun c20 => ?_)
  refine lv_aload_n hx hb dX11_append_19 rfl (lv_at hl 1 rfl) ?_
  refine va_get (D := G.1) (ci := 8) (v := .ref k1) (C := RX11) (T := TX11) (N := 8) hx hb hq pin_wsX110 hown hE.1.1 hP 0 rfl rfl 0 (by decide) (hq _ pw_1) (fun _ h9 => h9) rfl dX11_append_20 ?_
  refine lv_aload_n hx hb dX11_append_23 rfl (lv_at hl 1 rfl) ?_
  refine va_get (D := G.1) (ci := 8) (v := .int 2) (C := RX11) (T := TX11) (N := 8) hx hb hq pin_wsX110 hown hE.1.1 hP 0 rfl rfl 1 (by decide) (hq _ pw_17) (fun _ h9 => h9) rfl dX11_append_24 ?_
  refine lv_iload_n hx hb dX11_append_27 rfl (lv_at hl 2 rfl) ?_
  refine lv_iload_n hx hb dX11_append_28 rfl (lv_at hl 0 rfl) ?_
  refine lv_iushr hx hb dX11_append_29 rfl ?_
  refine lv_topi (fun x21 e22 => ?_)
  refine lv_i2b hx hb dX11_append_30 rfl ?_
  refine lv_topi (fun x23 e24 => ?_)
  refine va_bast hx hb hE.1.1 hP hD hS 1 1 rfl rfl (by unfold vp_in; decide) dX11_append_31 (fun H locs hP hD hS => ?_)
  have hP : va_P G.1 pCl [(h0, .inr (8, [.ref k1, .int 2, .ref k2, .ref k3, .ref k4, .ref k5, .ref k6, .null])), (k1, .inl (G.2.1 1, 5000, .inl (upd f16 (Int32.toNatClampNeg 2) (vp_nar .byte x23))))] H := hP
  have hD : va_D A [(h0, .inr (8, [.ref k1, .int 2, .ref k2, .ref k3, .ref k4, .ref k5, .ref k6, .null])), (k1, .inl (G.2.1 1, 5000, .inl (upd f16 (Int32.toNatClampNeg 2) (vp_nar .byte x23))))] := hD
  generalize (upd f16 (Int32.toNatClampNeg 2) (vp_nar .byte x23)) = f25 at hP hD
  refine lv_aload_n hx hb dX11_append_32 rfl (lv_at hl 1 rfl) ?_
  refine lv_dup hx hb dX11_append_33 rfl ?_
  refine va_get (D := G.1) (ci := 8) (v := .int 2) (C := RX11) (T := TX11) (N := 8) hx hb hq pin_wsX110 hown hE.1.1 hP 0 rfl rfl 1 (by decide) (hq _ pw_17) (fun _ h9 => h9) rfl dX11_append_34 ?_
  refine lv_iconst (v := 1) hx hb dX11_append_37 (by decide) ?_
  refine lv_iadd hx hb dX11_append_38 ?_
  refine lv_topi (fun x26 e27 => ?_)
  obtain rfl : x26 = 3 := e27.trans (by decide)
  refine va_put (D := G.1) (ci := 8) (v := .int 3) (ty := .int) (C := RX11) (T := TX11) (N := 8) hx hb hq pin_wsX110 tyX11 tyX11_ok nmX11 hown hE.1.1 hP hD hS 0 rfl rfl 1 (by decide) (hq _ pw_17) (fun _ h9 => h9) rfl (by decide +kernel) rfl rfl (Nat.le_of_ble_eq_true rfl) dX11_append_39 (fun H locs hP hD hS => ?_)
  have hP : va_P G.1 pCl [(h0, .inr (8, [.ref k1, .int 3, .ref k2, .ref k3, .ref k4, .ref k5, .ref k6, .null])), (k1, .inl (G.2.1 1, 5000, .inl f25))] H := hP
  have hD : va_D A [(h0, .inr (8, [.ref k1, .int 3, .ref k2, .ref k3, .ref k4, .ref k5, .ref k6, .null])), (k1, .inl (G.2.1 1, 5000, .inl f25))] := hD
  refine lv_iinc (v := 0) (lv' := [(2, .int 0), (0, .ref h0), (1, .int x)]) hx hb dX11_append_42 hl (k := 0) rfl (by decide) (by decide) rfl (fun ls hl => ?_)
  refine lv_goto (tgt := 3) hx hb dX11_append_45 (by decide) ?_
  refine lv_iload_n hx hb dX11_append_3 rfl (lv_at hl 0 rfl) ?_
  refine lv_if_lt (tgt := 48) hx hb dX11_append_4 (by decide) (fun c28 => absurd c28 (by decide)) (fun c28 => ?_)
  refine lv_aload_n hx hb dX11_append_7 rfl (lv_at hl 1 rfl) ?_
  refine va_get (D := G.1) (ci := 8) (v := .int 3) (C := RX11) (T := TX11) (N := 8) hx hb hq pin_wsX110 hown hE.1.1 hP 0 rfl rfl 1 (by decide) (hq _ pw_17) (fun _ h9 => h9) rfl dX11_append_8 ?_
  refine lv_aload_n hx hb dX11_append_11 rfl (lv_at hl 1 rfl) ?_
  refine va_get (D := G.1) (ci := 8) (v := .ref k1) (C := RX11) (T := TX11) (N := 8) hx hb hq pin_wsX110 hown hE.1.1 hP 0 rfl rfl 0 (by decide) (hq _ pw_1) (fun _ h9 => h9) rfl dX11_append_12 ?_
  refine va_alen (v := 5000) hx hb hE.1.1 hP 1 1 rfl rfl (show Int32.ofNat 5000 = 5000 from by decide) dX11_append_15 ?_
  refine lv_icmp_ge (tgt := 42) hx hb dX11_append_16 (by decide) (fun c29 => absurd c29 (by decide)) (fun c29 => ?_)
  refine lv_aload_n hx hb dX11_append_19 rfl (lv_at hl 1 rfl) ?_
  refine va_get (D := G.1) (ci := 8) (v := .ref k1) (C := RX11) (T := TX11) (N := 8) hx hb hq pin_wsX110 hown hE.1.1 hP 0 rfl rfl 0 (by decide) (hq _ pw_1) (fun _ h9 => h9) rfl dX11_append_20 ?_
  refine lv_aload_n hx hb dX11_append_23 rfl (lv_at hl 1 rfl) ?_
  refine va_get (D := G.1) (ci := 8) (v := .int 3) (C := RX11) (T := TX11) (N := 8) hx hb hq pin_wsX110 hown hE.1.1 hP 0 rfl rfl 1 (by decide) (hq _ pw_17) (fun _ h9 => h9) rfl dX11_append_24 ?_
  refine lv_iload_n hx hb dX11_append_27 rfl (lv_at hl 2 rfl) ?_
  refine lv_iload_n hx hb dX11_append_28 rfl (lv_at hl 0 rfl) ?_
  refine lv_iushr hx hb dX11_append_29 rfl ?_
  refine lv_topi (fun x30 e31 => ?_)
  refine lv_i2b hx hb dX11_append_30 rfl ?_
  refine lv_topi (fun x32 e33 => ?_)
  refine va_bast hx hb hE.1.1 hP hD hS 1 1 rfl rfl (by unfold vp_in; decide) dX11_append_31 (fun H locs hP hD hS => ?_)
  have hP : va_P G.1 pCl [(h0, .inr (8, [.ref k1, .int 3, .ref k2, .ref k3, .ref k4, .ref k5, .ref k6, .null])), (k1, .inl (G.2.1 1, 5000, .inl (upd f25 (Int32.toNatClampNeg 3) (vp_nar .byte x32))))] H := hP
  have hD : va_D A [(h0, .inr (8, [.ref k1, .int 3, .ref k2, .ref k3, .ref k4, .ref k5, .ref k6, .null])), (k1, .inl (G.2.1 1, 5000, .inl (upd f25 (Int32.toNatClampNeg 3) (vp_nar .byte x32))))] := hD
  generalize (upd f25 (Int32.toNatClampNeg 3) (vp_nar .byte x32)) = f34 at hP hD
  refine lv_aload_n hx hb dX11_append_32 rfl (lv_at hl 1 rfl) ?_
  refine lv_dup hx hb dX11_append_33 rfl ?_
  refine va_get (D := G.1) (ci := 8) (v := .int 3) (C := RX11) (T := TX11) (N := 8) hx hb hq pin_wsX110 hown hE.1.1 hP 0 rfl rfl 1 (by decide) (hq _ pw_17) (fun _ h9 => h9) rfl dX11_append_34 ?_
  refine lv_iconst (v := 1) hx hb dX11_append_37 (by decide) ?_
  refine lv_iadd hx hb dX11_append_38 ?_
  refine lv_topi (fun x35 e36 => ?_)
  obtain rfl : x35 = 4 := e36.trans (by decide)
  refine va_put (D := G.1) (ci := 8) (v := .int 4) (ty := .int) (C := RX11) (T := TX11) (N := 8) hx hb hq pin_wsX110 tyX11 tyX11_ok nmX11 hown hE.1.1 hP hD hS 0 rfl rfl 1 (by decide) (hq _ pw_17) (fun _ h9 => h9) rfl (by decide +kernel) rfl rfl (Nat.le_of_ble_eq_true rfl) dX11_append_39 (fun H locs hP hD hS => ?_)
  have hP : va_P G.1 pCl [(h0, .inr (8, [.ref k1, .int 4, .ref k2, .ref k3, .ref k4, .ref k5, .ref k6, .null])), (k1, .inl (G.2.1 1, 5000, .inl f34))] H := hP
  have hD : va_D A [(h0, .inr (8, [.ref k1, .int 4, .ref k2, .ref k3, .ref k4, .ref k5, .ref k6, .null])), (k1, .inl (G.2.1 1, 5000, .inl f34))] := hD
  refine lv_iinc (v := (-8)) (lv' := [(2, .int (-8)), (0, .ref h0), (1, .int x)]) hx hb dX11_append_42 hl (k := 0) rfl (by decide) (by decide) rfl (fun ls hl => ?_)
  refine lv_goto (tgt := 3) hx hb dX11_append_45 (by decide) ?_
  refine lv_iload_n hx hb dX11_append_3 rfl (lv_at hl 0 rfl) ?_
  refine lv_if_lt (tgt := 48) hx hb dX11_append_4 (by decide) (fun c37 => ?_) (fun c37 => absurd (by decide) c37)
  refine W.widen (k := 0) (n := 0) (Nat.le_of_ble_eq_true rfl) (Nat.le_of_ble_eq_true rfl) ?_
  exact W.vret hx hb hr (fun t ht hW => ⟨⟨_, ((fun _ => 0), (fun k => match k with | _ => f34), (fun _ => fun _ => 0)), rfl, rfl, by rw [ht]; exact hP.sub [0, 1] rfl, hD.sub [0, 1] (by decide) rfl⟩, hS.F ht⟩) hS.2.2 dX11_append_48
set_option maxHeartbeats 1000000 in
set_option maxRecDepth 100000 in
/-- append, 4 bytes on the tape -/
theorem c_append_4 (l : Launch) (G : pT) (h0 : Nat) (k1 : Nat) (k2 : Nat) (k3 : Nat) (k4 : Nat) (k5 : Nat) (k6 : Nat) (f : Nat → Int32) (x : Int32) : PM l G pX0 yX11_append cX11_append 3 none ({ frames := 2, cells := 0, slots := 0, locals := 60 }) [.ref h0, .int x] [(h0, .inr (8, [.ref k1, .int 4, .ref k2, .ref k3, .ref k4, .ref k5, .ref k6, .null])), (k1, .inl (G.2.1 1, 5000, .inl f))] (fun (v : Option Value) (u : (Nat → Nat) × (Nat → Nat → Int32) × (Nat → Nat → Int64)) => v = none) (fun u => [(h0, .inr (8, [.ref k1, .int 8, .ref k2, .ref k3, .ref k4, .ref k5, .ref k6, .null])), (k1, .inl (G.2.1 1, 5000, .inl (u.2.1 0)))]) := by
  intro sz
  refine Met.ofW (cc := cX11_append) (maxL := 3) (ret := none) (by decide) rfl ?_
  intro p e s m args below meth c s₁ B hml hv
  obtain ⟨rfl, hsz, hP, hD0, hE, hX⟩ := hv
  have hx := B.exec
  have hb := B.bytes
  have hr := B.returns
  have hts := atoms_spec (ws := Cond.code yX11_append cX11_append 3 none :: pw) B.pre
  have hq : ∀ w ∈ pw, w.before _ s = true := fun w h => hts w (List.mem_cons_of_mem _ h)
  have hown : s.vm.findClass RX11 = some m.cls := findClass_of_methodNamed B.named
  have hlocks := B.notSynchronized
  subst hsz
  have hD := hD0.self (sz := s.heap.size)
  have hA : ∀ q : Nat, s.heap.size ≤ q → va_A [(h0, .inr (8, [.ref k1, .int 4, .ref k2, .ref k3, .ref k4, .ref k5, .ref k6, .null])), (k1, .inl (G.2.1 1, 5000, .inl f))] s.heap.size q := fun q h => Or.inr h
  have hP : va_P G.1 pCl [(h0, .inr (8, [.ref k1, .int 4, .ref k2, .ref k3, .ref k4, .ref k5, .ref k6, .null])), (k1, .inl (G.2.1 1, 5000, .inl f))] s.heap := hP
  generalize va_A [(h0, .inr (8, [.ref k1, .int 4, .ref k2, .ref k3, .ref k4, .ref k5, .ref k6, .null])), (k1, .inl (G.2.1 1, 5000, .inl f))] s.heap.size = A at hD hE hA ⊢
  have hS : va_S A s.heap s.heap [] := va_S.rf
  have hl := lv_entry ([.ref h0, .int x]) (n := 3) (Nat.le_of_ble_eq_true rfl)
  rw [lg_entry_eq]
  generalize (lg_sl ([.ref h0, .int x]) ++ List.replicate (3 - (lg_sl ([.ref h0, .int x])).length) Slot.unset).toArray = ls at hl ⊢
  have hl : lv_has ls 3 [(0, .ref h0), (1, .int x)] := hl
  refine lv_bipush (v := 24) hx hb dX11_append_0 (by decide) ?_
  refine lv_istore_n (lv' := [(2, .int 24), (0, .ref h0), (1, .int x)]) hx hb dX11_append_2 rfl hl (by decide) rfl (fun ls hl => ?_)
  refine lv_iload_n hx hb dX11_append_3 rfl (lv_at hl 0 rfl) ?_
  refine lv_if_lt (tgt := 48) hx hb dX11_append_4 (by decide) (fun c1 => absurd c1 (by decide)) (fun c1 => ?_)
  refine lv_aload_n hx hb dX11_append_7 rfl (lv_at hl 1 rfl) ?_
  refine va_get (D := G.1) (ci := 8) (v := .int 4) (C := RX11) (T := TX11) (N := 8) hx hb hq pin_wsX110 hown hE.1.1 hP 0 rfl rfl 1 (by decide) (hq _ pw_17) (fun _ h9 => h9) rfl dX11_append_8 ?_
  refine lv_aload_n hx hb dX11_append_11 rfl (lv_at hl 1 rfl) ?_
  refine va_get (D := G.1) (ci := 8) (v := .ref k1) (C := RX11) (T := TX11) (N := 8) hx hb hq pin_wsX110 hown hE.1.1 hP 0 rfl rfl 0 (by decide) (hq _ pw_1) (fun _ h9 => h9) rfl dX11_append_12 ?_
  refine va_alen (v := 5000) hx hb hE.1.1 hP 1 1 rfl rfl (show Int32.ofNat 5000 = 5000 from by decide) dX11_append_15 ?_
  refine lv_icmp_ge (tgt := 42) hx hb dX11_append_16 (by decide) (fun c2 => absurd c2 (by decide)) (fun c2 => ?_)
  refine lv_aload_n hx hb dX11_append_19 rfl (lv_at hl 1 rfl) ?_
  refine va_get (D := G.1) (ci := 8) (v := .ref k1) (C := RX11) (T := TX11) (N := 8) hx hb hq pin_wsX110 hown hE.1.1 hP 0 rfl rfl 0 (by decide) (hq _ pw_1) (fun _ h9 => h9) rfl dX11_append_20 ?_
  refine lv_aload_n hx hb dX11_append_23 rfl (lv_at hl 1 rfl) ?_
  refine va_get (D := G.1) (ci := 8) (v := .int 4) (C := RX11) (T := TX11) (N := 8) hx hb hq pin_wsX110 hown hE.1.1 hP 0 rfl rfl 1 (by decide) (hq _ pw_17) (fun _ h9 => h9) rfl dX11_append_24 ?_
  refine lv_iload_n hx hb dX11_append_27 rfl (lv_at hl 2 rfl) ?_
  refine lv_iload_n hx hb dX11_append_28 rfl (lv_at hl 0 rfl) ?_
  refine lv_iushr hx hb dX11_append_29 rfl ?_
  refine lv_topi (fun x3 e4 => ?_)
  refine lv_i2b hx hb dX11_append_30 rfl ?_
  refine lv_topi (fun x5 e6 => ?_)
  refine va_bast hx hb hE.1.1 hP hD hS 1 1 rfl rfl (by unfold vp_in; decide) dX11_append_31 (fun H locs hP hD hS => ?_)
  have hP : va_P G.1 pCl [(h0, .inr (8, [.ref k1, .int 4, .ref k2, .ref k3, .ref k4, .ref k5, .ref k6, .null])), (k1, .inl (G.2.1 1, 5000, .inl (upd f (Int32.toNatClampNeg 4) (vp_nar .byte x5))))] H := hP
  have hD : va_D A [(h0, .inr (8, [.ref k1, .int 4, .ref k2, .ref k3, .ref k4, .ref k5, .ref k6, .null])), (k1, .inl (G.2.1 1, 5000, .inl (upd f (Int32.toNatClampNeg 4) (vp_nar .byte x5))))] := hD
  generalize (upd f (Int32.toNatClampNeg 4) (vp_nar .byte x5)) = f7 at hP hD
  refine lv_aload_n hx hb dX11_append_32 rfl (lv_at hl 1 rfl) ?_
  refine lv_dup hx hb dX11_append_33 rfl ?_
  refine va_get (D := G.1) (ci := 8) (v := .int 4) (C := RX11) (T := TX11) (N := 8) hx hb hq pin_wsX110 hown hE.1.1 hP 0 rfl rfl 1 (by decide) (hq _ pw_17) (fun _ h9 => h9) rfl dX11_append_34 ?_
  refine lv_iconst (v := 1) hx hb dX11_append_37 (by decide) ?_
  refine lv_iadd hx hb dX11_append_38 ?_
  refine lv_topi (fun x8 e9 => ?_)
  obtain rfl : x8 = 5 := e9.trans (by decide)
  refine va_put (D := G.1) (ci := 8) (v := .int 5) (ty := .int) (C := RX11) (T := TX11) (N := 8) hx hb hq pin_wsX110 tyX11 tyX11_ok nmX11 hown hE.1.1 hP hD hS 0 rfl rfl 1 (by decide) (hq _ pw_17) (fun _ h9 => h9) rfl (by decide +kernel) rfl rfl (Nat.le_of_ble_eq_true rfl) dX11_append_39 (fun H locs hP hD hS => ?_)
  have hP : va_P G.1 pCl [(h0, .inr (8, [.ref k1, .int 5, .ref k2, .ref k3, .ref k4, .ref k5, .ref k6, .null])), (k1, .inl (G.2.1 1, 5000, .inl f7))] H := hP
  have hD : va_D A [(h0, .inr (8, [.ref k1, .int 5, .ref k2, .ref k3, .ref k4, .ref k5, .ref k6, .null])), (k1, .inl (G.2.1 1, 5000, .inl f7))] := hD
  refine lv_iinc (v := 16) (lv' := [(2, .int 16), (0, .ref h0), (1, .int x)]) hx hb dX11_append_42 hl (k := 0) rfl (by decide) (by decide) rfl (fun ls hl => ?_)
  refine lv_goto (tgt := 3) hx hb dX11_append_45 (by decide) ?_
  refine lv_iload_n hx hb dX11_append_3 rfl (lv_at hl 0 rfl) ?_
  refine lv_if_lt (tgt := 48) hx hb dX11_append_4 (by decide) (fun c10 => absurd c10 (by decide)) (fun c10 => ?_)
  refine lv_aload_n hx hb dX11_append_7 rfl (lv_at hl 1 rfl) ?_
  refine va_get (D := G.1) (ci := 8) (v := .int 5) (C := RX11) (T := TX11) (N := 8) hx hb hq pin_wsX110 hown hE.1.1 hP 0 rfl rfl 1 (by decide) (hq _ pw_17) (fun _ h9 => h9) rfl dX11_append_8 ?_
  refine lv_aload_n hx hb dX11_append_11 rfl (lv_at hl 1 rfl) ?_
  refine va_get (D := G.1) (ci := 8) (v := .ref k1) (C := RX11) (T := TX11) (N := 8) hx hb hq pin_wsX110 hown hE.1.1 hP 0 rfl rfl 0 (by decide) (hq _ pw_1) (fun _ h9 => h9) rfl dX11_append_12 ?_
  refine va_alen (v := 5000) hx hb hE.1.1 hP 1 1 rfl rfl (show Int32.ofNat 5000 = 5000 from by decide) dX11_append_15 ?_
  refine lv_icmp_ge (tgt := 42) hx hb dX11_append_16 (by decide) (fun c11 => absurd c11 (by decide)) (fun c11 => ?_)
  refine lv_aload_n hx hb dX11_append_19 rfl (lv_at hl 1 rfl) ?_
  refine va_get (D := G.1) (ci := 8) (v := .ref k1) (C := RX11) (T := TX11) (N := 8) hx hb hq pin_wsX110 hown hE.1.1 hP 0 rfl rfl 0 (by decide) (hq _ pw_1) (fun _ h9 => h9) rfl dX11_append_20 ?_
  refine lv_aload_n hx hb dX11_append_23 rfl (lv_at hl 1 rfl) ?_
  refine va_get (D := G.1) (ci := 8) (v := .int 5) (C := RX11) (T := TX11) (N := 8) hx hb hq pin_wsX110 hown hE.1.1 hP 0 rfl rfl 1 (by decide) (hq _ pw_17) (fun _ h9 => h9) rfl dX11_append_24 ?_
  refine lv_iload_n hx hb dX11_append_27 rfl (lv_at hl 2 rfl) ?_
  refine lv_iload_n hx hb dX11_append_28 rfl (lv_at hl 0 rfl) ?_
  refine lv_iushr hx hb dX11_append_29 rfl ?_
  refine lv_topi (fun x12 e13 => ?_)
  refine lv_i2b hx hb dX11_append_30 rfl ?_
  refine lv_topi (fun x14 e15 => ?_)
  refine va_bast hx hb hE.1.1 hP hD hS 1 1 rfl rfl (by unfold vp_in; decide) dX11_append_31 (fun H locs hP hD hS => ?_)
  have hP : va_P G.1 pCl [(h0, .inr (8, [.ref k1, .int 5, .ref k2, .ref k3, .ref k4, .ref k5, .ref k6, .null])), (k1, .inl (G.2.1 1, 5000, .inl (upd f7 (Int32.toNatClampNeg 5) (vp_nar .byte x14))))] H := hP
  have hD : va_D A [(h0, .inr (8, [.ref k1, .int 5, .ref k2, .ref k3, .ref k4, .ref k5, .ref k6, .null])), (k1, .inl (G.2.1 1, 5000, .inl (upd f7 (Int32.toNatClampNeg 5) (vp_nar .byte x14))))] := hD
  generalize (upd f7 (Int32.toNatClampNeg 5) (vp_nar .byte x14)) = f16 at hP hD
  refine lv_aload_n hx hb dX11_append_32 rfl (lv_at hl 1 rfl) ?_
  refine lv_dup hx hb dX11_append_33 rfl ?_
  refine va_get (D := G.1) (ci := 8) (v := .int 5) (C := RX11) (T := TX11) (N := 8) hx hb hq pin_wsX110 hown hE.1.1 hP 0 rfl rfl 1 (by decide) (hq _ pw_17) (fun _ h9 => h9) rfl dX11_append_34 ?_
  refine lv_iconst (v := 1) hx hb dX11_append_37 (by decide) ?_
  refine lv_iadd hx hb dX11_append_38 ?_
  refine lv_topi (fun x17 e18 => ?_)
  obtain rfl : x17 = 6 := e18.trans (by decide)
  refine va_put (D := G.1) (ci := 8) (v := .int 6) (ty := .int) (C := RX11) (T := TX11) (N := 8) hx hb hq pin_wsX110 tyX11 tyX11_ok nmX11 hown hE.1.1 hP hD hS 0 rfl rfl 1 (by decide) (hq _ pw_17) (fun _ h9 => h9) rfl (by decide +kernel) rfl rfl (Nat.le_of_ble_eq_true rfl) dX11_append_39 (fun H locs hP hD hS => ?_)
  have hP : va_P G.1 pCl [(h0, .inr (8, [.ref k1, .int 6, .ref k2, .ref k3, .ref k4, .ref k5, .ref k6, .null])), (k1, .inl (G.2.1 1, 5000, .inl f16))] H := hP
  have hD : va_D A [(h0, .inr (8, [.ref k1, .int 6, .ref k2, .ref k3, .ref k4, .ref k5, .ref k6, .null])), (k1, .inl (G.2.1 1, 5000, .inl f16))] := hD
  refine lv_iinc (v := 8) (lv' := [(2, .int 8), (0, .ref h0), (1, .int x)]) hx hb dX11_append_42 hl (k := 0) rfl (by decide) (by decide) rfl (fun ls hl => ?_)
  refine lv_goto (tgt := 3) hx hb dX11_append_45 (by decide) ?_
  refine lv_iload_n hx hb dX11_append_3 rfl (lv_at hl 0 rfl) ?_
  refine lv_if_lt (tgt := 48) hx hb dX11_append_4 (by decide) (fun c19 => absurd c19 (by decide)) (fun c19 => ?_)
  refine lv_aload_n hx hb dX11_append_7 rfl (lv_at hl 1 rfl) ?_
  refine va_get (D := G.1) (ci := 8) (v := .int 6) (C := RX11) (T := TX11) (N := 8) hx hb hq pin_wsX110 hown hE.1.1 hP 0 rfl rfl 1 (by decide) (hq _ pw_17) (fun _ h9 => h9) rfl dX11_append_8 ?_
  refine lv_aload_n hx hb dX11_append_11 rfl (lv_at hl 1 rfl) ?_
  refine va_get (D := G.1) (ci := 8) (v := .ref k1) (C := RX11) (T := TX11) (N := 8) hx hb hq pin_wsX110 hown hE.1.1 hP 0 rfl rfl 0 (by decide) (hq _ pw_1) (fun _ h9 => h9) rfl dX11_append_12 ?_
  refine va_alen (v := 5000) hx hb hE.1.1 hP 1 1 rfl rfl (show Int32.ofNat 5000 = 5000 from by decide) dX11_append_15 ?_
  refine lv_icmp_ge (tgt := 42) hx hb dX11_append_16 (by decide) (fun c20 => absurd c20 (by decide)) (fun c20 => ?_)
  refine lv_aload_n hx hb dX11_append_19 rfl (lv_at hl 1 rfl) ?_
  refine va_get (D := G.1) (ci := 8) (v := .ref k1) (C := RX11) (T := TX11) (N := 8) hx hb hq pin_wsX110 hown hE.1.1 hP 0 rfl rfl 0 (by decide) (hq _ pw_1) (fun _ h9 => h9) rfl dX11_append_20 ?_
  refine lv_aload_n hx hb dX11_append_23 rfl (lv_at hl 1 rfl) ?_
  refine va_get (D := G.1) (ci := 8) (v := .int 6) (C := RX11) (T := TX11) (N := 8) hx hb hq pin_wsX110 hown hE.1.1 hP 0 rfl rfl 1 (by decide) (hq _ pw_17) (fun _ h9 => h9) rfl dX11_append_24 ?_
  refine lv_iload_n hx hb dX11_append_27 rfl (lv_at hl 2 rfl) ?_
  refine lv_iload_n hx hb dX11_append_28 rfl (lv_at hl 0 rfl) ?_
  refine lv_iushr hx hb dX11_append_29 rfl ?_
  refine lv_topi (fun x21 e22 => ?_)
  refine lv_i2b hx hb dX11_append_30 rfl ?_
  refine lv_topi (fun x23 e24 => ?_)
  refine va_bast hx hb hE.1.1 hP hD hS 1 1 rfl rfl (by unfold vp_in; decide) dX11_append_31 (fun H locs hP hD hS => ?_)
  have hP : va_P G.1 pCl [(h0, .inr (8, [.ref k1, .int 6, .ref k2, .ref k3, .ref k4, .ref k5, .ref k6, .null])), (k1, .inl (G.2.1 1, 5000, .inl (upd f16 (Int32.toNatClampNeg 6) (vp_nar .byte x23))))] H := hP
  have hD : va_D A [(h0, .inr (8, [.ref k1, .int 6, .ref k2, .ref k3, .ref k4, .ref k5, .ref k6, .null])), (k1, .inl (G.2.1 1, 5000, .inl (upd f16 (Int32.toNatClampNeg 6) (vp_nar .byte x23))))] := hD
  generalize (upd f16 (Int32.toNatClampNeg 6) (vp_nar .byte x23)) = f25 at hP hD
  refine lv_aload_n hx hb dX11_append_32 rfl (lv_at hl 1 rfl) ?_
  refine lv_dup hx hb dX11_append_33 rfl ?_
  refine va_get (D := G.1) (ci := 8) (v := .int 6) (C := RX11) (T := TX11) (N := 8) hx hb hq pin_wsX110 hown hE.1.1 hP 0 rfl rfl 1 (by decide) (hq _ pw_17) (fun _ h9 => h9) rfl dX11_append_34 ?_
  refine lv_iconst (v := 1) hx hb dX11_append_37 (by decide) ?_
  refine lv_iadd hx hb dX11_append_38 ?_
  refine lv_topi (fun x26 e27 => ?_)
  obtain rfl : x26 = 7 := e27.trans (by decide)
  refine va_put (D := G.1) (ci := 8) (v := .int 7) (ty := .int) (C := RX11) (T := TX11) (N := 8) hx hb hq pin_wsX110 tyX11 tyX11_ok nmX11 hown hE.1.1 hP hD hS 0 rfl rfl 1 (by decide) (hq _ pw_17) (fun _ h9 => h9) rfl (by decide +kernel) rfl rfl (Nat.le_of_ble_eq_true rfl) dX11_append_39 (fun H locs hP hD hS => ?_)
  have hP : va_P G.1 pCl [(h0, .inr (8, [.ref k1, .int 7, .ref k2, .ref k3, .ref k4, .ref k5, .ref k6, .null])), (k1, .inl (G.2.1 1, 5000, .inl f25))] H := hP
  have hD : va_D A [(h0, .inr (8, [.ref k1, .int 7, .ref k2, .ref k3, .ref k4, .ref k5, .ref k6, .null])), (k1, .inl (G.2.1 1, 5000, .inl f25))] := hD
  refine lv_iinc (v := 0) (lv' := [(2, .int 0), (0, .ref h0), (1, .int x)]) hx hb dX11_append_42 hl (k := 0) rfl (by decide) (by decide) rfl (fun ls hl => ?_)
  refine lv_goto (tgt := 3) hx hb dX11_append_45 (by decide) ?_
  refine lv_iload_n hx hb dX11_append_3 rfl (lv_at hl 0 rfl) ?_
  refine lv_if_lt (tgt := 48) hx hb dX11_append_4 (by decide) (fun c28 => absurd c28 (by decide)) (fun c28 => ?_)
  refine lv_aload_n hx hb dX11_append_7 rfl (lv_at hl 1 rfl) ?_
  refine va_get (D := G.1) (ci := 8) (v := .int 7) (C := RX11) (T := TX11) (N := 8) hx hb hq pin_wsX110 hown hE.1.1 hP 0 rfl rfl 1 (by decide) (hq _ pw_17) (fun _ h9 => h9) rfl dX11_append_8 ?_
  refine lv_aload_n hx hb dX11_append_11 rfl (lv_at hl 1 rfl) ?_
  refine va_get (D := G.1) (ci := 8) (v := .ref k1) (C := RX11) (T := TX11) (N := 8) hx hb hq pin_wsX110 hown hE.1.1 hP 0 rfl rfl 0 (by decide) (hq _ pw_1) (fun _ h9 => h9) rfl dX11_append_12 ?_
  refine va_alen (v := 5000) hx hb hE.1.1 hP 1 1 rfl rfl (show Int32.ofNat 5000 = 5000 from by decide) dX11_append_15 ?_
  refine lv_icmp_ge (tgt := 42) hx hb dX11_append_16 (by decide) (fun c29 => absurd c29 (by decide)) (fun c29 => ?_)
  refine lv_aload_n hx hb dX11_append_19 rfl (lv_at hl 1 rfl) ?_
  refine va_get (D := G.1) (ci := 8) (v := .ref k1) (C := RX11) (T := TX11) (N := 8) hx hb hq pin_wsX110 hown hE.1.1 hP 0 rfl rfl 0 (by decide) (hq _ pw_1) (fun _ h9 => h9) rfl dX11_append_20 ?_
  refine lv_aload_n hx hb dX11_append_23 rfl (lv_at hl 1 rfl) ?_
  refine va_get (D := G.1) (ci := 8) (v := .int 7) (C := RX11) (T := TX11) (N := 8) hx hb hq pin_wsX110 hown hE.1.1 hP 0 rfl rfl 1 (by decide) (hq _ pw_17) (fun _ h9 => h9) rfl dX11_append_24 ?_
  refine lv_iload_n hx hb dX11_append_27 rfl (lv_at hl 2 rfl) ?_
  refine lv_iload_n hx hb dX11_append_28 rfl (lv_at hl 0 rfl) ?_
  refine lv_iushr hx hb dX11_append_29 rfl ?_
  refine lv_topi (fun x30 e31 => ?_)
  refine lv_i2b hx hb dX11_append_30 rfl ?_
  refine lv_topi (fun x32 e33 => ?_)
  refine va_bast hx hb hE.1.1 hP hD hS 1 1 rfl rfl (by unfold vp_in; decide) dX11_append_31 (fun H locs hP hD hS => ?_)
  have hP : va_P G.1 pCl [(h0, .inr (8, [.ref k1, .int 7, .ref k2, .ref k3, .ref k4, .ref k5, .ref k6, .null])), (k1, .inl (G.2.1 1, 5000, .inl (upd f25 (Int32.toNatClampNeg 7) (vp_nar .byte x32))))] H := hP
  have hD : va_D A [(h0, .inr (8, [.ref k1, .int 7, .ref k2, .ref k3, .ref k4, .ref k5, .ref k6, .null])), (k1, .inl (G.2.1 1, 5000, .inl (upd f25 (Int32.toNatClampNeg 7) (vp_nar .byte x32))))] := hD
  generalize (upd f25 (Int32.toNatClampNeg 7) (vp_nar .byte x32)) = f34 at hP hD
  refine lv_aload_n hx hb dX11_append_32 rfl (lv_at hl 1 rfl) ?_
  refine lv_dup hx hb dX11_append_33 rfl ?_
  refine va_get (D := G.1) (ci := 8) (v := .int 7) (C := RX11) (T := TX11) (N := 8) hx hb hq pin_wsX110 hown hE.1.1 hP 0 rfl rfl 1 (by decide) (hq _ pw_17) (fun _ h9 => h9) rfl dX11_append_34 ?_
  refine lv_iconst (v := 1) hx hb dX11_append_37 (by decide) ?_
  refine lv_iadd hx hb dX11_append_38 ?_
  refine lv_topi (fun x35 e36 => ?_)
  obtain rfl : x35 = 8 := e36.trans (by decide)
  refine va_put (D := G.1) (ci := 8) (v := .int 8) (ty := .int) (C := RX11) (T := TX11) (N := 8) hx hb hq pin_wsX110 tyX11 tyX11_ok nmX11 hown hE.1.1 hP hD hS 0 rfl rfl 1 (by decide) (hq _ pw_17) (fun _ h9 => h9) rfl (by decide +kernel) rfl rfl (Nat.le_of_ble_eq_true rfl) dX11_append_39 (fun H locs hP hD hS => ?_)
  have hP : va_P G.1 pCl [(h0, .inr (8, [.ref k1, .int 8, .ref k2, .ref k3, .ref k4, .ref k5, .ref k6, .null])), (k1, .inl (G.2.1 1, 5000, .inl f34))] H := hP
  have hD : va_D A [(h0, .inr (8, [.ref k1, .int 8, .ref k2, .ref k3, .ref k4, .ref k5, .ref k6, .null])), (k1, .inl (G.2.1 1, 5000, .inl f34))] := hD
  refine lv_iinc (v := (-8)) (lv' := [(2, .int (-8)), (0, .ref h0), (1, .int x)]) hx hb dX11_append_42 hl (k := 0) rfl (by decide) (by decide) rfl (fun ls hl => ?_)
  refine lv_goto (tgt := 3) hx hb dX11_append_45 (by decide) ?_
  refine lv_iload_n hx hb dX11_append_3 rfl (lv_at hl 0 rfl) ?_
  refine lv_if_lt (tgt := 48) hx hb dX11_append_4 (by decide) (fun c37 => ?_) (fun c37 => absurd (by decide) c37)
  refine W.widen (k := 0) (n := 0) (Nat.le_of_ble_eq_true rfl) (Nat.le_of_ble_eq_true rfl) ?_
  exact W.vret hx hb hr (fun t ht hW => ⟨⟨_, ((fun _ => 0), (fun k => match k with | _ => f34), (fun _ => fun _ => 0)), rfl, rfl, by rw [ht]; exact hP.sub [0, 1] rfl, hD.sub [0, 1] (by decide) rfl⟩, hS.F ht⟩) hS.2.2 dX11_append_48
set_option maxHeartbeats 1000000 in
set_option maxRecDepth 100000 in
/-- append, 8 bytes on the tape -/
theorem c_append_8 (l : Launch) (G : pT) (h0 : Nat) (k1 : Nat) (k2 : Nat) (k3 : Nat) (k4 : Nat) (k5 : Nat) (k6 : Nat) (f : Nat → Int32) (x : Int32) : PM l G pX0 yX11_append cX11_append 3 none ({ frames := 2, cells := 0, slots := 0, locals := 60 }) [.ref h0, .int x] [(h0, .inr (8, [.ref k1, .int 8, .ref k2, .ref k3, .ref k4, .ref k5, .ref k6, .null])), (k1, .inl (G.2.1 1, 5000, .inl f))] (fun (v : Option Value) (u : (Nat → Nat) × (Nat → Nat → Int32) × (Nat → Nat → Int64)) => v = none) (fun u => [(h0, .inr (8, [.ref k1, .int 12, .ref k2, .ref k3, .ref k4, .ref k5, .ref k6, .null])), (k1, .inl (G.2.1 1, 5000, .inl (u.2.1 0)))]) := by
  intro sz
  refine Met.ofW (cc := cX11_append) (maxL := 3) (ret := none) (by decide) rfl ?_
  intro p e s m args below meth c s₁ B hml hv
  obtain ⟨rfl, hsz, hP, hD0, hE, hX⟩ := hv
  have hx := B.exec
  have hb := B.bytes
  have hr := B.returns
  have hts := atoms_spec (ws := Cond.code yX11_append cX11_append 3 none :: pw) B.pre
  have hq : ∀ w ∈ pw, w.before _ s = true := fun w h => hts w (List.mem_cons_of_mem _ h)
  have hown : s.vm.findClass RX11 = some m.cls := findClass_of_methodNamed B.named
  have hlocks := B.notSynchronized
  subst hsz
  have hD := hD0.self (sz := s.heap.size)
  have hA : ∀ q : Nat, s.heap.size ≤ q → va_A [(h0, .inr (8, [.ref k1, .int 8, .ref k2, .ref k3, .ref k4, .ref k5, .ref k6, .null])), (k1, .inl (G.2.1 1, 5000, .inl f))] s.heap.size q := fun q h => Or.inr h
  have hP : va_P G.1 pCl [(h0, .inr (8, [.ref k1, .int 8, .ref k2, .ref k3, .ref k4, .ref k5, .ref k6, .null])), (k1, .inl (G.2.1 1, 5000, .inl f))] s.heap := hP
  generalize va_A [(h0, .inr (8, [.ref k1, .int 8, .ref k2, .ref k3, .ref k4, .ref k5, .ref k6, .null])), (k1, .inl (G.2.1 1, 5000, .inl f))] s.heap.size = A at hD hE hA ⊢
  have hS : va_S A s.heap s.heap [] := va_S.rf
  have hl := lv_entry ([.ref h0, .int x]) (n := 3) (Nat.le_of_ble_eq_true rfl)
  rw [lg_entry_eq]
  generalize (lg_sl ([.ref h0, .int x]) ++ List.replicate (3 - (lg_sl ([.ref h0, .int x])).length) Slot.unset).toArray = ls at hl ⊢
  have hl : lv_has ls 3 [(0, .ref h0), (1, .int x)] := hl
  refine lv_bipush (v := 24) hx hb dX11_append_0 (by decide) ?_
  refine lv_istore_n (lv' := [(2, .int 24), (0, .ref h0), (1, .int x)]) hx hb dX11_append_2 rfl hl (by decide) rfl (fun ls hl => ?_)
  refine lv_iload_n hx hb dX11_append_3 rfl (lv_at hl 0 rfl) ?_
  refine lv_if_lt (tgt := 48) hx hb dX11_append_4 (by decide) (fun c1 => absurd c1 (by decide)) (fun c1 => ?_)
  refine lv_aload_n hx hb dX11_append_7 rfl (lv_at hl 1 rfl) ?_
  refine va_get (D := G.1) (ci := 8) (v := .int 8) (C := RX11) (T := TX11) (N := 8) hx hb hq pin_wsX110 hown hE.1.1 hP 0 rfl rfl 1 (by decide) (hq _ pw_17) (fun _ h9 => h9) rfl dX11_append_8 ?_
  refine lv_aload_n hx hb dX11_append_11 rfl (lv_at hl 1 rfl) ?_
  refine va_get (D := G.1) (ci := 8) (v := .ref k1) (C := RX11) (T := TX11) (N := 8) hx hb hq pin_wsX110 hown hE.1.1 hP 0 rfl rfl 0 (by decide) (hq _ pw_1) (fun _ h9 => h9) rfl dX11_append_12 ?_
  refine va_alen (v := 5000) hx hb hE.1.1 hP 1 1 rfl rfl (show Int32.ofNat 5000 = 5000 from by decide) dX11_append_15 ?_
  refine lv_icmp_ge (tgt := 42) hx hb dX11_append_16 (by decide) (fun c2 => absurd c2 (by decide)) (fun c2 => ?_)
  refine lv_aload_n hx hb dX11_append_19 rfl (lv_at hl 1 rfl) ?_
  refine va_get (D := G.1) (ci := 8) (v := .ref k1) (C := RX11) (T := TX11) (N := 8) hx hb hq pin_wsX110 hown hE.1.1 hP 0 rfl rfl 0 (by decide) (hq _ pw_1) (fun _ h9 => h9) rfl dX11_append_20 ?_
  refine lv_aload_n hx hb dX11_append_23 rfl (lv_at hl 1 rfl) ?_
  refine va_get (D := G.1) (ci := 8) (v := .int 8) (C := RX11) (T := TX11) (N := 8) hx hb hq pin_wsX110 hown hE.1.1 hP 0 rfl rfl 1 (by decide) (hq _ pw_17) (fun _ h9 => h9) rfl dX11_append_24 ?_
  refine lv_iload_n hx hb dX11_append_27 rfl (lv_at hl 2 rfl) ?_
  refine lv_iload_n hx hb dX11_append_28 rfl (lv_at hl 0 rfl) ?_
  refine lv_iushr hx hb dX11_append_29 rfl ?_
  refine lv_topi (fun x3 e4 => ?_)
  refine lv_i2b hx hb dX11_append_30 rfl ?_
  refine lv_topi (fun x5 e6 => ?_)
  refine va_bast hx hb hE.1.1 hP hD hS 1 1 rfl rfl (by unfold vp_in; decide) dX11_append_31 (fun H locs hP hD hS => ?_)
  have hP : va_P G.1 pCl [(h0, .inr (8, [.ref k1, .int 8, .ref k2, .ref k3, .ref k4, .ref k5, .ref k6, .null])), (k1, .inl (G.2.1 1, 5000, .inl (upd f (Int32.toNatClampNeg 8) (vp_nar .byte x5))))] H := hP
  have hD : va_D A [(h0, .inr (8, [.ref k1, .int 8, .ref k2, .ref k3, .ref k4, .ref k5, .ref k6, .null])), (k1, .inl (G.2.1 1, 5000, .inl (upd f (Int32.toNatClampNeg 8) (vp_nar .byte x5))))] := hD
  generalize (upd f (Int32.toNatClampNeg 8) (vp_nar .byte x5)) = f7 at hP hD
  refine lv_aload_n hx hb dX11_append_32 rfl (lv_at hl 1 rfl) ?_
  refine lv_dup hx hb dX11_append_33 rfl ?_
  refine va_get (D := G.1) (ci := 8) (v := .int 8) (C := RX11) (T := TX11) (N := 8) hx hb hq pin_wsX110 hown hE.1.1 hP 0 rfl rfl 1 (by decide) (hq _ pw_17) (fun _ h9 => h9) rfl dX11_append_34 ?_
  refine lv_iconst (v := 1) hx hb dX11_append_37 (by decide) ?_
  refine lv_iadd hx hb dX11_append_38 ?_
  refine lv_topi (fun x8 e9 => ?_)
  obtain rfl : x8 = 9 := e9.trans (by decide)
  refine va_put (D := G.1) (ci := 8) (v := .int 9) (ty := .int) (C := RX11) (T := TX11) (N := 8) hx hb hq pin_wsX110 tyX11 tyX11_ok nmX11 hown hE.1.1 hP hD hS 0 rfl rfl 1 (by decide) (hq _ pw_17) (fun _ h9 => h9) rfl (by decide +kernel) rfl rfl (Nat.le_of_ble_eq_true rfl) dX11_append_39 (fun H locs hP hD hS => ?_)
  have hP : va_P G.1 pCl [(h0, .inr (8, [.ref k1, .int 9, .ref k2, .ref k3, .ref k4, .ref k5, .ref k6, .null])), (k1, .inl (G.2.1 1, 5000, .inl f7))] H := hP
  have hD : va_D A [(h0, .inr (8, [.ref k1, .int 9, .ref k2, .ref k3, .ref k4, .ref k5, .ref k6, .null])), (k1, .inl (G.2.1 1, 5000, .inl f7))] := hD
  refine lv_iinc (v := 16) (lv' := [(2, .int 16), (0, .ref h0), (1, .int x)]) hx hb dX11_append_42 hl (k := 0) rfl (by decide) (by decide) rfl (fun ls hl => ?_)
  refine lv_goto (tgt := 3) hx hb dX11_append_45 (by decide) ?_
  refine lv_iload_n hx hb dX11_append_3 rfl (lv_at hl 0 rfl) ?_
  refine lv_if_lt (tgt := 48) hx hb dX11_append_4 (by decide) (fun c10 => absurd c10 (by decide)) (fun c10 => ?_)
  refine lv_aload_n hx hb dX11_append_7 rfl (lv_at hl 1 rfl) ?_
  refine va_get (D := G.1) (ci := 8) (v := .int 9) (C := RX11) (T := TX11) (N := 8) hx hb hq pin_wsX110 hown hE.1.1 hP 0 rfl rfl 1 (by decide) (hq _ pw_17) (fun _ h9 => h9) rfl dX11_append_8 ?_
  refine lv_aload_n hx hb dX11_append_11 rfl (lv_at hl 1 rfl) ?_
  refine va_get (D := G.1) (ci := 8) (v := .ref k1) (C := RX11) (T := TX11) (N := 8) hx hb hq pin_wsX110 hown hE.1.1 hP 0 rfl rfl 0 (by decide) (hq _ pw_1) (fun _ h9 => h9) rfl dX11_append_12 ?_
  refine va_alen (v := 5000) hx hb hE.1.1 hP 1 1 rfl rfl (show Int32.ofNat 5000 = 5000 from by decide) dX11_append_15 ?_
  refine lv_icmp_ge (tgt := 42) hx hb dX11_append_16 (by decide) (fun c11 => absurd c11 (by decide)) (fun c11 => ?_)
  refine lv_aload_n hx hb dX11_append_19 rfl (lv_at hl 1 rfl) ?_
  refine va_get (D := G.1) (ci := 8) (v := .ref k1) (C := RX11) (T := TX11) (N := 8) hx hb hq pin_wsX110 hown hE.1.1 hP 0 rfl rfl 0 (by decide) (hq _ pw_1) (fun _ h9 => h9) rfl dX11_append_20 ?_
  refine lv_aload_n hx hb dX11_append_23 rfl (lv_at hl 1 rfl) ?_
  refine va_get (D := G.1) (ci := 8) (v := .int 9) (C := RX11) (T := TX11) (N := 8) hx hb hq pin_wsX110 hown hE.1.1 hP 0 rfl rfl 1 (by decide) (hq _ pw_17) (fun _ h9 => h9) rfl dX11_append_24 ?_
  refine lv_iload_n hx hb dX11_append_27 rfl (lv_at hl 2 rfl) ?_
  refine lv_iload_n hx hb dX11_append_28 rfl (lv_at hl 0 rfl) ?_
  refine lv_iushr hx hb dX11_append_29 rfl ?_
  refine lv_topi (fun x12 e13 => ?_)
  refine lv_i2b hx hb dX11_append_30 rfl ?_
  refine lv_topi (fun x14 e15 => ?_)
  refine va_bast hx hb hE.1.1 hP hD hS 1 1 rfl rfl (by unfold vp_in; decide) dX11_append_31 (fun H locs hP hD hS => ?_)
  have hP : va_P G.1 pCl [(h0, .inr (8, [.ref k1, .int 9, .ref k2, .ref k3, .ref k4, .ref k5, .ref k6, .null])), (k1, .inl (G.2.1 1, 5000, .inl (upd f7 (Int32.toNatClampNeg 9) (vp_nar .byte x14))))] H := hP
  have hD : va_D A [(h0, .inr (8, [.ref k1, .int 9, .ref k2, .ref k3, .ref k4, .ref k5, .ref k6, .null])), (k1, .inl (G.2.1 1, 5000, .inl (upd f7 (Int32.toNatClampNeg 9) (vp_nar .byte x14))))] := hD
  generalize (upd f7 (Int32.toNatClampNeg 9) (vp_nar .byte x14)) = f16 at hP hD
  refine lv_aload_n hx hb dX11_append_32 rfl (lv_at hl 1 rfl) ?_
  refine lv_dup hx hb dX11_append_33 rfl ?_
  refine va_get (D := G.1) (ci := 8) (v := .int 9) (C := RX11) (T := TX11) (N := 8) hx hb hq pin_wsX110 hown hE.1.1 hP 0 rfl rfl 1 (by decide) (hq _ pw_17) (fun _ h9 => h9) rfl dX11_append_34 ?_
  refine lv_iconst (v := 1) hx hb dX11_append_37 (by decide) ?_
  refine lv_iadd hx hb dX11_append_38 ?_
  refine lv_topi (fun x17 e18 => ?_)
  obtain rfl : x17 = 10 := e18.trans (by decide)
  refine va_put (D := G.1) (ci := 8) (v := .int 10) (ty := .int) (C := RX11) (T := TX11) (N := 8) hx hb hq pin_wsX110 tyX11 tyX11_ok nmX11 hown hE.1.1 hP hD hS 0 rfl rfl 1 (by decide) (hq _ pw_17) (fun _ h9 => h9) rfl (by decide +kernel) rfl rfl (Nat.le_of_ble_eq_true rfl) dX11_append_39 (fun H locs hP hD hS => ?_)
  have hP : va_P G.1 pCl [(h0, .inr (8, [.ref k1, .int 10, .ref k2, .ref k3, .ref k4, .ref k5, .ref k6, .null])), (k1, .inl (G.2.1 1, 5000, .inl f16))] H := hP
  have hD : va_D A [(h0, .inr (8, [.ref k1, .int 10, .ref k2, .ref k3, .ref k4, .ref k5, .ref k6, .null])), (k1, .inl (G.2.1 1, 5000, .inl f16))] := hD
  refine lv_iinc (v := 8) (lv' := [(2, .int 8), (0, .ref h0), (1, .int x)]) hx hb dX11_append_42 hl (k := 0) rfl (by decide) (by decide) rfl (fun ls hl => ?_)
  refine lv_goto (tgt := 3) hx hb dX11_append_45 (by decide) ?_
  refine lv_iload_n hx hb dX11_append_3 rfl (lv_at hl 0 rfl) ?_
  refine lv_if_lt (tgt := 48) hx hb dX11_append_4 (by decide) (fun c19 => absurd c19 (by decide)) (fun c19 => ?_)
  refine lv_aload_n hx hb dX11_append_7 rfl (lv_at hl 1 rfl) ?_
  refine va_get (D := G.1) (ci := 8) (v := .int 10) (C := RX11) (T := TX11) (N := 8) hx hb hq pin_wsX110 hown hE.1.1 hP 0 rfl rfl 1 (by decide) (hq _ pw_17) (fun _ h9 => h9) rfl dX11_append_8 ?_
  refine lv_aload_n hx hb dX11_append_11 rfl (lv_at hl 1 rfl) ?_
  refine va_get (D := G.1) (ci := 8) (v := .ref k1) (C := RX11) (T := TX11) (N := 8) hx hb hq pin_wsX110 hown hE.1.1 hP 0 rfl rfl 0 (by decide) (hq _ pw_1) (fun _ h9 => h9) rfl dX11_append_12 ?_
  refine va_alen (v := 5000) hx hb hE.1.1 hP 1 1 rfl rfl (show Int32.ofNat 5000 = 5000 from by decide) dX11_append_15 ?_
  refine lv_icmp_ge (tgt := 42) hx hb dX11_append_16 (by decide) (fun c20 => absurd c20 (by decide)) (fun c20 => ?_)
  refine lv_aload_n hx hb dX11_append_19 rfl (lv_at hl 1 rfl) ?_
  refine va_get (D := G.1) (ci := 8) (v := .ref k1) (C := RX11) (T := TX11) (N := 8) hx hb hq pin_wsX110 hown hE.1.1 hP 0 rfl rfl 0 (by decide) (hq _ pw_1) (fun _ h9 => h9) rfl dX11_append_20 ?_
  refine lv_aload_n hx hb dX11_append_23 rfl (lv_at hl 1 rfl) ?_
  refine va_get (D := G.1) (ci := 8) (v := .int 10) (C := RX11) (T := TX11) (N := 8) hx hb hq pin_wsX110 hown hE.1.1 hP 0 rfl rfl 1 (by decide) (hq _ pw_17) (fun _ h9 => h9) rfl dX11_append_24 ?_
  refine lv_iload_n hx hb dX11_append_27 rfl (lv_at hl 2 rfl) ?_
  refine lv_iload_n hx hb dX11_append_28 rfl (lv_at hl 0 rfl) ?_
  refine lv_iushr hx hb dX11_append_29 rfl ?_
  refine lv_topi (fun x21 e22 => ?_)
  refine lv_i2b hx hb dX11_append_30 rfl ?_
  refine lv_topi (fun x23 e24 => ?_)
  refine va_bast hx hb hE.1.1 hP hD hS 1 1 rfl rfl (by unfold vp_in; decide) dX11_append_31 (fun H locs hP hD hS => ?_)
  have hP : va_P G.1 pCl [(h0, .inr (8, [.ref k1, .int 10, .ref k2, .ref k3, .ref k4, .ref k5, .ref k6, .null])), (k1, .inl (G.2.1 1, 5000, .inl (upd f16 (Int32.toNatClampNeg 10) (vp_nar .byte x23))))] H := hP
  have hD : va_D A [(h0, .inr (8, [.ref k1, .int 10, .ref k2, .ref k3, .ref k4, .ref k5, .ref k6, .null])), (k1, .inl (G.2.1 1, 5000, .inl (upd f16 (Int32.toNatClampNeg 10) (vp_nar .byte x23))))] := hD
  generalize (upd f16 (Int32.toNatClampNeg 10) (vp_nar .byte x23)) = f25 at hP hD
  refine lv_aload_n hx hb dX11_append_32 rfl (lv_at hl 1 rfl) ?_
  refine lv_dup hx hb dX11_append_33 rfl ?_
  refine va_get (D := G.1) (ci := 8) (v := .int 10) (C := RX11) (T := TX11) (N := 8) hx hb hq pin_wsX110 hown hE.1.1 hP 0 rfl rfl 1 (by decide) (hq _ pw_17) (fun _ h9 => h9) rfl dX11_append_34 ?_
  refine lv_iconst (v := 1) hx hb dX11_append_37 (by decide) ?_
  refine lv_iadd hx hb dX11_append_38 ?_
  refine lv_topi (fun x26 e27 => ?_)
  obtain rfl : x26 = 11 := e27.trans (by decide)
  refine va_put (D := G.1) (ci := 8) (v := .int 11) (ty := .int) (C := RX11) (T := TX11) (N := 8) hx hb hq pin_wsX110 tyX11 tyX11_ok nmX11 hown hE.1.1 hP hD hS 0 rfl rfl 1 (by decide) (hq _ pw_17) (fun _ h9 => h9) rfl (by decide +kernel) rfl rfl (Nat.le_of_ble_eq_true rfl) dX11_append_39 (fun H locs hP hD hS => ?_)
  have hP : va_P G.1 pCl [(h0, .inr (8, [.ref k1, .int 11, .ref k2, .ref k3, .ref k4, .ref k5, .ref k6, .null])), (k1, .inl (G.2.1 1, 5000, .inl f25))] H := hP
  have hD : va_D A [(h0, .inr (8, [.ref k1, .int 11, .ref k2, .ref k3, .ref k4, .ref k5, .ref k6, .null])), (k1, .inl (G.2.1 1, 5000, .inl f25))] := hD
  refine lv_iinc (v := 0) (lv' := [(2, .int 0), (0, .ref h0), (1, .int x)]) hx hb dX11_append_42 hl (k := 0) rfl (by decide) (by decide) rfl (fun ls hl => ?_)
  refine lv_goto (tgt := 3) hx hb dX11_append_45 (by decide) ?_
  refine lv_iload_n hx hb dX11_append_3 rfl (lv_at hl 0 rfl) ?_
  refine lv_if_lt (tgt := 48) hx hb dX11_append_4 (by decide) (fun c28 => absurd c28 (by decide)) (fun c28 => ?_)
  refine lv_aload_n hx hb dX11_append_7 rfl (lv_at hl 1 rfl) ?_
  refine va_get (D := G.1) (ci := 8) (v := .int 11) (C := RX11) (T := TX11) (N := 8) hx hb hq pin_wsX110 hown hE.1.1 hP 0 rfl rfl 1 (by decide) (hq _ pw_17) (fun _ h9 => h9) rfl dX11_append_8 ?_
  refine lv_aload_n hx hb dX11_append_11 rfl (lv_at hl 1 rfl) ?_
  refine va_get (D := G.1) (ci := 8) (v := .ref k1) (C := RX11) (T := TX11) (N := 8) hx hb hq pin_wsX110 hown hE.1.1 hP 0 rfl rfl 0 (by decide) (hq _ pw_1) (fun _ h9 => h9) rfl dX11_append_12 ?_
  refine va_alen (v := 5000) hx hb hE.1.1 hP 1 1 rfl rfl (show Int32.ofNat 5000 = 5000 from by decide) dX11_append_15 ?_
  refine lv_icmp_ge (tgt := 42) hx hb dX11_append_16 (by decide) (fun c29 => absurd c29 (by decide)) (fun c29 => ?_)
  refine lv_aload_n hx hb dX11_append_19 rfl (lv_at hl 1 rfl) ?_
  refine va_get (D := G.1) (ci := 8) (v := .ref k1) (C := RX11) (T := TX11) (N := 8) hx hb hq pin_wsX110 hown hE.1.1 hP 0 rfl rfl 0 (by decide) (hq _ pw_1) (fun _ h9 => h9) rfl dX11_append_20 ?_
  refine lv_aload_n hx hb dX11_append_23 rfl (lv_at hl 1 rfl) ?_
  refine va_get (D := G.1) (ci := 8) (v := .int 11) (C := RX11) (T := TX11) (N := 8) hx hb hq pin_wsX110 hown hE.1.1 hP 0 rfl rfl 1 (by decide) (hq _ pw_17) (fun _ h9 => h9) rfl dX11_append_24 ?_
  refine lv_iload_n hx hb dX11_append_27 rfl (lv_at hl 2 rfl) ?_
  refine lv_iload_n hx hb dX11_append_28 rfl (lv_at hl 0 rfl) ?_
  refine lv_iushr hx hb dX11_append_29 rfl ?_
  refine lv_topi (fun x30 e31 => ?_)
  refine lv_i2b hx hb dX11_append_30 rfl ?_
  refine lv_topi (fun x32 e33 => ?_)
  refine va_bast hx hb hE.1.1 hP hD hS 1 1 rfl rfl (by unfold vp_in; decide) dX11_append_31 (fun H locs hP hD hS => ?_)
  have hP : va_P G.1 pCl [(h0, .inr (8, [.ref k1, .int 11, .ref k2, .ref k3, .ref k4, .ref k5, .ref k6, .null])), (k1, .inl (G.2.1 1, 5000, .inl (upd f25 (Int32.toNatClampNeg 11) (vp_nar .byte x32))))] H := hP
  have hD : va_D A [(h0, .inr (8, [.ref k1, .int 11, .ref k2, .ref k3, .ref k4, .ref k5, .ref k6, .null])), (k1, .inl (G.2.1 1, 5000, .inl (upd f25 (Int32.toNatClampNeg 11) (vp_nar .byte x32))))] := hD
  generalize (upd f25 (Int32.toNatClampNeg 11) (vp_nar .byte x32)) = f34 at hP hD
  refine lv_aload_n hx hb dX11_append_32 rfl (lv_at hl 1 rfl) ?_
  refine lv_dup hx hb dX11_append_33 rfl ?_
  refine va_get (D := G.1) (ci := 8) (v := .int 11) (C := RX11) (T := TX11) (N := 8) hx hb hq pin_wsX110 hown hE.1.1 hP 0 rfl rfl 1 (by decide) (hq _ pw_17) (fun _ h9 => h9) rfl dX11_append_34 ?_
  refine lv_iconst (v := 1) hx hb dX11_append_37 (by decide) ?_
  refine lv_iadd hx hb dX11_append_38 ?_
  refine lv_topi (fun x35 e36 => ?_)
  obtain rfl : x35 = 12 := e36.trans (by decide)
  refine va_put (D := G.1) (ci := 8) (v := .int 12) (ty := .int) (C := RX11) (T := TX11) (N := 8) hx hb hq pin_wsX110 tyX11 tyX11_ok nmX11 hown hE.1.1 hP hD hS 0 rfl rfl 1 (by decide) (hq _ pw_17) (fun _ h9 => h9) rfl (by decide +kernel) rfl rfl (Nat.le_of_ble_eq_true rfl) dX11_append_39 (fun H locs hP hD hS => ?_)
  have hP : va_P G.1 pCl [(h0, .inr (8, [.ref k1, .int 12, .ref k2, .ref k3, .ref k4, .ref k5, .ref k6, .null])), (k1, .inl (G.2.1 1, 5000, .inl f34))] H := hP
  have hD : va_D A [(h0, .inr (8, [.ref k1, .int 12, .ref k2, .ref k3, .ref k4, .ref k5, .ref k6, .null])), (k1, .inl (G.2.1 1, 5000, .inl f34))] := hD
  refine lv_iinc (v := (-8)) (lv' := [(2, .int (-8)), (0, .ref h0), (1, .int x)]) hx hb dX11_append_42 hl (k := 0) rfl (by decide) (by decide) rfl (fun ls hl => ?_)
  refine lv_goto (tgt := 3) hx hb dX11_append_45 (by decide) ?_
  refine lv_iload_n hx hb dX11_append_3 rfl (lv_at hl 0 rfl) ?_
  refine lv_if_lt (tgt := 48) hx hb dX11_append_4 (by decide) (fun c37 => ?_) (fun c37 => absurd (by decide) c37)
  refine W.widen (k := 0) (n := 0) (Nat.le_of_ble_eq_true rfl) (Nat.le_of_ble_eq_true rfl) ?_
  exact W.vret hx hb hr (fun t ht hW => ⟨⟨_, ((fun _ => 0), (fun k => match k with | _ => f34), (fun _ => fun _ => 0)), rfl, rfl, by rw [ht]; exact hP.sub [0, 1] rfl, hD.sub [0, 1] (by decide) rfl⟩, hS.F ht⟩) hS.2.2 dX11_append_48
set_option maxHeartbeats 1000000 in
set_option maxRecDepth 100000 in
/-- append, 12 bytes on the tape -/
theorem c_append_12 (l : Launch) (G : pT) (h0 : Nat) (k1 : Nat) (k2 : Nat) (k3 : Nat) (k4 : Nat) (k5 : Nat) (k6 : Nat) (f : Nat → Int32) (x : Int32) : PM l G pX0 yX11_append cX11_append 3 none ({ frames := 2, cells := 0, slots := 0, locals := 60 }) [.ref h0, .int x] [(h0, .inr (8, [.ref k1, .int 12, .ref k2, .ref k3, .ref k4, .ref k5, .ref k6, .null])), (k1, .inl (G.2.1 1, 5000, .inl f))] (fun (v : Option Value) (u : (Nat → Nat) × (Nat → Nat → Int32) × (Nat → Nat → Int64)) => v = none) (fun u => [(h0, .inr (8, [.ref k1, .int 16, .ref k2, .ref k3, .ref k4, .ref k5, .ref k6, .null])), (k1, .inl (G.2.1 1, 5000, .inl (u.2.1 0)))]) := by
  intro sz
  refine Met.ofW (cc := cX11_append) (maxL := 3) (ret := none) (by decide) rfl ?_
  intro p e s m args below meth c s₁ B hml hv
  obtain ⟨rfl, hsz, hP, hD0, hE, hX⟩ := hv
  have hx := B.exec
  have hb := B.bytes
  have hr := B.returns
  have hts := atoms_spec (ws := Cond.code yX11_append cX11_append 3 none :: pw) B.pre
  have hq : ∀ w ∈ pw, w.before _ s = true := fun w h => hts w (List.mem_cons_of_mem _ h)
  have hown : s.vm.findClass RX11 = some m.cls := findClass_of_methodNamed B.named
  have hlocks := B.notSynchronized
  subst hsz
  have hD := hD0.self (sz := s.heap.size)
  have hA : ∀ q : Nat, s.heap.size ≤ q → va_A [(h0, .inr (8, [.ref k1, .int 12, .ref k2, .ref k3, .ref k4, .ref k5, .ref k6, .null])), (k1, .inl (G.2.1 1, 5000, .inl f))] s.heap.size q := fun q h => Or.inr h
  have hP : va_P G.1 pCl [(h0, .inr (8, [.ref k1, .int 12, .ref k2, .ref k3, .ref k4, .ref k5, .ref k6, .null])), (k1, .inl (G.2.1 1, 5000, .inl f))] s.heap := hP
  generalize va_A [(h0, .inr (8, [.ref k1, .int 12, .ref k2, .ref k3, .ref k4, .ref k5, .ref k6, .null])), (k1, .inl (G.2.1 1, 5000, .inl f))] s.heap.size = A at hD hE hA ⊢
  have hS : va_S A s.heap s.heap [] := va_S.rf
  have hl := lv_entry ([.ref h0, .int x]) (n := 3) (Nat.le_of_ble_eq_true rfl)
  rw [lg_entry_eq]
  generalize (lg_sl ([.ref h0, .int x]) ++ List.replicate (3 - (lg_sl ([.ref h0, .int x])).length) Slot.unset).toArray = ls at hl ⊢
  have hl : lv_has ls 3 [(0, .ref h0), (1, .int x)] := hl
  refine lv_bipush (v := 24) hx hb dX11_append_0 (by decide) ?_
  refine lv_istore_n (lv' := [(2, .int 24), (0, .ref h0), (1, .int x)]) hx hb dX11_append_2 rfl hl (by decide) rfl (fun ls hl => ?_)
  refine lv_iload_n hx hb dX11_append_3 rfl (lv_at hl 0 rfl) ?_
  refine lv_if_lt (tgt := 48) hx hb dX11_append_4 (by decide) (fun c1 => absurd c1 (by decide)) (fun c1 => ?_)
  refine lv_aload_n hx hb dX11_append_7 rfl (lv_at hl 1 rfl) ?_
  refine va_get (D := G.1) (ci := 8) (v := .int 12) (C := RX11) (T := TX11) (N := 8) hx hb hq pin_wsX110 hown hE.1.1 hP 0 rfl rfl 1 (by decide) (hq _ pw_17) (fun _ h9 => h9) rfl dX11_append_8 ?_
  refine lv_aload_n hx hb dX11_append_11 rfl (lv_at hl 1 rfl) ?_
  refine va_get (D := G.1) (ci := 8) (v := .ref k1) (C := RX11) (T := TX11) (N := 8) hx hb hq pin_wsX110 hown hE.1.1 hP 0 rfl rfl 0 (by decide) (hq _ pw_1) (fun _ h9 => h9) rfl dX11_append_12 ?_
  refine va_alen (v := 5000) hx hb hE.1.1 hP 1 1 rfl rfl (show Int32.ofNat 5000 = 5000 from by decide) dX11_append_15 ?_
  refine lv_icmp_ge (tgt := 42) hx hb dX11_append_16 (by decide) (fun c2 => absurd c2 (by decide)) (fun c2 => ?_)
  refine lv_aload_n hx hb dX11_append_19 rfl (lv_at hl 1 rfl) ?_
  refine va_get (D := G.1) (ci := 8) (v := .ref k1) (C := RX11) (T := TX11) (N := 8) hx hb hq pin_wsX110 hown hE.1.1 hP 0 rfl rfl 0 (by decide) (hq _ pw_1) (fun _ h9 => h9) rfl dX11_append_20 ?_
  refine lv_aload_n hx hb dX11_append_23 rfl (lv_at hl 1 rfl) ?_
  refine va_get (D := G.1) (ci := 8) (v := .int 12) (C := RX11) (T := TX11) (N := 8) hx hb hq pin_wsX110 hown hE.1.1 hP 0 rfl rfl 1 (by decide) (hq _ pw_17) (fun _ h9 => h9) rfl dX11_append_24 ?_
  refine lv_iload_n hx hb dX11_append_27 rfl (lv_at hl 2 rfl) ?_
  refine lv_iload_n hx hb dX11_append_28 rfl (lv_at hl 0 rfl) ?_
  refine lv_iushr hx hb dX11_append_29 rfl ?_
  refine lv_topi (fun x3 e4 => ?_)
  refine lv_i2b hx hb dX11_append_30 rfl ?_
  refine lv_topi (fun x5 e6 => ?_)
  refine va_bast hx hb hE.1.1 hP hD hS 1 1 rfl rfl (by unfold vp_in; decide) dX11_append_31 (fun H locs hP hD hS => ?_)
  have hP : va_P G.1 pCl [(h0, .inr (8, [.ref k1, .int 12, .ref k2, .ref k3, .ref k4, .ref k5, .ref k6, .null])), (k1, .inl (G.2.1 1, 5000, .inl (upd f (Int32.toNatClampNeg 12) (vp_nar .byte x5))))] H := hP
  have hD : va_D A [(h0, .inr (8, [.ref k1, .int 12, .ref k2, .ref k3, .ref k4, .ref k5, .ref k6, .null])), (k1, .inl (G.2.1 1, 5000, .inl (upd f (Int32.toNatClampNeg 12) (vp_nar .byte x5))))] := hD
  generalize (upd f (Int32.toNatClampNeg 12) (vp_nar .byte x5)) = f7 at hP hD
  refine lv_aload_n hx hb dX11_append_32 rfl (lv_at hl 1 rfl) ?_
  refine lv_dup hx hb dX11_append_33 rfl ?_
  refine va_get (D := G.1) (ci := 8) (v := .int 12) (C := RX11) (T := TX11) (N := 8) hx hb hq pin_wsX110 hown hE.1.1 hP 0 rfl rfl 1 (by decide) (hq _ pw_17) (fun _ h9 => h9) rfl dX11_append_34 ?_
  refine lv_iconst (v := 1) hx hb dX11_append_37 (by decide) ?_
  refine lv_iadd hx hb dX11_append_38 ?_
  refine lv_topi (fun x8 e9 => ?_)
  obtain rfl : x8 = 13 := e9.trans (by decide)
  refine va_put (D := G.1) (ci := 8) (v := .int 13) (ty := .int) (C := RX11) (T := TX11) (N := 8) hx hb hq pin_wsX110 tyX11 tyX11_ok nmX11 hown hE.1.1 hP hD hS 0 rfl rfl 1 (by decide) (hq _ pw_17) (fun _ h9 => h9) rfl (by decide +kernel) rfl rfl (Nat.le_of_ble_eq_true rfl) dX11_append_39 (fun H locs hP hD hS => ?_)
  have hP : va_P G.1 pCl [(h0, .inr (8, [.ref k1, .int 13, .ref k2, .ref k3, .ref k4, .ref k5, .ref k6, .null])), (k1, .inl (G.2.1 1, 5000, .inl f7))] H := hP
  have hD : va_D A [(h0, .inr (8, [.ref k1, .int 13, .ref k2, .ref k3, .ref k4, .ref k5, .ref k6, .null])), (k1, .inl (G.2.1 1, 5000, .inl f7))] := hD
  refine lv_iinc (v := 16) (lv' := [(2, .int 16), (0, .ref h0), (1, .int x)]) hx hb dX11_append_42 hl (k := 0) rfl (by decide) (by decide) rfl (fun ls hl => ?_)
  refine lv_goto (tgt := 3) hx hb dX11_append_45 (by decide) ?_
  refine lv_iload_n hx hb dX11_append_3 rfl (lv_at hl 0 rfl) ?_
  refine lv_if_lt (tgt := 48) hx hb dX11_append_4 (by decide) (fun c10 => absurd c10 (by decide)) (fun c10 => ?_)
  refine lv_aload_n hx hb dX11_append_7 rfl (lv_at hl 1 rfl) ?_
  refine va_get (D := G.1) (ci := 8) (v := .int 13) (C := RX11) (T := TX11) (N := 8) hx hb hq pin_wsX110 hown hE.1.1 hP 0 rfl rfl 1 (by decide) (hq _ pw_17) (fun _ h9 => h9) rfl dX11_append_8 ?_
  refine lv_aload_n hx hb dX11_append_11 rfl (lv_at hl 1 rfl) ?_
  refine va_get (D := G.1) (ci := 8) (v := .ref k1) (C := RX11) (T := TX11) (N := 8) hx hb hq pin_wsX110 hown hE.1.1 hP 0 rfl rfl 0 (by decide) (hq _ pw_1) (fun _ h9 => h9) rfl dX11_append_12 ?_
  refine va_alen (v := 5000) hx hb hE.1.1 hP 1 1 rfl rfl (show Int32.ofNat 5000 = 5000 from by decide) dX11_append_15 ?_
  refine lv_icmp_ge (tgt := 42) hx hb dX11_append_16 (by decide) (fun c11 => absurd c11 (by decide)) (fun c11 => ?_)
  refine lv_aload_n hx hb dX11_append_19 rfl (lv_at hl 1 rfl) ?_
  refine va_get (D := G.1) (ci := 8) (v := .ref k1) (C := RX11) (T := TX11) (N := 8) hx hb hq pin_wsX110 hown hE.1.1 hP 0 rfl rfl 0 (by decide) (hq _ pw_1) (fun _ h9 => h9) rfl dX11_append_20 ?_
  refine lv_aload_n hx hb dX11_append_23 rfl (lv_at hl 1 rfl) ?_
  refine va_get (D := G.1) (ci := 8) (v := .int 13) (C := RX11) (T := TX11) (N := 8) hx hb hq pin_wsX110 hown hE.1.1 hP 0 rfl rfl 1 (by decide) (hq _ pw_17) (fun _ h9 => h9) rfl dX11_append_24 ?_
  refine lv_iload_n hx hb dX11_append_27 rfl (lv_at hl 2 rfl) ?_
  refine lv_iload_n hx hb dX11_append_28 rfl (lv_at hl 0 rfl) ?_
  refine lv_iushr hx hb dX11_append_29 rfl ?_
  refine lv_topi (fun x12 e13 => ?_)
  refine lv_i2b hx hb dX11_append_30 rfl ?_
  refine lv_topi (fun x14 e15 => ?_)
  refine va_bast hx hb hE.1.1 hP hD hS 1 1 rfl rfl (by unfold vp_in; decide) dX11_append_31 (fun H locs hP hD hS => ?_)
  have hP : va_P G.1 pCl [(h0, .inr (8, [.ref k1, .int 13, .ref k2, .ref k3, .ref k4, .ref k5, .ref k6, .null])), (k1, .inl (G.2.1 1, 5000, .inl (upd f7 (Int32.toNatClampNeg 13) (vp_nar .byte x14))))] H := hP
  have hD : va_D A [(h0, .inr (8, [.ref k1, .int 13, .ref k2, .ref k3, .ref k4, .ref k5, .ref k6, .null])), (k1, .inl (G.2.1 1, 5000, .inl (upd f7 (Int32.toNatClampNeg 13) (vp_nar .byte x14))))] := hD
  generalize (upd f7 (Int32.toNatClampNeg 13) (vp_nar .byte x14)) = f16 at hP hD
  refine lv_aload_n hx hb dX11_append_32 rfl (lv_at hl 1 rfl) ?_
  refine lv_dup hx hb dX11_append_33 rfl ?_
  refine va_get (D := G.1) (ci := 8) (v := .int 13) (C := RX11) (T := TX11) (N := 8) hx hb hq pin_wsX110 hown hE.1.1 hP 0 rfl rfl 1 (by decide) (hq _ pw_17) (fun _ h9 => h9) rfl dX11_append_34 ?_
  refine lv_iconst (v := 1) hx hb dX11_append_37 (by decide) ?_
  refine lv_iadd hx hb dX11_append_38 ?_
  refine lv_topi (fun x17 e18 => ?_)
  obtain rfl : x17 = 14 := e18.trans (by decide)
  refine va_put (D := G.1) (ci := 8) (v := .int 14) (ty := .int) (C := RX11) (T := TX11) (N := 8) hx hb hq pin_wsX110 tyX11 tyX11_ok nmX11 hown hE.1.1 hP hD hS 0 rfl rfl 1 (by decide) (hq _ pw_17) (fun _ h9 => h9) rfl (by decide +kernel) rfl rfl (Nat.le_of_ble_eq_true rfl) dX11_append_39 (fun H locs hP hD hS => ?_)
  have hP : va_P G.1 pCl [(h0, .inr (8, [.ref k1, .int 14, .ref k2, .ref k3, .ref k4, .ref k5, .ref k6, .null])), (k1, .inl (G.2.1 1, 5000, .inl f16))] H := hP
  have hD : va_D A [(h0, .inr (8, [.ref k1, .int 14, .ref k2, .ref k3, .ref k4, .ref k5, .ref k6, .null])), (k1, .inl (G.2.1 1, 5000, .inl f16))] := hD
  refine lv_iinc (v := 8) (lv' := [(2, .int 8), (0, .ref h0), (1, .int x)]) hx hb dX11_append_42 hl (k := 0) rfl (by decide) (by decide) rfl (fun ls hl => ?_)
  refine lv_goto (tgt := 3) hx hb dX11_append_45 (by decide) ?_
  refine lv_iload_n hx hb dX11_append_3 rfl (lv_at hl 0 rfl) ?_
  refine lv_if_lt (tgt := 48) hx hb dX11_append_4 (by decide) (fun c19 => absurd c19 (by decide)) (fun c19 => ?_)
  refine lv_aload_n hx hb dX11_append_7 rfl (lv_at hl 1 rfl) ?_
  refine va_get (D := G.1) (ci := 8) (v := .int 14) (C := RX11) (T := TX11) (N := 8) hx hb hq pin_wsX110 hown hE.1.1 hP 0 rfl rfl 1 (by decide) (hq _ pw_17) (fun _ h9 => h9) rfl dX11_append_8 ?_
  refine lv_aload_n hx hb dX11_append_11 rfl (lv_at hl 1 rfl) ?_
  refine va_get (D := G.1) (ci := 8) (v := .ref k1) (C := RX11) (T := TX11) (N := 8) hx hb hq pin_wsX110 hown hE.1.1 hP 0 rfl rfl 0 (by decide) (hq _ pw_1) (fun _ h9 => h9) rfl dX11_append_12 ?_
  refine va_alen (v := 5000) hx hb hE.1.1 hP 1 1 rfl rfl (show Int32.ofNat 5000 = 5000 from by decide) dX11_append_15 ?_
  refine lv_icmp_ge (tgt := 42) hx hb dX11_append_16 (by decide) (fun c20 => absurd c20 (by decide)) (fun c20 => ?_)
  refine lv_aload_n hx hb dX11_append_19 rfl (lv_at hl 1 rfl) ?_
  refine va_get (D := G.1) (ci := 8) (v := .ref k1) (C := RX11) (T := TX11) (N := 8) hx hb hq pin_wsX110 hown hE.1.1 hP 0 rfl rfl 0 (by decide) (hq _ pw_1) (fun _ h9 => h9) rfl dX11_append_20 ?_
  refine lv_aload_n hx hb dX11_append_23 rfl (lv_at hl 1 rfl) ?_
  refine va_get (D := G.1) (ci := 8) (v := .int 14) (C := RX11) (T := TX11) (N := 8) hx hb hq pin_wsX110 hown hE.1.1 hP 0 rfl rfl 1 (by decide) (hq _ pw_17) (fun _ h9 => h9) rfl dX11_append_24 ?_
  refine lv_iload_n hx hb dX11_append_27 rfl (lv_at hl 2 rfl) ?_
  refine lv_iload_n hx hb dX11_append_28 rfl (lv_at hl 0 rfl) ?_
  refine lv_iushr hx hb dX11_append_29 rfl ?_
  refine lv_topi (fun x21 e22 => ?_)
  refine lv_i2b hx hb dX11_append_30 rfl ?_
  refine lv_topi (fun x23 e24 => ?_)
  refine va_bast hx hb hE.1.1 hP hD hS 1 1 rfl rfl (by unfold vp_in; decide) dX11_append_31 (fun H locs hP hD hS => ?_)
  have hP : va_P G.1 pCl [(h0, .inr (8, [.ref k1, .int 14, .ref k2, .ref k3, .ref k4, .ref k5, .ref k6, .null])), (k1, .inl (G.2.1 1, 5000, .inl (upd f16 (Int32.toNatClampNeg 14) (vp_nar .byte x23))))] H := hP
  have hD : va_D A [(h0, .inr (8, [.ref k1, .int 14, .ref k2, .ref k3, .ref k4, .ref k5, .ref k6, .null])), (k1, .inl (G.2.1 1, 5000, .inl (upd f16 (Int32.toNatClampNeg 14) (vp_nar .byte x23))))] := hD
  generalize (upd f16 (Int32.toNatClampNeg 14) (vp_nar .byte x23)) = f25 at hP hD
  refine lv_aload_n hx hb dX11_append_32 rfl (lv_at hl 1 rfl) ?_
  refine lv_dup hx hb dX11_append_33 rfl ?_
  refine va_get (D := G.1) (ci := 8) (v := .int 14) (C := RX11) (T := TX11) (N := 8) hx hb hq pin_wsX110 hown hE.1.1 hP 0 rfl rfl 1 (by decide) (hq _ pw_17) (fun _ h9 => h9) rfl dX11_append_34 ?_
  refine lv_iconst (v := 1) hx hb dX11_append_37 (by decide) ?_
  refine lv_iadd hx hb dX11_append_38 ?_
  refine lv_topi (fun x26 e27 => ?_)
  obtain rfl : x26 = 15 := e27.trans (by decide)
  refine va_put (D := G.1) (ci := 8) (v := .int 15) (ty := .int) (C := RX11) (T := TX11) (N := 8) hx hb hq pin_wsX110 tyX11 tyX11_ok nmX11 hown hE.1.1 hP hD hS 0 rfl rfl 1 (by decide) (hq _ pw_17) (fun _ h9 => h9) rfl (by decide +kernel) rfl rfl (Nat.le_of_ble_eq_true rfl) dX11_append_39 (fun H locs hP hD hS => ?_)
  have hP : va_P G.1 pCl [(h0, .inr (8, [.ref k1, .int 15, .ref k2, .ref k3, .ref k4, .ref k5, .ref k6, .null])), (k1, .inl (G.2.1 1, 5000, .inl f25))] H := hP
  have hD : va_D A [(h0, .inr (8, [.ref k1, .int 15, .ref k2, .ref k3, .ref k4, .ref k5, .ref k6, .null])), (k1, .inl (G.2.1 1, 5000, .inl f25))] := hD
  refine lv_iinc (v := 0) (lv' := [(2, .int 0), (0, .ref h0), (1, .int x)]) hx hb dX11_append_42 hl (k := 0) rfl (by decide) (by decide) rfl (fun ls hl => ?_)
  refine lv_goto (tgt := 3) hx hb dX11_append_45 (by decide) ?_
  refine lv_iload_n hx hb dX11_append_3 rfl (lv_at hl 0 rfl) ?_
  refine lv_if_lt (tgt := 48) hx hb dX11_append_4 (by decide) (fun c28 => absurd c28 (by decide)) (fun c28 => ?_)
  refine lv_aload_n hx hb dX11_append_7 rfl (lv_at hl 1 rfl) ?_
  refine va_get (D := G.1) (ci := 8) (v := .int 15) (C := RX11) (T := TX11) (N := 8) hx hb hq pin_wsX110 hown hE.1.1 hP 0 rfl rfl 1 (by decide) (hq _ pw_17) (fun _ h9 => h9) rfl dX11_append_8 ?_
  refine lv_aload_n hx hb dX11_append_11 rfl (lv_at hl 1 rfl) ?_
  refine va_get (D := G.1) (ci := 8) (v := .ref k1) (C := RX11) (T := TX11) (N := 8) hx hb hq pin_wsX110 hown hE.1.1 hP 0 rfl rfl 0 (by decide) (hq _ pw_1) (fun _ h9 => h9) rfl dX11_append_12 ?_
  refine va_alen (v := 5000) hx hb hE.1.1 hP 1 1 rfl rfl (show Int32.ofNat 5000 = 5000 from by decide) dX11_append_15 ?_
  refine lv_icmp_ge (tgt := 42) hx hb dX11_append_16 (by decide) (fun c29 => absurd c29 (by decide)) (fun c29 => ?_)
  refine lv_aload_n hx hb dX11_append_19 rfl (lv_at hl 1 rfl) ?_
  refine va_get (D := G.1) (ci := 8) (v := .ref k1) (C := RX11) (T := TX11) (N := 8) hx hb hq pin_wsX110 hown hE.1.1 hP 0 rfl rfl 0 (by decide) (hq _ pw_1) (fun _ h9 => h9) rfl dX11_append_20 ?_
  refine lv_aload_n hx hb dX11_append_23 rfl (lv_at hl 1 rfl) ?_
  refine va_get (D := G.1) (ci := 8) (v := .int 15) (C := RX11) (T := TX11) (N := 8) hx hb hq pin_wsX110 hown hE.1.1 hP 0 rfl rfl 1 (by decide) (hq _ pw_17) (fun _ h9 => h9) rfl dX11_append_24 ?_
  refine lv_iload_n hx hb dX11_append_27 rfl (lv_at hl 2 rfl) ?_
  refine lv_iload_n hx hb dX11_append_28 rfl (lv_at hl 0 rfl) ?_
  refine lv_iushr hx hb dX11_append_29 rfl ?_
  refine lv_topi (fun x30 e31 => ?_)
  refine lv_i2b hx hb dX11_append_30 rfl ?_
  refine lv_topi (fun x32 e33 => ?_)
  refine va_bast hx hb hE.1.1 hP hD hS 1 1 rfl rfl (by unfold vp_in; decide) dX11_append_31 (fun H locs hP hD hS => ?_)
  have hP : va_P G.1 pCl [(h0, .inr (8, [.ref k1, .int 15, .ref k2, .ref k3, .ref k4, .ref k5, .ref k6, .null])), (k1, .inl (G.2.1 1, 5000, .inl (upd f25 (Int32.toNatClampNeg 15) (vp_nar .byte x32))))] H := hP
  have hD : va_D A [(h0, .inr (8, [.ref k1, .int 15, .ref k2, .ref k3, .ref k4, .ref k5, .ref k6, .null])), (k1, .inl (G.2.1 1, 5000, .inl (upd f25 (Int32.toNatClampNeg 15) (vp_nar .byte x32))))] := hD
  generalize (upd f25 (Int32.toNatClampNeg 15) (vp_nar .byte x32)) = f34 at hP hD
  refine lv_aload_n hx hb dX11_append_32 rfl (lv_at hl 1 rfl) ?_
  refine lv_dup hx hb dX11_append_33 rfl ?_
  refine va_get (D := G.1) (ci := 8) (v := .int 15) (C := RX11) (T := TX11) (N := 8) hx hb hq pin_wsX110 hown hE.1.1 hP 0 rfl rfl 1 (by decide) (hq _ pw_17) (fun _ h9 => h9) rfl dX11_append_34 ?_
  refine lv_iconst (v := 1) hx hb dX11_append_37 (by decide) ?_
  refine lv_iadd hx hb dX11_append_38 ?_
  refine lv_topi (fun x35 e36 => ?_)
  obtain rfl : x35 = 16 := e36.trans (by decide)
  refine va_put (D := G.1) (ci := 8) (v := .int 16) (ty := .int) (C := RX11) (T := TX11) (N := 8) hx hb hq pin_wsX110 tyX11 tyX11_ok nmX11 hown hE.1.1 hP hD hS 0 rfl rfl 1 (by decide) (hq _ pw_17) (fun _ h9 => h9) rfl (by decide +kernel) rfl rfl (Nat.le_of_ble_eq_true rfl) dX11_append_39 (fun H locs hP hD hS => ?_)
  have hP : va_P G.1 pCl [(h0, .inr (8, [.ref k1, .int 16, .ref k2, .ref k3, .ref k4, .ref k5, .ref k6, .null])), (k1, .inl (G.2.1 1, 5000, .inl f34))] H := hP
  have hD : va_D A [(h0, .inr (8, [.ref k1, .int 16, .ref k2, .ref k3, .ref k4, .ref k5, .ref k6, .null])), (k1, .inl (G.2.1 1, 5000, .inl f34))] := hD
  refine lv_iinc (v := (-8)) (lv' := [(2, .int (-8)), (0, .ref h0), (1, .int x)]) hx hb dX11_append_42 hl (k := 0) rfl (by decide) (by decide) rfl (fun ls hl => ?_)
  refine lv_goto (tgt := 3) hx hb dX11_append_45 (by decide) ?_
  refine lv_iload_n hx hb dX11_append_3 rfl (lv_at hl 0 rfl) ?_
  refine lv_if_lt (tgt := 48) hx hb dX11_append_4 (by decide) (fun c37 => ?_) (fun c37 => absurd (by decide) c37)
  refine W.widen (k := 0) (n := 0) (Nat.le_of_ble_eq_true rfl) (Nat.le_of_ble_eq_true rfl) ?_
  exact W.vret hx hb hr (fun t ht hW => ⟨⟨_, ((fun _ => 0), (fun k => match k with | _ => f34), (fun _ => fun _ => 0)), rfl, rfl, by rw [ht]; exact hP.sub [0, 1] rfl, hD.sub [0, 1] (by decide) rfl⟩, hS.F ht⟩) hS.2.2 dX11_append_48
set_option maxHeartbeats 1000000 in
set_option maxRecDepth 100000 in
/-- append, 16 bytes on the tape -/
theorem c_append_16 (l : Launch) (G : pT) (h0 : Nat) (k1 : Nat) (k2 : Nat) (k3 : Nat) (k4 : Nat) (k5 : Nat) (k6 : Nat) (f : Nat → Int32) (x : Int32) : PM l G pX0 yX11_append cX11_append 3 none ({ frames := 2, cells := 0, slots := 0, locals := 60 }) [.ref h0, .int x] [(h0, .inr (8, [.ref k1, .int 16, .ref k2, .ref k3, .ref k4, .ref k5, .ref k6, .null])), (k1, .inl (G.2.1 1, 5000, .inl f))] (fun (v : Option Value) (u : (Nat → Nat) × (Nat → Nat → Int32) × (Nat → Nat → Int64)) => v = none) (fun u => [(h0, .inr (8, [.ref k1, .int 20, .ref k2, .ref k3, .ref k4, .ref k5, .ref k6, .null])), (k1, .inl (G.2.1 1, 5000, .inl (u.2.1 0)))]) := by
  intro sz
  refine Met.ofW (cc := cX11_append) (maxL := 3) (ret := none) (by decide) rfl ?_
  intro p e s m args below meth c s₁ B hml hv
  obtain ⟨rfl, hsz, hP, hD0, hE, hX⟩ := hv
  have hx := B.exec
  have hb := B.bytes
  have hr := B.returns
  have hts := atoms_spec (ws := Cond.code yX11_append cX11_append 3 none :: pw) B.pre
  have hq : ∀ w ∈ pw, w.before _ s = true := fun w h => hts w (List.mem_cons_of_mem _ h)
  have hown : s.vm.findClass RX11 = some m.cls := findClass_of_methodNamed B.named
  have hlocks := B.notSynchronized
  subst hsz
  have hD := hD0.self (sz := s.heap.size)
  have hA : ∀ q : Nat, s.heap.size ≤ q → va_A [(h0, .inr (8, [.ref k1, .int 16, .ref k2, .ref k3, .ref k4, .ref k5, .ref k6, .null])), (k1, .inl (G.2.1 1, 5000, .inl f))] s.heap.size q := fun q h => Or.inr h
  have hP : va_P G.1 pCl [(h0, .inr (8, [.ref k1, .int 16, .ref k2, .ref k3, .ref k4, .ref k5, .ref k6, .null])), (k1, .inl (G.2.1 1, 5000, .inl f))] s.heap := hP
  generalize va_A [(h0, .inr (8, [.ref k1, .int 16, .ref k2, .ref k3, .ref k4, .ref k5, .ref k6, .null])), (k1, .inl (G.2.1 1, 5000, .inl f))] s.heap.size = A at hD hE hA ⊢
  have hS : va_S A s.heap s.heap [] := va_S.rf
  have hl := lv_entry ([.ref h0, .int x]) (n := 3) (Nat.le_of_ble_eq_true rfl)
  rw [lg_entry_eq]
  generalize (lg_sl ([.ref h0, .int x]) ++ List.replicate (3 - (lg_sl ([.ref h0, .int x])).length) Slot.unset).toArray = ls at hl ⊢
  have hl : lv_has ls 3 [(0, .ref h0), (1, .int x)] := hl
  refine lv_bipush (v := 24) hx hb dX11_append_0 (by decide) ?_
  refine lv_istore_n (lv' := [(2, .int 24), (0, .ref h0), (1, .int x)]) hx hb dX11_append_2 rfl hl (by decide) rfl (fun ls hl => ?_)
  refine lv_iload_n hx hb dX11_append_3 rfl (lv_at hl 0 rfl) ?_
  refine lv_if_lt (tgt := 48) hx hb dX11_append_4 (by decide) (fun c1 => absurd c1 (by decide)) (fun c1 => ?_)
  refine lv_aload_n hx hb dX11_append_7 rfl (lv_at hl 1 rfl) ?_
  refine va_get (D := G.1) (ci := 8) (v := .int 16) (C := RX11) (T := TX11) (N := 8) hx hb hq pin_wsX110 hown hE.1.1 hP 0 rfl rfl 1 (by decide) (hq _ pw_17) (fun _ h9 => h9) rfl dX11_append_8 ?_
  refine lv_aload_n hx hb dX11_append_11 rfl (lv_at hl 1 rfl) ?_
  refine va_get (D := G.1) (ci := 8) (v := .ref k1) (C := RX11) (T := TX11) (N := 8) hx hb hq pin_wsX110 hown hE.1.1 hP 0 rfl rfl 0 (by decide) (hq _ pw_1) (fun _ h9 => h9) rfl dX11_append_12 ?_
  refine va_alen (v := 5000) hx hb hE.1.1 hP 1 1 rfl rfl (show Int32.ofNat 5000 = 5000 from by decide) dX11_append_15 ?_
  refine lv_icmp_ge (tgt := 42) hx hb dX11_append_16 (by decide) (fun c2 => absurd c2 (by decide)) (fun c2 => ?_)
  refine lv_aload_n hx hb dX11_append_19 rfl (lv_at hl 1 rfl) ?_
  refine va_get (D := G.1) (ci := 8) (v := .ref k1) (C := RX11) (T := TX11) (N := 8) hx hb hq pin_wsX110 hown hE.1.1 hP 0 rfl rfl 0 (by decide) (hq _ pw_1) (fun _ h9 => h9) rfl dX11_append_20 ?_
  refine lv_aload_n hx hb dX11_append_23 rfl (lv_at hl 1 rfl) ?_
  refine va_get (D := G.1) (ci := 8) (v := .int 16) (C := RX11) (T := TX11) (N := 8) hx hb hq pin_wsX110 hown hE.1.1 hP 0 rfl rfl 1 (by decide) (hq _ pw_17) (fun _ h9 => h9) rfl dX11_append_24 ?_
  refine lv_iload_n hx hb dX11_append_27 rfl (lv_at hl 2 rfl) ?_
  refine lv_iload_n hx hb dX11_append_28 rfl (lv_at hl 0 rfl) ?_
  refine lv_iushr hx hb dX11_append_29 rfl ?_
  refine lv_topi (fun x3 e4 => ?_)
  refine lv_i2b hx hb dX11_append_30 rfl ?_
  refine lv_topi (fun x5 e6 => ?_)
  refine va_bast hx hb hE.1.1 hP hD hS 1 1 rfl rfl (by unfold vp_in; decide) dX11_append_31 (fun H locs hP hD hS => ?_)
  have hP : va_P G.1 pCl [(h0, .inr (8, [.ref k1, .int 16, .ref k2, .ref k3, .ref k4, .ref k5, .ref k6, .null])), (k1, .inl (G.2.1 1, 5000, .inl (upd f (Int32.toNatClampNeg 16) (vp_nar .byte x5))))] H := hP
  have hD : va_D A [(h0, .inr (8, [.ref k1, .int 16, .ref k2, .ref k3, .ref k4, .ref k5, .ref k6, .null])), (k1, .inl (G.2.1 1, 5000, .inl (upd f (Int32.toNatClampNeg 16) (vp_nar .byte x5))))] := hD
  generalize (upd f (Int32.toNatClampNeg 16) (vp_nar .byte x5)) = f7 at hP hD
  refine lv_aload_n hx hb dX11_append_32 rfl (lv_at hl 1 rfl) ?_
  refine lv_dup hx hb dX11_append_33 rfl ?_
  refine va_get (D := G.1) (ci := 8) (v := .int 16) (C := RX11) (T := TX11) (N := 8) hx hb hq pin_wsX110 hown hE.1.1 hP 0 rfl rfl 1 (by decide) (hq _ pw_17) (fun _ h9 => h9) rfl dX11_append_34 ?_
  refine lv_iconst (v := 1) hx hb dX11_append_37 (by decide) ?_
  refine lv_iadd hx hb dX11_append_38 ?_
  refine lv_topi (fun x8 e9 => ?_)
  obtain rfl : x8 = 17 := e9.trans (by decide)
  refine va_put (D := G.1) (ci := 8) (v := .int 17) (ty := .int) (C := RX11) (T := TX11) (N := 8) hx hb hq pin_wsX110 tyX11 tyX11_ok nmX11 hown hE.1.1 hP hD hS 0 rfl rfl 1 (by decide) (hq _ pw_17) (fun _ h9 => h9) rfl (by decide +kernel) rfl rfl (Nat.le_of_ble_eq_true rfl) dX11_append_39 (fun H locs hP hD hS => ?_)
  have hP : va_P G.1 pCl [(h0, .inr (8, [.ref k1, .int 17, .ref k2, .ref k3, .ref k4, .ref k5, .ref k6, .null])), (k1, .inl (G.2.1 1, 5000, .inl f7))] H := hP
  have hD : va_D A [(h0, .inr (8, [.ref k1, .int 17, .ref k2, .ref k3, .ref k4, .ref k5, .ref k6, .null])), (k1, .inl (G.2.1 1, 5000, .inl f7))] := hD
  refine lv_iinc (v := 16) (lv' := [(2, .int 16), (0, .ref h0), (1, .int x)]) hx hb dX11_append_42 hl (k := 0) rfl (by decide) (by decide) rfl (fun ls hl => ?_)
  refine lv_goto (tgt := 3) hx hb dX11_append_45 (by decide) ?_
  refine lv_iload_n hx hb dX11_append_3 rfl (lv_at hl 0 rfl) ?_
  refine lv_if_lt (tgt := 48) hx hb dX11_append_4 (by decide) (fun c10 => absurd c10 (by decide)) (fun c10 => ?_)
  refine lv_aload_n hx hb dX11_append_7 rfl (lv_at hl 1 rfl) ?_
  refine va_get (D := G.1) (ci := 8) (v := .int 17) (C := RX11) (T := TX11) (N := 8) hx hb hq pin_wsX110 hown hE.1.1 hP 0 rfl rfl 1 (by decide) (hq _ pw_17) (fun _ h9 => h9) rfl dX11_append_8 ?_
  refine lv_aload_n hx hb dX11_append_11 rfl (lv_at hl 1 rfl) ?_
  refine va_get (D := G.1) (ci := 8) (v := .ref k1) (C := RX11) (T := TX11) (N := 8) hx hb hq pin_wsX110 hown hE.1.1 hP 0 rfl rfl 0 (by decide) (hq _ pw_1) (fun _ h9 => h9) rfl dX11_append_12 ?_
  refine va_alen (v := 5000) hx hb hE.1.1 hP 1 1 rfl rfl (show Int32.ofNat 5000 = 5000 from by decide) dX11_append_15 ?_
  refine lv_icmp_ge (tgt := 42) hx hb dX11_append_16 (by decide) (fun c11 => absurd c11 (by decide)) (fun c11 => ?_)
  refine lv_aload_n hx hb dX11_append_19 rfl (lv_at hl 1 rfl) ?_
  refine va_get (D := G.1) (ci := 8) (v := .ref k1) (C := RX11) (T := TX11) (N := 8) hx hb hq pin_wsX110 hown hE.1.1 hP 0 rfl rfl 0 (by decide) (hq _ pw_1) (fun _ h9 => h9) rfl dX11_append_20 ?_
  refine lv_aload_n hx hb dX11_append_23 rfl (lv_at hl 1 rfl) ?_
  refine va_get (D := G.1) (ci := 8) (v := .int 17) (C := RX11) (T := TX11) (N := 8) hx hb hq pin_wsX110 hown hE.1.1 hP 0 rfl rfl 1 (by decide) (hq _ pw_17) (fun _ h9 => h9) rfl dX11_append_24 ?_
  refine lv_iload_n hx hb dX11_append_27 rfl (lv_at hl 2 rfl) ?_
  refine lv_iload_n hx hb dX11_append_28 rfl (lv_at hl 0 rfl) ?_
  refine lv_iushr hx hb dX11_append_29 rfl ?_
  refine lv_topi (fun x12 e13 => ?_)
  refine lv_i2b hx hb dX11_append_30 rfl ?_
  refine lv_topi (fun x14 e15 => ?_)
  refine va_bast hx hb hE.1.1 hP hD hS 1 1 rfl rfl (by unfold vp_in; decide) dX11_append_31 (fun H locs hP hD hS => ?_)
  have hP : va_P G.1 pCl [(h0, .inr (8, [.ref k1, .int 17, .ref k2, .ref k3, .ref k4, .ref k5, .ref k6, .null])), (k1, .inl (G.2.1 1, 5000, .inl (upd f7 (Int32.toNatClampNeg 17) (vp_nar .byte x14))))] H := hP
  have hD : va_D A [(h0, .inr (8, [.ref k1, .int 17, .ref k2, .ref k3, .ref k4, .ref k5, .ref k6, .null])), (k1, .inl (G.2.1 1, 5000, .inl (upd f7 (Int32.toNatClampNeg 17) (vp_nar .byte x14))))] := hD
  generalize (upd f7 (Int32.toNatClampNeg 17) (vp_nar .byte x14)) = f16 at hP hD
  refine lv_aload_n hx hb dX11_append_32 rfl (lv_at hl 1 rfl) ?_
  refine lv_dup hx hb dX11_append_33 rfl ?_
  refine va_get (D := G.1) (ci := 8) (v := .int 17) (C := RX11) (T := TX11) (N := 8) hx hb hq pin_wsX110 hown hE.1.1 hP 0 rfl rfl 1 (by decide) (hq _ pw_17) (fun _ h9 => h9) rfl dX11_append_34 ?_
  refine lv_iconst (v := 1) hx hb dX11_append_37 (by decide) ?_
  refine lv_iadd hx hb dX11_append_38 ?_
  refine lv_topi (fun x17 e18 => ?_)
  obtain rfl : x17 = 18 := e18.trans (by decide)
  refine va_put (D := G.1) (ci := 8) (v := .int 18) (ty := .int) (C := RX11) (T := TX11) (N := 8) hx hb hq pin_wsX110 tyX11 tyX11_ok nmX11 hown hE.1.1 hP hD hS 0 rfl rfl 1 (by decide) (hq _ pw_17) (fun _ h9 => h9) rfl (by decide +kernel) rfl rfl (Nat.le_of_ble_eq_true rfl) dX11_append_39 (fun H locs hP hD hS => ?_)
  have hP : va_P G.1 pCl [(h0, .inr (8, [.ref k1, .int 18, .ref k2, .ref k3, .ref k4, .ref k5, .ref k6, .null])), (k1, .inl (G.2.1 1, 5000, .inl f16))] H := hP
  have hD : va_D A [(h0, .inr (8, [.ref k1, .int 18, .ref k2, .ref k3, .ref k4, .ref k5, .ref k6, .null])), (k1, .inl (G.2.1 1, 5000, .inl f16))] := hD
  refine lv_iinc (v := 8) (lv' := [(2, .int 8), (0, .ref h0), (1, .int x)]) hx hb dX11_append_42 hl (k := 0) rfl (by decide) (by decide) rfl (fun ls hl => ?_)
  refine lv_goto (tgt := 3) hx hb dX11_append_45 (by decide) ?_
  refine lv_iload_n hx hb dX11_append_3 rfl (lv_at hl 0 rfl) ?_
  refine lv_if_lt (tgt := 48) hx hb dX11_append_4 (by decide) (fun c19 => absurd c19 (by decide)) (fun c19 => ?_)
  refine lv_aload_n hx hb dX11_append_7 rfl (lv_at hl 1 rfl) ?_
  refine va_get (D := G.1) (ci := 8) (v := .int 18) (C := RX11) (T := TX11) (N := 8) hx hb hq pin_wsX110 hown hE.1.1 hP 0 rfl rfl 1 (by decide) (hq _ pw_17) (fun _ h9 => h9) rfl dX11_append_8 ?_
  refine lv_aload_n hx hb dX11_append_11 rfl (lv_at hl 1 rfl) ?_
  refine va_get (D := G.1) (ci := 8) (v := .ref k1) (C := RX11) (T := TX11) (N := 8) hx hb hq pin_wsX110 hown hE.1.1 hP 0 rfl rfl 0 (by decide) (hq _ pw_1) (fun _ h9 => h9) rfl dX11_append_12 ?_
  refine va_alen (v := 5000) hx hb hE.1.1 hP 1 1 rfl rfl (show Int32.ofNat 5000 = 5000 from by decide) dX11_append_15 ?_
  refine lv_icmp_ge (tgt := 42) hx hb dX11_append_16 (by decide) (fun c20 => absurd c20 (by decide)) (fun c20 => ?_)
  refine lv_aload_n hx hb dX11_append_19 rfl (lv_at hl 1 rfl) ?_
  refine va_get (D := G.1) (ci := 8) (v := .ref k1) (C := RX11) (T := TX11) (N := 8) hx hb hq pin_wsX110 hown hE.1.1 hP 0 rfl rfl 0 (by decide) (hq _ pw_1) (fun _ h9 => h9) rfl dX11_append_20 ?_
  refine lv_aload_n hx hb dX11_append_23 rfl (lv_at hl 1 rfl) ?_
  refine va_get (D := G.1) (ci := 8) (v := .int 18) (C := RX11) (T := TX11) (N := 8) hx hb hq pin_wsX110 hown hE.1.1 hP 0 rfl rfl 1 (by decide) (hq _ pw_17) (fun _ h9 => h9) rfl dX11_append_24 ?_
  refine lv_iload_n hx hb dX11_append_27 rfl (lv_at hl 2 rfl) ?_
  refine lv_iload_n hx hb dX11_append_28 rfl (lv_at hl 0 rfl) ?_
  refine lv_iushr hx hb dX11_append_29 rfl ?_
  refine lv_topi (fun x21 e22 => ?_)
  refine lv_i2b hx hb dX11_append_30 rfl ?_
  refine lv_topi (fun x23 e24 => ?_)
  refine va_bast hx hb hE.1.1 hP hD hS 1 1 rfl rfl (by unfold vp_in; decide) dX11_append_31 (fun H locs hP hD hS => ?_)
  have hP : va_P G.1 pCl [(h0, .inr (8, [.ref k1, .int 18, .ref k2, .ref k3, .ref k4, .ref k5, .ref k6, .null])), (k1, .inl (G.2.1 1, 5000, .inl (upd f16 (Int32.toNatClampNeg 18) (vp_nar .byte x23))))] H := hP
  have hD : va_D A [(h0, .inr (8, [.ref k1, .int 18, .ref k2, .ref k3, .ref k4, .ref k5, .ref k6, .null])), (k1, .inl (G.2.1 1, 5000, .inl (upd f16 (Int32.toNatClampNeg 18) (vp_nar .byte x23))))] := hD
  generalize (upd f16 (Int32.toNatClampNeg 18) (vp_nar .byte x23)) = f25 at hP hD
  refine lv_aload_n hx hb dX11_append_32 rfl (lv_at hl 1 rfl) ?_
  refine lv_dup hx hb dX11_append_33 rfl ?_
  refine va_get (D := G.1) (ci := 8) (v := .int 18) (C := RX11) (T := TX11) (N := 8) hx hb hq pin_wsX110 hown hE.1.1 hP 0 rfl rfl 1 (by decide) (hq _ pw_17) (fun _ h9 => h9) rfl dX11_append_34 ?_
  refine lv_iconst (v := 1) hx hb dX11_append_37 (by decide) ?_
  refine lv_iadd hx hb dX11_append_38 ?_
  refine lv_topi (fun x26 e27 => ?_)
  obtain rfl : x26 = 19 := e27.trans (by decide)
  refine va_put (D := G.1) (ci := 8) (v := .int 19) (ty := .int) (C := RX11) (T := TX11) (N := 8) hx hb hq pin_wsX110 tyX11 tyX11_ok nmX11 hown hE.1.1 hP hD hS 0 rfl rfl 1 (by decide) (hq _ pw_17) (fun _ h9 => h9) rfl (by decide +kernel) rfl rfl (Nat.le_of_ble_eq_true rfl) dX11_append_39 (fun H locs hP hD hS => ?_)
  have hP : va_P G.1 pCl [(h0, .inr (8, [.ref k1, .int 19, .ref k2, .ref k3, .ref k4, .ref k5, .ref k6, .null])), (k1, .inl (G.2.1 1, 5000, .inl f25))] H := hP
  have hD : va_D A [(h0, .inr (8, [.ref k1, .int 19, .ref k2, .ref k3, .ref k4, .ref k5, .ref k6, .null])), (k1, .inl (G.2.1 1, 5000, .inl f25))] := hD
  refine lv_iinc (v := 0) (lv' := [(2, .int 0), (0, .ref h0), (1, .int x)]) hx hb dX11_append_42 hl (k := 0) rfl (by decide) (by decide) rfl (fun ls hl => ?_)
  refine lv_goto (tgt := 3) hx hb dX11_append_45 (by decide) ?_
  refine lv_iload_n hx hb dX11_append_3 rfl (lv_at hl 0 rfl) ?_
  refine lv_if_lt (tgt := 48) hx hb dX11_append_4 (by decide) (fun c28 => absurd c28 (by decide)) (fun c28 => ?_)
  refine lv_aload_n hx hb dX11_append_7 rfl (lv_at hl 1 rfl) ?_
  refine va_get (D := G.1) (ci := 8) (v := .int 19) (C := RX11) (T := TX11) (N := 8) hx hb hq pin_wsX110 hown hE.1.1 hP 0 rfl rfl 1 (by decide) (hq _ pw_17) (fun _ h9 => h9) rfl dX11_append_8 ?_
  refine lv_aload_n hx hb dX11_append_11 rfl (lv_at hl 1 rfl) ?_
  refine va_get (D := G.1) (ci := 8) (v := .ref k1) (C := RX11) (T := TX11) (N := 8) hx hb hq pin_wsX110 hown hE.1.1 hP 0 rfl rfl 0 (by decide) (hq _ pw_1) (fun _ h9 => h9) rfl dX11_append_12 ?_
  refine va_alen (v := 5000) hx hb hE.1.1 hP 1 1 rfl rfl (show Int32.ofNat 5000 = 5000 from by decide) dX11_append_15 ?_
  refine lv_icmp_ge (tgt := 42) hx hb dX11_append_16 (by decide) (fun c29 => absurd c29 (by decide)) (fun c29 => ?_)
  refine lv_aload_n hx hb dX11_append_19 rfl (lv_at hl 1 rfl) ?_
  refine va_get (D := G.1) (ci := 8) (v := .ref k1) (C := RX11) (T := TX11) (N := 8) hx hb hq pin_wsX110 hown hE.1.1 hP 0 rfl rfl 0 (by decide) (hq _ pw_1) (fun _ h9 => h9) rfl dX11_append_20 ?_
  refine lv_aload_n hx hb dX11_append_23 rfl (lv_at hl 1 rfl) ?_
  refine va_get (D := G.1) (ci := 8) (v := .int 19) (C := RX11) (T := TX11) (N := 8) hx hb hq pin_wsX110 hown hE.1.1 hP 0 rfl rfl 1 (by decide) (hq _ pw_17) (fun _ h9 => h9) rfl dX11_append_24 ?_
  refine lv_iload_n hx hb dX11_append_27 rfl (lv_at hl 2 rfl) ?_
  refine lv_iload_n hx hb dX11_append_28 rfl (lv_at hl 0 rfl) ?_
  refine lv_iushr hx hb dX11_append_29 rfl ?_
  refine lv_topi (fun x30 e31 => ?_)
  refine lv_i2b hx hb dX11_append_30 rfl ?_
  refine lv_topi (fun x32 e33 => ?_)
  refine va_bast hx hb hE.1.1 hP hD hS 1 1 rfl rfl (by unfold vp_in; decide) dX11_append_31 (fun H locs hP hD hS => ?_)
  have hP : va_P G.1 pCl [(h0, .inr (8, [.ref k1, .int 19, .ref k2, .ref k3, .ref k4, .ref k5, .ref k6, .null])), (k1, .inl (G.2.1 1, 5000, .inl (upd f25 (Int32.toNatClampNeg 19) (vp_nar .byte x32))))] H := hP
  have hD : va_D A [(h0, .inr (8, [.ref k1, .int 19, .ref k2, .ref k3, .ref k4, .ref k5, .ref k6, .null])), (k1, .inl (G.2.1 1, 5000, .inl (upd f25 (Int32.toNatClampNeg 19) (vp_nar .byte x32))))] := hD
  generalize (upd f25 (Int32.toNatClampNeg 19) (vp_nar .byte x32)) = f34 at hP hD
  refine lv_aload_n hx hb dX11_append_32 rfl (lv_at hl 1 rfl) ?_
  refine lv_dup hx hb dX11_append_33 rfl ?_
  refine va_get (D := G.1) (ci := 8) (v := .int 19) (C := RX11) (T := TX11) (N := 8) hx hb hq pin_wsX110 hown hE.1.1 hP 0 rfl rfl 1 (by decide) (hq _ pw_17) (fun _ h9 => h9) rfl dX11_append_34 ?_
  refine lv_iconst (v := 1) hx hb dX11_append_37 (by decide) ?_
  refine lv_iadd hx hb dX11_append_38 ?_
  refine lv_topi (fun x35 e36 => ?_)
  obtain rfl : x35 = 20 := e36.trans (by decide)
  refine va_put (D := G.1) (ci := 8) (v := .int 20) (ty := .int) (C := RX11) (T := TX11) (N := 8) hx hb hq pin_wsX110 tyX11 tyX11_ok nmX11 hown hE.1.1 hP hD hS 0 rfl rfl 1 (by decide) (hq _ pw_17) (fun _ h9 => h9) rfl (by decide +kernel) rfl rfl (Nat.le_of_ble_eq_true rfl) dX11_append_39 (fun H locs hP hD hS => ?_)
  have hP : va_P G.1 pCl [(h0, .inr (8, [.ref k1, .int 20, .ref k2, .ref k3, .ref k4, .ref k5, .ref k6, .null])), (k1, .inl (G.2.1 1, 5000, .inl f34))] H := hP
  have hD : va_D A [(h0, .inr (8, [.ref k1, .int 20, .ref k2, .ref k3, .ref k4, .ref k5, .ref k6, .null])), (k1, .inl (G.2.1 1, 5000, .inl f34))] := hD
  refine lv_iinc (v := (-8)) (lv' := [(2, .int (-8)), (0, .ref h0), (1, .int x)]) hx hb dX11_append_42 hl (k := 0) rfl (by decide) (by decide) rfl (fun ls hl => ?_)
  refine lv_goto (tgt := 3) hx hb dX11_append_45 (by decide) ?_
  refine lv_iload_n hx hb dX11_append_3 rfl (lv_at hl 0 rfl) ?_
  refine lv_if_lt (tgt := 48) hx hb dX11_append_4 (by decide) (fun c37 => ?_) (fun c37 => absurd (by decide) c37)
  refine W.widen (k := 0) (n := 0) (Nat.le_of_ble_eq_true rfl) (Nat.le_of_ble_eq_true rfl) ?_
  exact W.vret hx hb hr (fun t ht hW => ⟨⟨_, ((fun _ => 0), (fun k => match k with | _ => f34), (fun _ => fun _ => 0)), rfl, rfl, by rw [ht]; exact hP.sub [0, 1] rfl, hD.sub [0, 1] (by decide) rfl⟩, hS.F ht⟩) hS.2.2 dX11_append_48
theorem dX11_feed_0 : decode cX11_feed 0 = .ok (.aload_n 0, 1) := by decide +kernel
theorem dX11_feed_1 : decode cX11_feed 1 = .ok (.getfield 54, 3) := by decide +kernel
theorem dX11_feed_4 : decode cX11_feed 4 = .ok (.bipush 20, 2) := by decide +kernel
theorem dX11_feed_6 : decode cX11_feed 6 = .ok (.iadd, 1) := by decide +kernel
theorem dX11_feed_7 : decode cX11_feed 7 = .ok (.sipush 5000, 3) := by decide +kernel
theorem dX11_feed_10 : decode cX11_feed 10 = .ok (.if_icmp .le 5, 3) := by decide +kernel
theorem dX11_feed_15 : decode cX11_feed 15 = .ok (.aload_n 0, 1) := by decide +kernel
theorem dX11_feed_16 : decode cX11_feed 16 = .ok (.iload_n 1, 1) := by decide +kernel
theorem dX11_feed_17 : decode cX11_feed 17 = .ok (.invokevirtual 58, 3) := by decide +kernel
theorem dX11_feed_20 : decode cX11_feed 20 = .ok (.aload_n 0, 1) := by decide +kernel
theorem dX11_feed_21 : decode cX11_feed 21 = .ok (.iload_n 2, 1) := by decide +kernel
theorem dX11_feed_22 : decode cX11_feed 22 = .ok (.invokevirtual 58, 3) := by decide +kernel
theorem dX11_feed_25 : decode cX11_feed 25 = .ok (.aload_n 0, 1) := by decide +kernel
theorem dX11_feed_26 : decode cX11_feed 26 = .ok (.iload_n 3, 1) := by decide +kernel
theorem dX11_feed_27 : decode cX11_feed 27 = .ok (.invokevirtual 58, 3) := by decide +kernel
theorem dX11_feed_30 : decode cX11_feed 30 = .ok (.aload_n 0, 1) := by decide +kernel
theorem dX11_feed_31 : decode cX11_feed 31 = .ok (.iload 4, 2) := by decide +kernel
theorem dX11_feed_33 : decode cX11_feed 33 = .ok (.invokevirtual 58, 3) := by decide +kernel
theorem dX11_feed_36 : decode cX11_feed 36 = .ok (.aload_n 0, 1) := by decide +kernel
theorem dX11_feed_37 : decode cX11_feed 37 = .ok (.iload 5, 2) := by decide +kernel
theorem dX11_feed_39 : decode cX11_feed 39 = .ok (.invokevirtual 58, 3) := by decide +kernel
theorem dX11_feed_42 : decode cX11_feed 42 = .ok (.aload_n 0, 1) := by decide +kernel
theorem dX11_feed_43 : decode cX11_feed 43 = .ok (.getfield 54, 3) := by decide +kernel
theorem dX11_feed_46 : decode cX11_feed 46 = .ok (.ireturn, 1) := by decide +kernel
theorem hV_X11_append : yX11_append.cls = RX11 ∧ yX11_append.cls ≠ "java/lang/invoke/MethodHandle" ∧ yX11_append.cls ≠ "java/lang/invoke/VarHandle" ∧ (parseMethodDescriptor yX11_append.desc).map (fun d => d.parameters.length) = some 1 := by decide +kernel
set_option maxHeartbeats 1000000 in
set_option maxRecDepth 100000 in
/-- feed on a fresh object: 20 -/
theorem c_feed (l : Launch) (G : pT) (h0 : Nat) (k1 : Nat) (k2 : Nat) (k3 : Nat) (k4 : Nat) (k5 : Nat) (k6 : Nat) (f : Nat → Int32) (x1 : Int32) (x2 : Int32) (x3 : Int32) (x4 : Int32) (x5 : Int32) : PM l G pX0 yX11_feed cX11_feed 6 (some .int) ({ frames := 3, cells := 0, slots := 0, locals := 82 }) [.ref h0, .int x1, .int x2, .int x3, .int x4, .int x5] [(h0, .inr (8, [.ref k1, .int 0, .ref k2, .ref k3, .ref k4, .ref k5, .ref k6, .null])), (k1, .inl (G.2.1 1, 5000, .inl f))] (fun (v : Option Value) (u : (Nat → Nat) × (Nat → Nat → Int32) × (Nat → Nat → Int64)) => v = some (.int 20)) (fun u => []) := by
  intro sz
  refine Met.ofW (cc := cX11_feed) (maxL := 6) (ret := (some .int)) (by decide) rfl ?_
  intro p e s m args below meth c s₁ B hml hv
  obtain ⟨rfl, hsz, hP, hD0, hE, hX⟩ := hv
  have hx := B.exec
  have hb := B.bytes
  have hr := B.returns
  have hts := atoms_spec (ws := Cond.code yX11_feed cX11_feed 6 (some .int) :: pw) B.pre
  have hq : ∀ w ∈ pw, w.before _ s = true := fun w h => hts w (List.mem_cons_of_mem _ h)
  have hown : s.vm.findClass RX11 = some m.cls := findClass_of_methodNamed B.named
  have hlocks := B.notSynchronized
  subst hsz
  have hD := hD0.self (sz := s.heap.size)
  have hA : ∀ q : Nat, s.heap.size ≤ q → va_A [(h0, .inr (8, [.ref k1, .int 0, .ref k2, .ref k3, .ref k4, .ref k5, .ref k6, .null])), (k1, .inl (G.2.1 1, 5000, .inl f))] s.heap.size q := fun q h => Or.inr h
  have hP : va_P G.1 pCl [(h0, .inr (8, [.ref k1, .int 0, .ref k2, .ref k3, .ref k4, .ref k5, .ref k6, .null])), (k1, .inl (G.2.1 1, 5000, .inl f))] s.heap := hP
  generalize va_A [(h0, .inr (8, [.ref k1, .int 0, .ref k2, .ref k3, .ref k4, .ref k5, .ref k6, .null])), (k1, .inl (G.2.1 1, 5000, .inl f))] s.heap.size = A at hD hE hA ⊢
  have hS : va_S A s.heap s.heap [] := va_S.rf
  have hl := lv_entry ([.ref h0, .int x1, .int x2, .int x3, .int x4, .int x5]) (n := 6) (Nat.le_of_ble_eq_true rfl)
  rw [lg_entry_eq]
  generalize (lg_sl ([.ref h0, .int x1, .int x2, .int x3, .int x4, .int x5]) ++ List.replicate (6 - (lg_sl ([.ref h0, .int x1, .int x2, .int x3, .int x4, .int x5])).length) Slot.unset).toArray = ls at hl ⊢
  have hl : lv_has ls 6 [(0, .ref h0), (1, .int x1), (2, .int x2), (3, .int x3), (4, .int x4), (5, .int x5)] := hl
  refine lv_aload_n hx hb dX11_feed_0 rfl (lv_at hl 0 rfl) ?_
  refine va_get (D := G.1) (ci := 8) (v := .int 0) (C := RX11) (T := TX11) (N := 8) hx hb hq pin_wsX110 hown hE.1.1 hP 0 rfl rfl 1 (by decide) (hq _ pw_17) (fun _ h9 => h9) rfl dX11_feed_1 ?_
  refine lv_bipush (v := 20) hx hb dX11_feed_4 (by decide) ?_
  refine lv_iadd hx hb dX11_feed_6 ?_
  refine lv_topi (fun x1 e2 => ?_)
  obtain rfl : x1 = 20 := e2.trans (by decide)
  refine lv_sipush (v := 5000) hx hb dX11_feed_7 (by decide) ?_
  refine lv_icmp_le (tgt := 15) hx hb dX11_feed_10 (by decide) (fun c3 => ?_) (fun c3 => absurd (by decide) c3)
  refine lv_aload_n hx hb dX11_feed_15 rfl (lv_at hl 0 rfl) ?_
  refine lv_iload_n hx hb dX11_feed_16 rfl (lv_at hl 1 rfl) ?_
  refine pc_V (G := G) (As := [.int x1]) (rest := []) (wr := []) hx hb hml hown hq hE hX pX0_al hP hD hS hA hl.1 (c_append_0 l G h0 k1 k2 k3 k4 k5 k6 f x1) (gV pw_18 pw_375 pw_376 pw_370 pw_374) hV_X11_append 0 8 rfl rfl rfl [0, 1] [] rfl rfl (by decide) (by decide) (by decide) rfl (Nat.le_of_ble_eq_true rfl) dX11_feed_17 ⟨Nat.le_of_ble_eq_true rfl, Nat.le_of_ble_eq_true rfl⟩ ⟨Nat.le_of_ble_eq_true rfl, Nat.le_of_ble_eq_true rfl⟩ (fun v6 u4 H locs hw5 hP hD hS => ?_)
  obtain rfl : v6 = none := hw5
  have hP : va_P G.1 pCl [(h0, .inr (8, [.ref k1, .int 4, .ref k2, .ref k3, .ref k4, .ref k5, .ref k6, .null])), (k1, .inl (G.2.1 1, 5000, .inl (u4.2.1 0)))] H := hP
  have hD : va_D A [(h0, .inr (8, [.ref k1, .int 4, .ref k2, .ref k3, .ref k4, .ref k5, .ref k6, .null])), (k1, .inl (G.2.1 1, 5000, .inl (u4.2.1 0)))] := hD
  generalize u4.2.1 0 = f7 at hP hD
  refine W.widen (k := 0) (n := 0) (Nat.le_of_ble_eq_true rfl) (Nat.le_of_ble_eq_true rfl) ?_
  refine W.eq (g2 := F0 m 20 ls []) rfl ?_
  refine lv_aload_n hx hb dX11_feed_20 rfl (lv_at hl 0 rfl) ?_
  refine lv_iload_n hx hb dX11_feed_21 rfl (lv_at hl 2 rfl) ?_
  refine pc_V (G := G) (As := [.int x2]) (rest := []) (wr := []) hx hb hml hown hq hE hX pX0_al hP hD hS hA hl.1 (c_append_4 l G h0 k1 k2 k3 k4 k5 k6 f7 x2) (gV pw_18 pw_375 pw_376 pw_370 pw_374) hV_X11_append 0 8 rfl rfl rfl [0, 1] [] rfl rfl (by decide) (by decide) (by decide) rfl (Nat.le_of_ble_eq_true rfl) dX11_feed_22 ⟨Nat.le_of_ble_eq_true rfl, Nat.le_of_ble_eq_true rfl⟩ ⟨Nat.le_of_ble_eq_true rfl, Nat.le_of_ble_eq_true rfl⟩ (fun v10 u8 H locs hw9 hP hD hS => ?_)
  obtain rfl : v10 = none := hw9
  have hP : va_P G.1 pCl [(h0, .inr (8, [.ref k1, .int 8, .ref k2, .ref k3, .ref k4, .ref k5, .ref k6, .null])), (k1, .inl (G.2.1 1, 5000, .inl (u8.2.1 0)))] H := hP
  have hD : va_D A [(h0, .inr (8, [.ref k1, .int 8, .ref k2, .ref k3, .ref k4, .ref k5, .ref k6, .null])), (k1, .inl (G.2.1 1, 5000, .inl (u8.2.1 0)))] := hD
  generalize u8.2.1 0 = f11 at hP hD
  refine W.widen (k := 0) (n := 0) (Nat.le_of_ble_eq_true rfl) (Nat.le_of_ble_eq_true rfl) ?_
  refine W.eq (g2 := F0 m 25 ls []) rfl ?_
  refine lv_aload_n hx hb dX11_feed_25 rfl (lv_at hl 0 rfl) ?_
  refine lv_iload_n hx hb dX11_feed_26 rfl (lv_at hl 3 rfl) ?_
  refine pc_V (G := G) (As := [.int x3]) (rest := []) (wr := []) hx hb hml hown hq hE hX pX0_al hP hD hS hA hl.1 (c_append_8 l G h0 k1 k2 k3 k4 k5 k6 f11 x3) (gV pw_18 pw_375 pw_376 pw_370 pw_374) hV_X11_append 0 8 rfl rfl rfl [0, 1] [] rfl rfl (by decide) (by decide) (by decide) rfl (Nat.le_of_ble_eq_true rfl) dX11_feed_27 ⟨Nat.le_of_ble_eq_true rfl, Nat.le_of_ble_eq_true rfl⟩ ⟨Nat.le_of_ble_eq_true rfl, Nat.le_of_ble_eq_true rfl⟩ (fun v14 u12 H locs hw13 hP hD hS => ?_)
  obtain rfl : v14 = none := hw13
  have hP : va_P G.1 pCl [(h0, .inr (8, [.ref k1, .int 12, .ref k2, .ref k3, .ref k4, .ref k5, .ref k6, .null])), (k1, .inl (G.2.1 1, 5000, .inl (u12.2.1 0)))] H := hP
  have hD : va_D A [(h0, .inr (8, [.ref k1, .int 12, .ref k2, .ref k3, .ref k4, .ref k5, .ref k6, .null])), (k1, .inl (G.2.1 1, 5000, .inl (u12.2.1 0)))] := hD
  generalize u12.2.1 0 = f15 at hP hD
  refine W.widen (k := 0) (n := 0) (Nat.le_of_ble_eq_true rfl) (Nat.le_of_ble_eq_true rfl) ?_
  refine W.eq (g2 := F0 m 30 ls []) rfl ?_
  refine lv_aload_n hx hb dX11_feed_30 rfl (lv_at hl 0 rfl) ?_
  refine lv_iload hx hb dX11_feed_31 (lv_at hl 4 rfl) ?_
  refine pc_V (G := G) (As := [.int x4]) (rest := []) (wr := []) hx hb hml hown hq hE hX pX0_al hP hD hS hA hl.1 (c_append_12 l G h0 k1 k2 k3 k4 k5 k6 f15 x4) (gV pw_18 pw_375 pw_376 pw_370 pw_374) hV_X11_append 0 8 rfl rfl rfl [0, 1] [] rfl rfl (by decide) (by decide) (by decide) rfl (Nat.le_of_ble_eq_true rfl) dX11_feed_33 ⟨Nat.le_of_ble_eq_true rfl, Nat.le_of_ble_eq_true rfl⟩ ⟨Nat.le_of_ble_eq_true rfl, Nat.le_of_ble_eq_true rfl⟩ (fun v18 u16 H locs hw17 hP hD hS => ?_)
  obtain rfl : v18 = none := hw17
  have hP : va_P G.1 pCl [(h0, .inr (8, [.ref k1, .int 16, .ref k2, .ref k3, .ref k4, .ref k5, .ref k6, .null])), (k1, .inl (G.2.1 1, 5000, .inl (u16.2.1 0)))] H := hP
  have hD : va_D A [(h0, .inr (8, [.ref k1, .int 16, .ref k2, .ref k3, .ref k4, .ref k5, .ref k6, .null])), (k1, .inl (G.2.1 1, 5000, .inl (u16.2.1 0)))] := hD
  generalize u16.2.1 0 = f19 at hP hD
  refine W.widen (k := 0) (n := 0) (Nat.le_of_ble_eq_true rfl) (Nat.le_of_ble_eq_true rfl) ?_
  refine W.eq (g2 := F0 m 36 ls []) rfl ?_
  refine lv_aload_n hx hb dX11_feed_36 rfl (lv_at hl 0 rfl) ?_
  refine lv_iload hx hb dX11_feed_37 (lv_at hl 5 rfl) ?_
  refine pc_V (G := G) (As := [.int x5]) (rest := []) (wr := []) hx hb hml hown hq hE hX pX0_al hP hD hS hA hl.1 (c_append_16 l G h0 k1 k2 k3 k4 k5 k6 f19 x5) (gV pw_18 pw_375 pw_376 pw_370 pw_374) hV_X11_append 0 8 rfl rfl rfl [0, 1] [] rfl rfl (by decide) (by decide) (by decide) rfl (Nat.le_of_ble_eq_true rfl) dX11_feed_39 ⟨Nat.le_of_ble_eq_true rfl, Nat.le_of_ble_eq_true rfl⟩ ⟨Nat.le_of_ble_eq_true rfl, Nat.le_of_ble_eq_true rfl⟩ (fun v22 u20 H locs hw21 hP hD hS => ?_)
  obtain rfl : v22 = none := hw21
  have hP : va_P G.1 pCl [(h0, .inr (8, [.ref k1, .int 20, .ref k2, .ref k3, .ref k4, .ref k5, .ref k6, .null])), (k1, .inl (G.2.1 1, 5000, .inl (u20.2.1 0)))] H := hP
  have hD : va_D A [(h0, .inr (8, [.ref k1, .int 20, .ref k2, .ref k3, .ref k4, .ref k5, .ref k6, .null])), (k1, .inl (G.2.1 1, 5000, .inl (u20.2.1 0)))] := hD
  generalize u20.2.1 0 = f23 at hP hD
  refine W.widen (k := 0) (n := 0) (Nat.le_of_ble_eq_true rfl) (Nat.le_of_ble_eq_true rfl) ?_
  refine W.eq (g2 := F0 m 42 ls []) rfl ?_
  refine lv_aload_n hx hb dX11_feed_42 rfl (lv_at hl 0 rfl) ?_
  refine va_get (D := G.1) (ci := 8) (v := .int 20) (C := RX11) (T := TX11) (N := 8) hx hb hq pin_wsX110 hown hE.1.1 hP 0 rfl rfl 1 (by decide) (hq _ pw_17) (fun _ h9 => h9) rfl dX11_feed_43 ?_
  refine W.widen (k := 0) (n := 0) (Nat.le_of_ble_eq_true rfl) (Nat.le_of_ble_eq_true rfl) ?_
  exact W.iret (v := 20) hx hb hr (fun t ht hW => ⟨⟨_, ((fun _ => 0), (fun _ => fun _ => 0), (fun _ => fun _ => 0)), rfl, rfl, by rw [ht]; exact hP.sub [] rfl, hD.sub [] (by decide) rfl⟩, hS.F ht⟩) hS.2.2 dX11_feed_46
theorem dX11_declared_0 : decode cX11_declared 0 = .ok (.aload_n 0, 1) := by decide +kernel
theorem dX11_declared_1 : decode cX11_declared 1 = .ok (.getfield 69, 3) := by decide +kernel
theorem dX11_declared_4 : decode cX11_declared 4 = .ok (.ifnonnull 7, 3) := by decide +kernel
theorem dX11_declared_7 : decode cX11_declared 7 = .ok (.aconst_null, 1) := by decide +kernel
theorem dX11_declared_8 : decode cX11_declared 8 = .ok (.goto 11, 3) := by decide +kernel
theorem dX11_declared_19 : decode cX11_declared 19 = .ok (.areturn, 1) := by decide +kernel
set_option maxHeartbeats 1000000 in
set_option maxRecDepth 100000 in
/-- declared(k) without a program: null -/
theorem c_declared (l : Launch) (G : pT) (h0 : Nat) (k1 : Nat) (k2 : Nat) (k3 : Nat) (k4 : Nat) (k5 : Nat) (k6 : Nat) (x : Int32) : PM l G pX0 yX11_declared cX11_declared 2 (some (.object "JinjaTongue$Decl")) ({ frames := 2, cells := 0, slots := 0, locals := 60 }) [.ref h0, .int x] [(h0, .inr (8, [.ref k1, .int 0, .ref k2, .ref k3, .ref k4, .ref k5, .ref k6, .null]))] (fun (v : Option Value) (u : (Nat → Nat) × (Nat → Nat → Int32) × (Nat → Nat → Int64)) => v = some (.null)) (fun u => [(h0, .inr (8, [.ref k1, .int 0, .ref k2, .ref k3, .ref k4, .ref k5, .ref k6, .null]))]) := by
  intro sz
  refine Met.ofW (cc := cX11_declared) (maxL := 2) (ret := (some (.object "JinjaTongue$Decl"))) (by decide) rfl ?_
  intro p e s m args below meth c s₁ B hml hv
  obtain ⟨rfl, hsz, hP, hD0, hE, hX⟩ := hv
  have hx := B.exec
  have hb := B.bytes
  have hr := B.returns
  have hts := atoms_spec (ws := Cond.code yX11_declared cX11_declared 2 (some (.object "JinjaTongue$Decl")) :: pw) B.pre
  have hq : ∀ w ∈ pw, w.before _ s = true := fun w h => hts w (List.mem_cons_of_mem _ h)
  have hown : s.vm.findClass RX11 = some m.cls := findClass_of_methodNamed B.named
  have hlocks := B.notSynchronized
  subst hsz
  have hD := hD0.self (sz := s.heap.size)
  have hA : ∀ q : Nat, s.heap.size ≤ q → va_A [(h0, .inr (8, [.ref k1, .int 0, .ref k2, .ref k3, .ref k4, .ref k5, .ref k6, .null]))] s.heap.size q := fun q h => Or.inr h
  have hP : va_P G.1 pCl [(h0, .inr (8, [.ref k1, .int 0, .ref k2, .ref k3, .ref k4, .ref k5, .ref k6, .null]))] s.heap := hP
  generalize va_A [(h0, .inr (8, [.ref k1, .int 0, .ref k2, .ref k3, .ref k4, .ref k5, .ref k6, .null]))] s.heap.size = A at hD hE hA ⊢
  have hS : va_S A s.heap s.heap [] := va_S.rf
  have hl := lv_entry ([.ref h0, .int x]) (n := 2) (Nat.le_of_ble_eq_true rfl)
  rw [lg_entry_eq]
  generalize (lg_sl ([.ref h0, .int x]) ++ List.replicate (2 - (lg_sl ([.ref h0, .int x])).length) Slot.unset).toArray = ls at hl ⊢
  have hl : lv_has ls 2 [(0, .ref h0), (1, .int x)] := hl
  refine lv_aload_n hx hb dX11_declared_0 rfl (lv_at hl 0 rfl) ?_
  refine va_get (D := G.1) (ci := 8) (v := .null) (C := RX11) (T := TX11) (N := 8) hx hb hq pin_wsX110 hown hE.1.1 hP 0 rfl rfl 7 (by decide) (hq _ pw_21) (fun _ h9 => h9) rfl dX11_declared_1 ?_
  refine lv_ifnonnullN hx hb dX11_declared_4 ?_
  refine lv_null hx hb dX11_declared_7 ?_
  refine lv_goto (tgt := 19) hx hb dX11_declared_8 (by decide) ?_
  refine W.widen (k := 0) (n := 0) (Nat.le_of_ble_eq_true rfl) (Nat.le_of_ble_eq_true rfl) ?_
  exact W.aret (v := .null) hx hb hr (Or.inl ⟨_, rfl⟩) (Or.inl rfl) (fun t ht hW => ⟨⟨_, ((fun _ => 0), (fun _ => fun _ => 0), (fun _ => fun _ => 0)), rfl, rfl, by rw [ht]; exact hP.sub [0] rfl, hD.sub [0] (by decide) rfl⟩, hS.F ht⟩) hS.2.2 dX11_declared_19
theorem dX11_type_0 : decode cX11_type 0 = .ok (.aload_n 0, 1) := by decide +kernel
theorem dX11_type_1 : decode cX11_type 1 = .ok (.iload_n 1, 1) := by decide +kernel
theorem dX11_type_2 : decode cX11_type 2 = .ok (.invokevirtual 95, 3) := by decide +kernel
theorem dX11_type_5 : decode cX11_type 5 = .ok (.astore_n 3, 1) := by decide +kernel
theorem dX11_type_6 : decode cX11_type 6 = .ok (.aload_n 3, 1) := by decide +kernel
theorem dX11_type_7 : decode cX11_type 7 = .ok (.ifnonnull 5, 3) := by decide +kernel
theorem dX11_type_10 : decode cX11_type 10 = .ok (.iconst (-1), 1) := by decide +kernel
theorem dX11_type_11 : decode cX11_type 11 = .ok (.ireturn, 1) := by decide +kernel
theorem hV_X11_declared : yX11_declared.cls = RX11 ∧ yX11_declared.cls ≠ "java/lang/invoke/MethodHandle" ∧ yX11_declared.cls ≠ "java/lang/invoke/VarHandle" ∧ (parseMethodDescriptor yX11_declared.desc).map (fun d => d.parameters.length) = some 1 := by decide +kernel
set_option maxHeartbeats 1000000 in
set_option maxRecDepth 100000 in
/-- type without a program: NONE -/
theorem c_type (l : Launch) (G : pT) (h0 : Nat) (k1 : Nat) (k2 : Nat) (k3 : Nat) (k4 : Nat) (k5 : Nat) (k6 : Nat) (x : Int32) (y : Int32) : PM l G pX0 yX11_type cX11_type 4 (some .int) ({ frames := 3, cells := 0, slots := 0, locals := 81 }) [.ref h0, .int x, .int y] [(h0, .inr (8, [.ref k1, .int 0, .ref k2, .ref k3, .ref k4, .ref k5, .ref k6, .null]))] (fun (v : Option Value) (u : (Nat → Nat) × (Nat → Nat → Int32) × (Nat → Nat → Int64)) => v = some (.int (-1))) (fun u => []) := by
  intro sz
  refine Met.ofW (cc := cX11_type) (maxL := 4) (ret := (some .int)) (by decide) rfl ?_
  intro p e s m args below meth c s₁ B hml hv
  obtain ⟨rfl, hsz, hP, hD0, hE, hX⟩ := hv
  have hx := B.exec
  have hb := B.bytes
  have hr := B.returns
  have hts := atoms_spec (ws := Cond.code yX11_type cX11_type 4 (some .int) :: pw) B.pre
  have hq : ∀ w ∈ pw, w.before _ s = true := fun w h => hts w (List.mem_cons_of_mem _ h)
  have hown : s.vm.findClass RX11 = some m.cls := findClass_of_methodNamed B.named
  have hlocks := B.notSynchronized
  subst hsz
  have hD := hD0.self (sz := s.heap.size)
  have hA : ∀ q : Nat, s.heap.size ≤ q → va_A [(h0, .inr (8, [.ref k1, .int 0, .ref k2, .ref k3, .ref k4, .ref k5, .ref k6, .null]))] s.heap.size q := fun q h => Or.inr h
  have hP : va_P G.1 pCl [(h0, .inr (8, [.ref k1, .int 0, .ref k2, .ref k3, .ref k4, .ref k5, .ref k6, .null]))] s.heap := hP
  generalize va_A [(h0, .inr (8, [.ref k1, .int 0, .ref k2, .ref k3, .ref k4, .ref k5, .ref k6, .null]))] s.heap.size = A at hD hE hA ⊢
  have hS : va_S A s.heap s.heap [] := va_S.rf
  have hl := lv_entry ([.ref h0, .int x, .int y]) (n := 4) (Nat.le_of_ble_eq_true rfl)
  rw [lg_entry_eq]
  generalize (lg_sl ([.ref h0, .int x, .int y]) ++ List.replicate (4 - (lg_sl ([.ref h0, .int x, .int y])).length) Slot.unset).toArray = ls at hl ⊢
  have hl : lv_has ls 4 [(0, .ref h0), (1, .int x), (2, .int y)] := hl
  refine lv_aload_n hx hb dX11_type_0 rfl (lv_at hl 0 rfl) ?_
  refine lv_iload_n hx hb dX11_type_1 rfl (lv_at hl 1 rfl) ?_
  refine pc_V (G := G) (As := [.int x]) (rest := []) (wr := []) hx hb hml hown hq hE hX pX0_al hP hD hS hA hl.1 (c_declared l G h0 k1 k2 k3 k4 k5 k6 x) (gV pw_28 pw_384 pw_385 pw_370 pw_383) hV_X11_declared 0 8 rfl rfl rfl [0] [] rfl rfl (by decide) (by decide) (by decide) rfl (Nat.le_of_ble_eq_true rfl) dX11_type_2 ⟨Nat.le_of_ble_eq_true rfl, Nat.le_of_ble_eq_true rfl⟩ ⟨Nat.le_of_ble_eq_true rfl, Nat.le_of_ble_eq_true rfl⟩ (fun v3 u1 H locs hw2 hP hD hS => ?_)
  obtain rfl : v3 = some (.null) := hw2
  have hP : va_P G.1 pCl [(h0, .inr (8, [.ref k1, .int 0, .ref k2, .ref k3, .ref k4, .ref k5, .ref k6, .null]))] H := hP
  have hD : va_D A [(h0, .inr (8, [.ref k1, .int 0, .ref k2, .ref k3, .ref k4, .ref k5, .ref k6, .null]))] := hD
  refine W.widen (k := 0) (n := 0) (Nat.le_of_ble_eq_true rfl) (Nat.le_of_ble_eq_true rfl) ?_
  refine W.eq (g2 := F0 m 5 ls [.null]) rfl ?_
  refine lv_astore_nN (lv' := [(3, .null), (0, .ref h0), (1, .int x), (2, .int y)]) hx hb dX11_type_5 rfl hl (by decide) rfl (fun ls hl => ?_)
  refine lv_aload_nN hx hb dX11_type_6 rfl (lv_at hl 0 rfl) ?_
  refine lv_ifnonnullN hx hb dX11_type_7 ?_
  refine lv_iconst (v := (-1)) hx hb dX11_type_10 (by decide) ?_
  refine W.widen (k := 0) (n := 0) (Nat.le_of_ble_eq_true rfl) (Nat.le_of_ble_eq_true rfl) ?_
  exact W.iret (v := (-1)) hx hb hr (fun t ht hW => ⟨⟨_, ((fun _ => 0), (fun _ => fun _ => 0), (fun _ => fun _ => 0)), rfl, rfl, by rw [ht]; exact hP.sub [] rfl, hD.sub [] (by decide) rfl⟩, hS.F ht⟩) hS.2.2 dX11_type_11
theorem dX11_above_0 : decode cX11_above 0 = .ok (.aload_n 0, 1) := by decide +kernel
theorem dX11_above_1 : decode cX11_above 1 = .ok (.iload_n 1, 1) := by decide +kernel
theorem dX11_above_2 : decode cX11_above 2 = .ok (.invokevirtual 95, 3) := by decide +kernel
theorem dX11_above_5 : decode cX11_above 5 = .ok (.ifnull 11, 3) := by decide +kernel
theorem dX11_above_16 : decode cX11_above 16 = .ok (.iconst (-1), 1) := by decide +kernel
theorem dX11_above_17 : decode cX11_above 17 = .ok (.ireturn, 1) := by decide +kernel
set_option maxHeartbeats 1000000 in
set_option maxRecDepth 100000 in
/-- above without a program: NONE -/
theorem c_above (l : Launch) (G : pT) (h0 : Nat) (k1 : Nat) (k2 : Nat) (k3 : Nat) (k4 : Nat) (k5 : Nat) (k6 : Nat) (x : Int32) (y : Int32) : PM l G pX0 yX11_above cX11_above 3 (some .int) ({ frames := 3, cells := 0, slots := 0, locals := 81 }) [.ref h0, .int x, .int y] [(h0, .inr (8, [.ref k1, .int 0, .ref k2, .ref k3, .ref k4, .ref k5, .ref k6, .null]))] (fun (v : Option Value) (u : (Nat → Nat) × (Nat → Nat → Int32) × (Nat → Nat → Int64)) => v = some (.int (-1))) (fun u => []) := by
  intro sz
  refine Met.ofW (cc := cX11_above) (maxL := 3) (ret := (some .int)) (by decide) rfl ?_
  intro p e s m args below meth c s₁ B hml hv
  obtain ⟨rfl, hsz, hP, hD0, hE, hX⟩ := hv
  have hx := B.exec
  have hb := B.bytes
  have hr := B.returns
  have hts := atoms_spec (ws := Cond.code yX11_above cX11_above 3 (some .int) :: pw) B.pre
  have hq : ∀ w ∈ pw, w.before _ s = true := fun w h => hts w (List.mem_cons_of_mem _ h)
  have hown : s.vm.findClass RX11 = some m.cls := findClass_of_methodNamed B.named
  have hlocks := B.notSynchronized
  subst hsz
  have hD := hD0.self (sz := s.heap.size)
  have hA : ∀ q : Nat, s.heap.size ≤ q → va_A [(h0, .inr (8, [.ref k1, .int 0, .ref k2, .ref k3, .ref k4, .ref k5, .ref k6, .null]))] s.heap.size q := fun q h => Or.inr h
  have hP : va_P G.1 pCl [(h0, .inr (8, [.ref k1, .int 0, .ref k2, .ref k3, .ref k4, .ref k5, .ref k6, .null]))] s.heap := hP
  generalize va_A [(h0, .inr (8, [.ref k1, .int 0, .ref k2, .ref k3, .ref k4, .ref k5, .ref k6, .null]))] s.heap.size = A at hD hE hA ⊢
  have hS : va_S A s.heap s.heap [] := va_S.rf
  have hl := lv_entry ([.ref h0, .int x, .int y]) (n := 3) (Nat.le_of_ble_eq_true rfl)
  rw [lg_entry_eq]
  generalize (lg_sl ([.ref h0, .int x, .int y]) ++ List.replicate (3 - (lg_sl ([.ref h0, .int x, .int y])).length) Slot.unset).toArray = ls at hl ⊢
  have hl : lv_has ls 3 [(0, .ref h0), (1, .int x), (2, .int y)] := hl
  refine lv_aload_n hx hb dX11_above_0 rfl (lv_at hl 0 rfl) ?_
  refine lv_iload_n hx hb dX11_above_1 rfl (lv_at hl 1 rfl) ?_
  refine pc_V (G := G) (As := [.int x]) (rest := []) (wr := []) hx hb hml hown hq hE hX pX0_al hP hD hS hA hl.1 (c_declared l G h0 k1 k2 k3 k4 k5 k6 x) (gV pw_28 pw_384 pw_385 pw_370 pw_383) hV_X11_declared 0 8 rfl rfl rfl [0] [] rfl rfl (by decide) (by decide) (by decide) rfl (Nat.le_of_ble_eq_true rfl) dX11_above_2 ⟨Nat.le_of_ble_eq_true rfl, Nat.le_of_ble_eq_true rfl⟩ ⟨Nat.le_of_ble_eq_true rfl, Nat.le_of_ble_eq_true rfl⟩ (fun v3 u1 H locs hw2 hP hD hS => ?_)
  obtain rfl : v3 = some (.null) := hw2
  have hP : va_P G.1 pCl [(h0, .inr (8, [.ref k1, .int 0, .ref k2, .ref k3, .ref k4, .ref k5, .ref k6, .null]))] H := hP
  have hD : va_D A [(h0, .inr (8, [.ref k1, .int 0, .ref k2, .ref k3, .ref k4, .ref k5, .ref k6, .null]))] := hD
  refine W.widen (k := 0) (n := 0) (Nat.le_of_ble_eq_true rfl) (Nat.le_of_ble_eq_true rfl) ?_
  refine W.eq (g2 := F0 m 5 ls [.null]) rfl ?_
  refine lv_ifnullN (tgt := 16) hx hb dX11_above_5 (by decide) ?_
  refine lv_iconst (v := (-1)) hx hb dX11_above_16 (by decide) ?_
  refine W.widen (k := 0) (n := 0) (Nat.le_of_ble_eq_true rfl) (Nat.le_of_ble_eq_true rfl) ?_
  exact W.iret (v := (-1)) hx hb hr (fun t ht hW => ⟨⟨_, ((fun _ => 0), (fun _ => fun _ => 0), (fun _ => fun _ => 0)), rfl, rfl, by rw [ht]; exact hP.sub [] rfl, hD.sub [] (by decide) rfl⟩, hS.F ht⟩) hS.2.2 dX11_above_17
theorem dX11_letter_0 : decode cX11_letter 0 = .ok (.aload_n 0, 1) := by decide +kernel
theorem dX11_letter_1 : decode cX11_letter 1 = .ok (.iload_n 1, 1) := by decide +kernel
theorem dX11_letter_2 : decode cX11_letter 2 = .ok (.invokevirtual 95, 3) := by decide +kernel
theorem dX11_letter_5 : decode cX11_letter 5 = .ok (.astore_n 3, 1) := by decide +kernel
theorem dX11_letter_6 : decode cX11_letter 6 = .ok (.aload_n 3, 1) := by decide +kernel
theorem dX11_letter_7 : decode cX11_letter 7 = .ok (.ifnonnull 7, 3) := by decide +kernel
theorem dX11_letter_10 : decode cX11_letter 10 = .ok (.iconst (-1), 1) := by decide +kernel
theorem dX11_letter_11 : decode cX11_letter 11 = .ok (.goto 15, 3) := by decide +kernel
theorem dX11_letter_26 : decode cX11_letter 26 = .ok (.ireturn, 1) := by decide +kernel
set_option maxHeartbeats 1000000 in
set_option maxRecDepth 100000 in
/-- letter without a program: NONE -/
theorem c_letter (l : Launch) (G : pT) (h0 : Nat) (k1 : Nat) (k2 : Nat) (k3 : Nat) (k4 : Nat) (k5 : Nat) (k6 : Nat) (x : Int32) (y : Int32) : PM l G pX0 yX11_letter cX11_letter 4 (some .int) ({ frames := 3, cells := 0, slots := 0, locals := 81 }) [.ref h0, .int x, .int y] [(h0, .inr (8, [.ref k1, .int 0, .ref k2, .ref k3, .ref k4, .ref k5, .ref k6, .null]))] (fun (v : Option Value) (u : (Nat → Nat) × (Nat → Nat → Int32) × (Nat → Nat → Int64)) => v = some (.int (-1))) (fun u => []) := by
  intro sz
  refine Met.ofW (cc := cX11_letter) (maxL := 4) (ret := (some .int)) (by decide) rfl ?_
  intro p e s m args below meth c s₁ B hml hv
  obtain ⟨rfl, hsz, hP, hD0, hE, hX⟩ := hv
  have hx := B.exec
  have hb := B.bytes
  have hr := B.returns
  have hts := atoms_spec (ws := Cond.code yX11_letter cX11_letter 4 (some .int) :: pw) B.pre
  have hq : ∀ w ∈ pw, w.before _ s = true := fun w h => hts w (List.mem_cons_of_mem _ h)
  have hown : s.vm.findClass RX11 = some m.cls := findClass_of_methodNamed B.named
  have hlocks := B.notSynchronized
  subst hsz
  have hD := hD0.self (sz := s.heap.size)
  have hA : ∀ q : Nat, s.heap.size ≤ q → va_A [(h0, .inr (8, [.ref k1, .int 0, .ref k2, .ref k3, .ref k4, .ref k5, .ref k6, .null]))] s.heap.size q := fun q h => Or.inr h
  have hP : va_P G.1 pCl [(h0, .inr (8, [.ref k1, .int 0, .ref k2, .ref k3, .ref k4, .ref k5, .ref k6, .null]))] s.heap := hP
  generalize va_A [(h0, .inr (8, [.ref k1, .int 0, .ref k2, .ref k3, .ref k4, .ref k5, .ref k6, .null]))] s.heap.size = A at hD hE hA ⊢
  have hS : va_S A s.heap s.heap [] := va_S.rf
  have hl := lv_entry ([.ref h0, .int x, .int y]) (n := 4) (Nat.le_of_ble_eq_true rfl)
  rw [lg_entry_eq]
  generalize (lg_sl ([.ref h0, .int x, .int y]) ++ List.replicate (4 - (lg_sl ([.ref h0, .int x, .int y])).length) Slot.unset).toArray = ls at hl ⊢
  have hl : lv_has ls 4 [(0, .ref h0), (1, .int x), (2, .int y)] := hl
  refine lv_aload_n hx hb dX11_letter_0 rfl (lv_at hl 0 rfl) ?_
  refine lv_iload_n hx hb dX11_letter_1 rfl (lv_at hl 1 rfl) ?_
  refine pc_V (G := G) (As := [.int x]) (rest := []) (wr := []) hx hb hml hown hq hE hX pX0_al hP hD hS hA hl.1 (c_declared l G h0 k1 k2 k3 k4 k5 k6 x) (gV pw_28 pw_384 pw_385 pw_370 pw_383) hV_X11_declared 0 8 rfl rfl rfl [0] [] rfl rfl (by decide) (by decide) (by decide) rfl (Nat.le_of_ble_eq_true rfl) dX11_letter_2 ⟨Nat.le_of_ble_eq_true rfl, Nat.le_of_ble_eq_true rfl⟩ ⟨Nat.le_of_ble_eq_true rfl, Nat.le_of_ble_eq_true rfl⟩ (fun v3 u1 H locs hw2 hP hD hS => ?_)
  obtain rfl : v3 = some (.null) := hw2
  have hP : va_P G.1 pCl [(h0, .inr (8, [.ref k1, .int 0, .ref k2, .ref k3, .ref k4, .ref k5, .ref k6, .null]))] H := hP
  have hD : va_D A [(h0, .inr (8, [.ref k1, .int 0, .ref k2, .ref k3, .ref k4, .ref k5, .ref k6, .null]))] := hD
  refine W.widen (k := 0) (n := 0) (Nat.le_of_ble_eq_true rfl) (Nat.le_of_ble_eq_true rfl) ?_
  refine W.eq (g2 := F0 m 5 ls [.null]) rfl ?_
  refine lv_astore_nN (lv' := [(3, .null), (0, .ref h0), (1, .int x), (2, .int y)]) hx hb dX11_letter_5 rfl hl (by decide) rfl (fun ls hl => ?_)
  refine lv_aload_nN hx hb dX11_letter_6 rfl (lv_at hl 0 rfl) ?_
  refine lv_ifnonnullN hx hb dX11_letter_7 ?_
  refine lv_iconst (v := (-1)) hx hb dX11_letter_10 (by decide) ?_
  refine lv_goto (tgt := 26) hx hb dX11_letter_11 (by decide) ?_
  refine W.widen (k := 0) (n := 0) (Nat.le_of_ble_eq_true rfl) (Nat.le_of_ble_eq_true rfl) ?_
  exact W.iret (v := (-1)) hx hb hr (fun t ht hW => ⟨⟨_, ((fun _ => 0), (fun _ => fun _ => 0), (fun _ => fun _ => 0)), rfl, rfl, by rw [ht]; exact hP.sub [] rfl, hD.sub [] (by decide) rfl⟩, hS.F ht⟩) hS.2.2 dX11_letter_26
theorem dX11_called_0 : decode cX11_called 0 = .ok (.aload_n 0, 1) := by decide +kernel
theorem dX11_called_1 : decode cX11_called 1 = .ok (.iload_n 1, 1) := by decide +kernel
theorem dX11_called_2 : decode cX11_called 2 = .ok (.invokevirtual 95, 3) := by decide +kernel
theorem dX11_called_5 : decode cX11_called 5 = .ok (.astore_n 3, 1) := by decide +kernel
theorem dX11_called_6 : decode cX11_called 6 = .ok (.aload_n 0, 1) := by decide +kernel
theorem dX11_called_7 : decode cX11_called 7 = .ok (.getfield 69, 3) := by decide +kernel
theorem dX11_called_10 : decode cX11_called 10 = .ok (.ifnonnull 7, 3) := by decide +kernel
theorem dX11_called_13 : decode cX11_called 13 = .ok (.aconst_null, 1) := by decide +kernel
theorem dX11_called_14 : decode cX11_called 14 = .ok (.goto 11, 3) := by decide +kernel
theorem dX11_called_25 : decode cX11_called 25 = .ok (.astore 4, 2) := by decide +kernel
theorem dX11_called_27 : decode cX11_called 27 = .ok (.aload_n 3, 1) := by decide +kernel
theorem dX11_called_28 : decode cX11_called 28 = .ok (.ifnull 15, 3) := by decide +kernel
theorem dX11_called_43 : decode cX11_called 43 = .ok (.iconst (-1), 1) := by decide +kernel
theorem dX11_called_44 : decode cX11_called 44 = .ok (.ireturn, 1) := by decide +kernel
set_option maxHeartbeats 1000000 in
set_option maxRecDepth 100000 in
/-- called without a program: NONE -/
theorem c_called (l : Launch) (G : pT) (h0 : Nat) (k1 : Nat) (k2 : Nat) (k3 : Nat) (k4 : Nat) (k5 : Nat) (k6 : Nat) (x : Int32) (y : Int32) : PM l G pX0 yX11_called cX11_called 6 (some .int) ({ frames := 3, cells := 0, slots := 0, locals := 81 }) [.ref h0, .int x, .int y] [(h0, .inr (8, [.ref k1, .int 0, .ref k2, .ref k3, .ref k4, .ref k5, .ref k6, .null]))] (fun (v : Option Value) (u : (Nat → Nat) × (Nat → Nat → Int32) × (Nat → Nat → Int64)) => v = some (.int (-1))) (fun u => []) := by
  intro sz
  refine Met.ofW (cc := cX11_called) (maxL := 6) (ret := (some .int)) (by decide) rfl ?_
  intro p e s m args below meth c s₁ B hml hv
  obtain ⟨rfl, hsz, hP, hD0, hE, hX⟩ := hv
  have hx := B.exec
  have hb := B.bytes
  have hr := B.returns
  have hts := atoms_spec (ws := Cond.code yX11_called cX11_called 6 (some .int) :: pw) B.pre
  have hq : ∀ w ∈ pw, w.before _ s = true := fun w h => hts w (List.mem_cons_of_mem _ h)
  have hown : s.vm.findClass RX11 = some m.cls := findClass_of_methodNamed B.named
  have hlocks := B.notSynchronized
  subst hsz
  have hD := hD0.self (sz := s.heap.size)
  have hA : ∀ q : Nat, s.heap.size ≤ q → va_A [(h0, .inr (8, [.ref k1, .int 0, .ref k2, .ref k3, .ref k4, .ref k5, .ref k6, .null]))] s.heap.size q := fun q h => Or.inr h
  have hP : va_P G.1 pCl [(h0, .inr (8, [.ref k1, .int 0, .ref k2, .ref k3, .ref k4, .ref k5, .ref k6, .null]))] s.heap := hP
  generalize va_A [(h0, .inr (8, [.ref k1, .int 0, .ref k2, .ref k3, .ref k4, .ref k5, .ref k6, .null]))] s.heap.size = A at hD hE hA ⊢
  have hS : va_S A s.heap s.heap [] := va_S.rf
  have hl := lv_entry ([.ref h0, .int x, .int y]) (n := 6) (Nat.le_of_ble_eq_true rfl)
  rw [lg_entry_eq]
  generalize (lg_sl ([.ref h0, .int x, .int y]) ++ List.replicate (6 - (lg_sl ([.ref h0, .int x, .int y])).length) Slot.unset).toArray = ls at hl ⊢
  have hl : lv_has ls 6 [(0, .ref h0), (1, .int x), (2, .int y)] := hl
  refine lv_aload_n hx hb dX11_called_0 rfl (lv_at hl 0 rfl) ?_
  refine lv_iload_n hx hb dX11_called_1 rfl (lv_at hl 1 rfl) ?_
  refine pc_V (G := G) (As := [.int x]) (rest := []) (wr := []) hx hb hml hown hq hE hX pX0_al hP hD hS hA hl.1 (c_declared l G h0 k1 k2 k3 k4 k5 k6 x) (gV pw_28 pw_384 pw_385 pw_370 pw_383) hV_X11_declared 0 8 rfl rfl rfl [0] [] rfl rfl (by decide) (by decide) (by decide) rfl (Nat.le_of_ble_eq_true rfl) dX11_called_2 ⟨Nat.le_of_ble_eq_true rfl, Nat.le_of_ble_eq_true rfl⟩ ⟨Nat.le_of_ble_eq_true rfl, Nat.le_of_ble_eq_true rfl⟩ (fun v3 u1 H locs hw2 hP hD hS => ?_)
  obtain rfl : v3 = some (.null) := hw2
  have hP : va_P G.1 pCl [(h0, .inr (8, [.ref k1, .int 0, .ref k2, .ref k3, .ref k4, .ref k5, .ref k6, .null]))] H := hP
  have hD : va_D A [(h0, .inr (8, [.ref k1, .int 0, .ref k2, .ref k3, .ref k4, .ref k5, .ref k6, .null]))] := hD
  refine W.widen (k := 0) (n := 0) (Nat.le_of_ble_eq_true rfl) (Nat.le_of_ble_eq_true rfl) ?_
  refine W.eq (g2 := F0 m 5 ls [.null]) rfl ?_
  refine lv_astore_nN (lv' := [(3, .null), (0, .ref h0), (1, .int x), (2, .int y)]) hx hb dX11_called_5 rfl hl (by decide) rfl (fun ls hl => ?_)
  refine lv_aload_n hx hb dX11_called_6 rfl (lv_at hl 1 rfl) ?_
  refine va_get (D := G.1) (ci := 8) (v := .null) (C := RX11) (T := TX11) (N := 8) hx hb hq pin_wsX110 hown hE.1.1 hP 0 rfl rfl 7 (by decide) (hq _ pw_21) (fun _ h9 => h9) rfl dX11_called_7 ?_
  refine lv_ifnonnullN hx hb dX11_called_10 ?_
  refine lv_null hx hb dX11_called_13 ?_
  refine lv_goto (tgt := 25) hx hb dX11_called_14 (by decide) ?_
  refine lv_astoreN (lv' := [(4, .null), (3, .null), (0, .ref h0), (1, .int x), (2, .int y)]) hx hb dX11_called_25 hl (by decide) rfl (fun ls hl => ?_)
  refine lv_aload_nN hx hb dX11_called_27 rfl (lv_at hl 1 rfl) ?_
  refine lv_ifnullN (tgt := 43) hx hb dX11_called_28 (by decide) ?_
  refine lv_iconst (v := (-1)) hx hb dX11_called_43 (by decide) ?_
  refine W.widen (k := 0) (n := 0) (Nat.le_of_ble_eq_true rfl) (Nat.le_of_ble_eq_true rfl) ?_
  exact W.iret (v := (-1)) hx hb hr (fun t ht hW => ⟨⟨_, ((fun _ => 0), (fun _ => fun _ => 0), (fun _ => fun _ => 0)), rfl, rfl, by rw [ht]; exact hP.sub [] rfl, hD.sub [] (by decide) rfl⟩, hS.F ht⟩) hS.2.2 dX11_called_44
theorem dX5_takeInput_0 : decode cX5_takeInput 0 = .ok (.aload_n 0, 1) := by decide +kernel
theorem dX5_takeInput_1 : decode cX5_takeInput 1 = .ok (.getfield 39, 3) := by decide +kernel
theorem dX5_takeInput_4 : decode cX5_takeInput 4 = .ok (.sipush 200, 3) := by decide +kernel
theorem dX5_takeInput_7 : decode cX5_takeInput 7 = .ok (.if_icmp .lt 5, 3) := by decide +kernel
theorem dX5_takeInput_12 : decode cX5_takeInput 12 = .ok (.aload_n 0, 1) := by decide +kernel
theorem dX5_takeInput_13 : decode cX5_takeInput 13 = .ok (.getfield 30, 3) := by decide +kernel
theorem dX5_takeInput_16 : decode cX5_takeInput 16 = .ok (.aload_n 0, 1) := by decide +kernel
theorem dX5_takeInput_17 : decode cX5_takeInput 17 = .ok (.getfield 39, 3) := by decide +kernel
theorem dX5_takeInput_20 : decode cX5_takeInput 20 = .ok (.iload_n 1, 1) := by decide +kernel
theorem dX5_takeInput_21 : decode cX5_takeInput 21 = .ok (.iastore, 1) := by decide +kernel
theorem dX5_takeInput_22 : decode cX5_takeInput 22 = .ok (.aload_n 0, 1) := by decide +kernel
theorem dX5_takeInput_23 : decode cX5_takeInput 23 = .ok (.dup, 1) := by decide +kernel
theorem dX5_takeInput_24 : decode cX5_takeInput 24 = .ok (.getfield 39, 3) := by decide +kernel
theorem dX5_takeInput_27 : decode cX5_takeInput 27 = .ok (.iconst 1, 1) := by decide +kernel
theorem dX5_takeInput_28 : decode cX5_takeInput 28 = .ok (.iadd, 1) := by decide +kernel
theorem dX5_takeInput_29 : decode cX5_takeInput 29 = .ok (.putfield 39, 3) := by decide +kernel
theorem dX5_takeInput_32 : decode cX5_takeInput 32 = .ok (.aload_n 0, 1) := by decide +kernel
theorem dX5_takeInput_33 : decode cX5_takeInput 33 = .ok (.getfield 39, 3) := by decide +kernel
theorem dX5_takeInput_36 : decode cX5_takeInput 36 = .ok (.ireturn, 1) := by decide +kernel
set_option maxHeartbeats 1000000 in
set_option maxRecDepth 100000 in
/-- takeInput, the first -/
theorem c_takeInput (l : Launch) (G : pT) (k6 : Nat) (m1 : Nat) (m2 : Nat) (m3 : Nat) (m4 : Nat) (m5 : Nat) (m6 : Nat) (m7 : Nat) (f : Nat → Int32) (x : Int32) : PM l G pX0 yX5_takeInput cX5_takeInput 2 (some .int) ({ frames := 2, cells := 0, slots := 0, locals := 60 }) [.ref k6, .int x] [(k6, .inr (4, [.ref m1, .ref m2, .ref m3, .ref m4, .ref m5, .int 0, .ref m6, .ref m7, .null, .null, .int 0, .int 0, .int 0, .int 0, .long 0, .int 0, .int 0, .int 0, .int 0])), (m5, .inl (G.2.1 0, 200, .inl f))] (fun (v : Option Value) (u : (Nat → Nat) × (Nat → Nat → Int32) × (Nat → Nat → Int64)) => v = some (.int 1)) (fun u => []) := by
  intro sz
  refine Met.ofW (cc := cX5_takeInput) (maxL := 2) (ret := (some .int)) (by decide) rfl ?_
  intro p e s m args below meth c s₁ B hml hv
  obtain ⟨rfl, hsz, hP, hD0, hE, hX⟩ := hv
  have hx := B.exec
  have hb := B.bytes
  have hr := B.returns
  have hts := atoms_spec (ws := Cond.code yX5_takeInput cX5_takeInput 2 (some .int) :: pw) B.pre
  have hq : ∀ w ∈ pw, w.before _ s = true := fun w h => hts w (List.mem_cons_of_mem _ h)
  have hown : s.vm.findClass RX5 = some m.cls := findClass_of_methodNamed B.named
  have hlocks := B.notSynchronized
  subst hsz
  have hD := hD0.self (sz := s.heap.size)
  have hA : ∀ q : Nat, s.heap.size ≤ q → va_A [(k6, .inr (4, [.ref m1, .ref m2, .ref m3, .ref m4, .ref m5, .int 0, .ref m6, .ref m7, .null, .null, .int 0, .int 0, .int 0, .int 0, .long 0, .int 0, .int 0, .int 0, .int 0])), (m5, .inl (G.2.1 0, 200, .inl f))] s.heap.size q := fun q h => Or.inr h
  have hP : va_P G.1 pCl [(k6, .inr (4, [.ref m1, .ref m2, .ref m3, .ref m4, .ref m5, .int 0, .ref m6, .ref m7, .null, .null, .int 0, .int 0, .int 0, .int 0, .long 0, .int 0, .int 0, .int 0, .int 0])), (m5, .inl (G.2.1 0, 200, .inl f))] s.heap := hP
  generalize va_A [(k6, .inr (4, [.ref m1, .ref m2, .ref m3, .ref m4, .ref m5, .int 0, .ref m6, .ref m7, .null, .null, .int 0, .int 0, .int 0, .int 0, .long 0, .int 0, .int 0, .int 0, .int 0])), (m5, .inl (G.2.1 0, 200, .inl f))] s.heap.size = A at hD hE hA ⊢
  have hS : va_S A s.heap s.heap [] := va_S.rf
  have hl := lv_entry ([.ref k6, .int x]) (n := 2) (Nat.le_of_ble_eq_true rfl)
  rw [lg_entry_eq]
  generalize (lg_sl ([.ref k6, .int x]) ++ List.replicate (2 - (lg_sl ([.ref k6, .int x])).length) Slot.unset).toArray = ls at hl ⊢
  have hl : lv_has ls 2 [(0, .ref k6), (1, .int x)] := hl
  refine lv_aload_n hx hb dX5_takeInput_0 rfl (lv_at hl 0 rfl) ?_
  refine va_get (D := G.1) (ci := 4) (v := .int 0) (C := RX5) (T := TX5) (N := 19) hx hb hq pin_wsX50 hown hE.1.1 hP 0 rfl rfl 5 (by decide) (hq _ pw_116) (fun _ h9 => h9) rfl dX5_takeInput_1 ?_
  refine lv_sipush (v := 200) hx hb dX5_takeInput_4 (by decide) ?_
  refine lv_icmp_lt (tgt := 12) hx hb dX5_takeInput_7 (by decide) (fun c1 => ?_) (fun c1 => absurd (by decide) c1)
  refine lv_aload_n hx hb dX5_takeInput_12 rfl (lv_at hl 0 rfl) ?_
  refine va_get (D := G.1) (ci := 4) (v := .ref m5) (C := RX5) (T := TX5) (N := 19) hx hb hq pin_wsX50 hown hE.1.1 hP 0 rfl rfl 4 (by decide) (hq _ pw_113) (fun _ h9 => h9) rfl dX5_takeInput_13 ?_
  refine lv_aload_n hx hb dX5_takeInput_16 rfl (lv_at hl 0 rfl) ?_
  refine va_get (D := G.1) (ci := 4) (v := .int 0) (C := RX5) (T := TX5) (N := 19) hx hb hq pin_wsX50 hown hE.1.1 hP 0 rfl rfl 5 (by decide) (hq _ pw_116) (fun _ h9 => h9) rfl dX5_takeInput_17 ?_
  refine lv_iload_n hx hb dX5_takeInput_20 rfl (lv_at hl 1 rfl) ?_
  refine va_iast hx hb hE.1.1 hP hD hS 1 0 rfl rfl (by unfold vp_in; decide) dX5_takeInput_21 (fun H locs hP hD hS => ?_)
  have hP : va_P G.1 pCl [(k6, .inr (4, [.ref m1, .ref m2, .ref m3, .ref m4, .ref m5, .int 0, .ref m6, .ref m7, .null, .null, .int 0, .int 0, .int 0, .int 0, .long 0, .int 0, .int 0, .int 0, .int 0])), (m5, .inl (G.2.1 0, 200, .inl (upd f (Int32.toNatClampNeg 0) x)))] H := hP
  have hD : va_D A [(k6, .inr (4, [.ref m1, .ref m2, .ref m3, .ref m4, .ref m5, .int 0, .ref m6, .ref m7, .null, .null, .int 0, .int 0, .int 0, .int 0, .long 0, .int 0, .int 0, .int 0, .int 0])), (m5, .inl (G.2.1 0, 200, .inl (upd f (Int32.toNatClampNeg 0) x)))] := hD
  generalize (upd f (Int32.toNatClampNeg 0) x) = f2 at hP hD
  refine lv_aload_n hx hb dX5_takeInput_22 rfl (lv_at hl 0 rfl) ?_
  refine lv_dup hx hb dX5_takeInput_23 rfl ?_
  refine va_get (D := G.1) (ci := 4) (v := .int 0) (C := RX5) (T := TX5) (N := 19) hx hb hq pin_wsX50 hown hE.1.1 hP 0 rfl rfl 5 (by decide) (hq _ pw_116) (fun _ h9 => h9) rfl dX5_takeInput_24 ?_
  refine lv_iconst (v := 1) hx hb dX5_takeInput_27 (by decide) ?_
  refine lv_iadd hx hb dX5_takeInput_28 ?_
  refine lv_topi (fun x3 e4 => ?_)
  obtain rfl : x3 = 1 := e4.trans (by decide)
  refine va_put (D := G.1) (ci := 4) (v := .int 1) (ty := .int) (C := RX5) (T := TX5) (N := 19) hx hb hq pin_wsX50 tyX5 tyX5_ok nmX5 hown hE.1.1 hP hD hS 0 rfl rfl 5 (by decide) (hq _ pw_116) (fun _ h9 => h9) rfl (by decide +kernel) rfl rfl (Nat.le_of_ble_eq_true rfl) dX5_takeInput_29 (fun H locs hP hD hS => ?_)
  have hP : va_P G.1 pCl [(k6, .inr (4, [.ref m1, .ref m2, .ref m3, .ref m4, .ref m5, .int 1, .ref m6, .ref m7, .null, .null, .int 0, .int 0, .int 0, .int 0, .long 0, .int 0, .int 0, .int 0, .int 0])), (m5, .inl (G.2.1 0, 200, .inl f2))] H := hP
  have hD : va_D A [(k6, .inr (4, [.ref m1, .ref m2, .ref m3, .ref m4, .ref m5, .int 1, .ref m6, .ref m7, .null, .null, .int 0, .int 0, .int 0, .int 0, .long 0, .int 0, .int 0, .int 0, .int 0])), (m5, .inl (G.2.1 0, 200, .inl f2))] := hD
  refine lv_aload_n hx hb dX5_takeInput_32 rfl (lv_at hl 0 rfl) ?_
  refine va_get (D := G.1) (ci := 4) (v := .int 1) (C := RX5) (T := TX5) (N := 19) hx hb hq pin_wsX50 hown hE.1.1 hP 0 rfl rfl 5 (by decide) (hq _ pw_116) (fun _ h9 => h9) rfl dX5_takeInput_33 ?_
  refine W.widen (k := 0) (n := 0) (Nat.le_of_ble_eq_true rfl) (Nat.le_of_ble_eq_true rfl) ?_
  exact W.iret (v := 1) hx hb hr (fun t ht hW => ⟨⟨_, ((fun _ => 0), (fun _ => fun _ => 0), (fun _ => fun _ => 0)), rfl, rfl, by rw [ht]; exact hP.sub [] rfl, hD.sub [] (by decide) rfl⟩, hS.F ht⟩) hS.2.2 dX5_takeInput_36
theorem dX11_input_0 : decode cX11_input 0 = .ok (.aload_n 0, 1) := by decide +kernel
theorem dX11_input_1 : decode cX11_input 1 = .ok (.getfield 50, 3) := by decide +kernel
theorem dX11_input_4 : decode cX11_input 4 = .ok (.iload_n 1, 1) := by decide +kernel
theorem dX11_input_5 : decode cX11_input 5 = .ok (.invokevirtual 159, 3) := by decide +kernel
theorem dX11_input_8 : decode cX11_input 8 = .ok (.ireturn, 1) := by decide +kernel
theorem hV_X5_takeInput : yX5_takeInput.cls = RX5 ∧ yX5_takeInput.cls ≠ "java/lang/invoke/MethodHandle" ∧ yX5_takeInput.cls ≠ "java/lang/invoke/VarHandle" ∧ (parseMethodDescriptor yX5_takeInput.desc).map (fun d => d.parameters.length) = some 1 := by decide +kernel
set_option maxHeartbeats 1000000 in
set_option maxRecDepth 100000 in
/-- input on a fresh object: 1 -/
theorem c_input (l : Launch) (G : pT) (h0 : Nat) (k1 : Nat) (k2 : Nat) (k3 : Nat) (k4 : Nat) (k5 : Nat) (k6 : Nat) (m1 : Nat) (m2 : Nat) (m3 : Nat) (m4 : Nat) (m5 : Nat) (m6 : Nat) (m7 : Nat) (f : Nat → Int32) (x : Int32) : PM l G pX0 yX11_input cX11_input 2 (some .int) ({ frames := 3, cells := 0, slots := 0, locals := 81 }) [.ref h0, .int x] [(h0, .inr (8, [.ref k1, .int 0, .ref k2, .ref k3, .ref k4, .ref k5, .ref k6, .null])), (k6, .inr (4, [.ref m1, .ref m2, .ref m3, .ref m4, .ref m5, .int 0, .ref m6, .ref m7, .null, .null, .int 0, .int 0, .int 0, .int 0, .long 0, .int 0, .int 0, .int 0, .int 0])), (m5, .inl (G.2.1 0, 200, .inl f))] (fun (v : Option Value) (u : (Nat → Nat) × (Nat → Nat → Int32) × (Nat → Nat → Int64)) => v = some (.int 1)) (fun u => []) := by
  intro sz
  refine Met.ofW (cc := cX11_input) (maxL := 2) (ret := (some .int)) (by decide) rfl ?_
  intro p e s m args below meth c s₁ B hml hv
  obtain ⟨rfl, hsz, hP, hD0, hE, hX⟩ := hv
  have hx := B.exec
  have hb := B.bytes
  have hr := B.returns
  have hts := atoms_spec (ws := Cond.code yX11_input cX11_input 2 (some .int) :: pw) B.pre
  have hq : ∀ w ∈ pw, w.before _ s = true := fun w h => hts w (List.mem_cons_of_mem _ h)
  have hown : s.vm.findClass RX11 = some m.cls := findClass_of_methodNamed B.named
  have hlocks := B.notSynchronized
  subst hsz
  have hD := hD0.self (sz := s.heap.size)
  have hA : ∀ q : Nat, s.heap.size ≤ q → va_A [(h0, .inr (8, [.ref k1, .int 0, .ref k2, .ref k3, .ref k4, .ref k5, .ref k6, .null])), (k6, .inr (4, [.ref m1, .ref m2, .ref m3, .ref m4, .ref m5, .int 0, .ref m6, .ref m7, .null, .null, .int 0, .int 0, .int 0, .int 0, .long 0, .int 0, .int 0, .int 0, .int 0])), (m5, .inl (G.2.1 0, 200, .inl f))] s.heap.size q := fun q h => Or.inr h
  have hP : va_P G.1 pCl [(h0, .inr (8, [.ref k1, .int 0, .ref k2, .ref k3, .ref k4, .ref k5, .ref k6, .null])), (k6, .inr (4, [.ref m1, .ref m2, .ref m3, .ref m4, .ref m5, .int 0, .ref m6, .ref m7, .null, .null, .int 0, .int 0, .int 0, .int 0, .long 0, .int 0, .int 0, .int 0, .int 0])), (m5, .inl (G.2.1 0, 200, .inl f))] s.heap := hP
  generalize va_A [(h0, .inr (8, [.ref k1, .int 0, .ref k2, .ref k3, .ref k4, .ref k5, .ref k6, .null])), (k6, .inr (4, [.ref m1, .ref m2, .ref m3, .ref m4, .ref m5, .int 0, .ref m6, .ref m7, .null, .null, .int 0, .int 0, .int 0, .int 0, .long 0, .int 0, .int 0, .int 0, .int 0])), (m5, .inl (G.2.1 0, 200, .inl f))] s.heap.size = A at hD hE hA ⊢
  have hS : va_S A s.heap s.heap [] := va_S.rf
  have hl := lv_entry ([.ref h0, .int x]) (n := 2) (Nat.le_of_ble_eq_true rfl)
  rw [lg_entry_eq]
  generalize (lg_sl ([.ref h0, .int x]) ++ List.replicate (2 - (lg_sl ([.ref h0, .int x])).length) Slot.unset).toArray = ls at hl ⊢
  have hl : lv_has ls 2 [(0, .ref h0), (1, .int x)] := hl
  refine lv_aload_n hx hb dX11_input_0 rfl (lv_at hl 0 rfl) ?_
  refine va_get (D := G.1) (ci := 8) (v := .ref k6) (C := RX11) (T := TX11) (N := 8) hx hb hq pin_wsX110 hown hE.1.1 hP 0 rfl rfl 6 (by decide) (hq _ pw_16) (fun _ h9 => h9) rfl dX11_input_1 ?_
  refine lv_iload_n hx hb dX11_input_4 rfl (lv_at hl 1 rfl) ?_
  refine pc_V (G := G) (As := [.int x]) (rest := []) (wr := [(h0, .inr (8, [.ref k1, .int 0, .ref k2, .ref k3, .ref k4, .ref k5, .ref k6, .null]))]) hx hb hml hown hq hE hX pX0_al hP hD hS hA hl.1 (c_takeInput l G k6 m1 m2 m3 m4 m5 m6 m7 f x) (gV pw_39 pw_465 pw_466 pw_463 pw_464) hV_X5_takeInput 1 4 rfl rfl rfl [1, 2] [0] rfl rfl (by decide) (by decide) (by decide) rfl (Nat.le_of_ble_eq_true rfl) dX11_input_5 ⟨Nat.le_of_ble_eq_true rfl, Nat.le_of_ble_eq_true rfl⟩ ⟨Nat.le_of_ble_eq_true rfl, Nat.le_of_ble_eq_true rfl⟩ (fun v3 u1 H locs hw2 hP hD hS => ?_)
  obtain rfl : v3 = some (.int 1) := hw2
  have hP : va_P G.1 pCl [(h0, .inr (8, [.ref k1, .int 0, .ref k2, .ref k3, .ref k4, .ref k5, .ref k6, .null]))] H := hP
  have hD : va_D A [(h0, .inr (8, [.ref k1, .int 0, .ref k2, .ref k3, .ref k4, .ref k5, .ref k6, .null]))] := hD
  refine W.widen (k := 0) (n := 0) (Nat.le_of_ble_eq_true rfl) (Nat.le_of_ble_eq_true rfl) ?_
  refine W.eq (g2 := F0 m 8 ls [.int 1]) rfl ?_
  refine W.widen (k := 0) (n := 0) (Nat.le_of_ble_eq_true rfl) (Nat.le_of_ble_eq_true rfl) ?_
  exact W.iret (v := 1) hx hb hr (fun t ht hW => ⟨⟨_, ((fun _ => 0), (fun _ => fun _ => 0), (fun _ => fun _ => 0)), rfl, rfl, by rw [ht]; exact hP.sub [] rfl, hD.sub [] (by decide) rfl⟩, hS.F ht⟩) hS.2.2 dX11_input_8
theorem dX11_forget_0 : decode cX11_forget 0 = .ok (.aload_n 0, 1) := by decide +kernel
theorem dX11_forget_1 : decode cX11_forget 1 = .ok (.getfield 50, 3) := by decide +kernel
theorem dX11_forget_4 : decode cX11_forget 4 = .ok (.iconst 0, 1) := by decide +kernel
theorem dX11_forget_5 : decode cX11_forget 5 = .ok (.putfield 163, 3) := by decide +kernel
theorem dX11_forget_8 : decode cX11_forget 8 = .ok (.return_, 1) := by decide +kernel
set_option maxHeartbeats 1000000 in
set_option maxRecDepth 100000 in
/-- forget -/
theorem c_forget (l : Launch) (G : pT) (h0 : Nat) (k1 : Nat) (k2 : Nat) (k3 : Nat) (k4 : Nat) (k5 : Nat) (k6 : Nat) (m1 : Nat) (m2 : Nat) (m3 : Nat) (m4 : Nat) (m5 : Nat) (m6 : Nat) (m7 : Nat) : PM l G pX0 yX11_forget cX11_forget 1 none ({ frames := 2, cells := 0, slots := 0, locals := 60 }) [.ref h0] [(h0, .inr (8, [.ref k1, .int 0, .ref k2, .ref k3, .ref k4, .ref k5, .ref k6, .null])), (k6, .inr (4, [.ref m1, .ref m2, .ref m3, .ref m4, .ref m5, .int 0, .ref m6, .ref m7, .null, .null, .int 0, .int 0, .int 0, .int 0, .long 0, .int 0, .int 0, .int 0, .int 0]))] (fun (v : Option Value) (u : (Nat → Nat) × (Nat → Nat → Int32) × (Nat → Nat → Int64)) => v = none) (fun u => []) := by
  intro sz
  refine Met.ofW (cc := cX11_forget) (maxL := 1) (ret := none) (by decide) rfl ?_
  intro p e s m args below meth c s₁ B hml hv
  obtain ⟨rfl, hsz, hP, hD0, hE, hX⟩ := hv
  have hx := B.exec
  have hb := B.bytes
  have hr := B.returns
  have hts := atoms_spec (ws := Cond.code yX11_forget cX11_forget 1 none :: pw) B.pre
  have hq : ∀ w ∈ pw, w.before _ s = true := fun w h => hts w (List.mem_cons_of_mem _ h)
  have hown : s.vm.findClass RX11 = some m.cls := findClass_of_methodNamed B.named
  have hlocks := B.notSynchronized
  subst hsz
  have hD := hD0.self (sz := s.heap.size)
  have hA : ∀ q : Nat, s.heap.size ≤ q → va_A [(h0, .inr (8, [.ref k1, .int 0, .ref k2, .ref k3, .ref k4, .ref k5, .ref k6, .null])), (k6, .inr (4, [.ref m1, .ref m2, .ref m3, .ref m4, .ref m5, .int 0, .ref m6, .ref m7, .null, .null, .int 0, .int 0, .int 0, .int 0, .long 0, .int 0, .int 0, .int 0, .int 0]))] s.heap.size q := fun q h => Or.inr h
  have hP : va_P G.1 pCl [(h0, .inr (8, [.ref k1, .int 0, .ref k2, .ref k3, .ref k4, .ref k5, .ref k6, .null])), (k6, .inr (4, [.ref m1, .ref m2, .ref m3, .ref m4, .ref m5, .int 0, .ref m6, .ref m7, .null, .null, .int 0, .int 0, .int 0, .int 0, .long 0, .int 0, .int 0, .int 0, .int 0]))] s.heap := hP
  generalize va_A [(h0, .inr (8, [.ref k1, .int 0, .ref k2, .ref k3, .ref k4, .ref k5, .ref k6, .null])), (k6, .inr (4, [.ref m1, .ref m2, .ref m3, .ref m4, .ref m5, .int 0, .ref m6, .ref m7, .null, .null, .int 0, .int 0, .int 0, .int 0, .long 0, .int 0, .int 0, .int 0, .int 0]))] s.heap.size = A at hD hE hA ⊢
  have hS : va_S A s.heap s.heap [] := va_S.rf
  have hl := lv_entry ([.ref h0]) (n := 1) (Nat.le_of_ble_eq_true rfl)
  rw [lg_entry_eq]
  generalize (lg_sl ([.ref h0]) ++ List.replicate (1 - (lg_sl ([.ref h0])).length) Slot.unset).toArray = ls at hl ⊢
  have hl : lv_has ls 1 [(0, .ref h0)] := hl
  refine lv_aload_n hx hb dX11_forget_0 rfl (lv_at hl 0 rfl) ?_
  refine va_get (D := G.1) (ci := 8) (v := .ref k6) (C := RX11) (T := TX11) (N := 8) hx hb hq pin_wsX110 hown hE.1.1 hP 0 rfl rfl 6 (by decide) (hq _ pw_16) (fun _ h9 => h9) rfl dX11_forget_1 ?_
  refine lv_iconst (v := 0) hx hb dX11_forget_4 (by decide) ?_
  refine va_put (D := G.1) (ci := 4) (v := .int 0) (ty := .int) (C := RX5) (T := TX5) (N := 19) hx hb hq pin_wsX50 tyX5 tyX5_ok nmX5 hown hE.1.1 hP hD hS 1 rfl rfl 5 (by decide) (hq _ pw_40) (fun _ h9 => h9) rfl (by decide +kernel) rfl rfl (Nat.le_of_ble_eq_true rfl) dX11_forget_5 (fun H locs hP hD hS => ?_)
  have hP : va_P G.1 pCl [(h0, .inr (8, [.ref k1, .int 0, .ref k2, .ref k3, .ref k4, .ref k5, .ref k6, .null])), (k6, .inr (4, [.ref m1, .ref m2, .ref m3, .ref m4, .ref m5, .int 0, .ref m6, .ref m7, .null, .null, .int 0, .int 0, .int 0, .int 0, .long 0, .int 0, .int 0, .int 0, .int 0]))] H := hP
  have hD : va_D A [(h0, .inr (8, [.ref k1, .int 0, .ref k2, .ref k3, .ref k4, .ref k5, .ref k6, .null])), (k6, .inr (4, [.ref m1, .ref m2, .ref m3, .ref m4, .ref m5, .int 0, .ref m6, .ref m7, .null, .null, .int 0, .int 0, .int 0, .int 0, .long 0, .int 0, .int 0, .int 0, .int 0]))] := hD
  refine W.widen (k := 0) (n := 0) (Nat.le_of_ble_eq_true rfl) (Nat.le_of_ble_eq_true rfl) ?_
  exact W.vret hx hb hr (fun t ht hW => ⟨⟨_, ((fun _ => 0), (fun _ => fun _ => 0), (fun _ => fun _ => 0)), rfl, rfl, by rw [ht]; exact hP.sub [] rfl, hD.sub [] (by decide) rfl⟩, hS.F ht⟩) hS.2.2 dX11_forget_8
theorem dX11_result_0 : decode cX11_result 0 = .ok (.aload_n 0, 1) := by decide +kernel
theorem dX11_result_1 : decode cX11_result 1 = .ok (.getfield 50, 3) := by decide +kernel
theorem dX11_result_4 : decode cX11_result 4 = .ok (.getfield 183, 3) := by decide +kernel
theorem dX11_result_7 : decode cX11_result 7 = .ok (.ireturn, 1) := by decide +kernel
set_option maxHeartbeats 1000000 in
set_option maxRecDepth 100000 in
/-- result without a run: 0 -/
theorem c_result (l : Launch) (G : pT) (h0 : Nat) (k1 : Nat) (k2 : Nat) (k3 : Nat) (k4 : Nat) (k5 : Nat) (k6 : Nat) (m1 : Nat) (m2 : Nat) (m3 : Nat) (m4 : Nat) (m5 : Nat) (m6 : Nat) (m7 : Nat) : PM l G pX0 yX11_result cX11_result 1 (some .int) ({ frames := 2, cells := 0, slots := 0, locals := 60 }) [.ref h0] [(h0, .inr (8, [.ref k1, .int 0, .ref k2, .ref k3, .ref k4, .ref k5, .ref k6, .null])), (k6, .inr (4, [.ref m1, .ref m2, .ref m3, .ref m4, .ref m5, .int 0, .ref m6, .ref m7, .null, .null, .int 0, .int 0, .int 0, .int 0, .long 0, .int 0, .int 0, .int 0, .int 0]))] (fun (v : Option Value) (u : (Nat → Nat) × (Nat → Nat → Int32) × (Nat → Nat → Int64)) => v = some (.int 0)) (fun u => []) := by
  intro sz
  refine Met.ofW (cc := cX11_result) (maxL := 1) (ret := (some .int)) (by decide) rfl ?_
  intro p e s m args below meth c s₁ B hml hv
  obtain ⟨rfl, hsz, hP, hD0, hE, hX⟩ := hv
  have hx := B.exec
  have hb := B.bytes
  have hr := B.returns
  have hts := atoms_spec (ws := Cond.code yX11_result cX11_result 1 (some .int) :: pw) B.pre
  have hq : ∀ w ∈ pw, w.before _ s = true := fun w h => hts w (List.mem_cons_of_mem _ h)
  have hown : s.vm.findClass RX11 = some m.cls := findClass_of_methodNamed B.named
  have hlocks := B.notSynchronized
  subst hsz
  have hD := hD0.self (sz := s.heap.size)
  have hA : ∀ q : Nat, s.heap.size ≤ q → va_A [(h0, .inr (8, [.ref k1, .int 0, .ref k2, .ref k3, .ref k4, .ref k5, .ref k6, .null])), (k6, .inr (4, [.ref m1, .ref m2, .ref m3, .ref m4, .ref m5, .int 0, .ref m6, .ref m7, .null, .null, .int 0, .int 0, .int 0, .int 0, .long 0, .int 0, .int 0, .int 0, .int 0]))] s.heap.size q := fun q h => Or.inr h
  have hP : va_P G.1 pCl [(h0, .inr (8, [.ref k1, .int 0, .ref k2, .ref k3, .ref k4, .ref k5, .ref k6, .null])), (k6, .inr (4, [.ref m1, .ref m2, .ref m3, .ref m4, .ref m5, .int 0, .ref m6, .ref m7, .null, .null, .int 0, .int 0, .int 0, .int 0, .long 0, .int 0, .int 0, .int 0, .int 0]))] s.heap := hP
  generalize va_A [(h0, .inr (8, [.ref k1, .int 0, .ref k2, .ref k3, .ref k4, .ref k5, .ref k6, .null])), (k6, .inr (4, [.ref m1, .ref m2, .ref m3, .ref m4, .ref m5, .int 0, .ref m6, .ref m7, .null, .null, .int 0, .int 0, .int 0, .int 0, .long 0, .int 0, .int 0, .int 0, .int 0]))] s.heap.size = A at hD hE hA ⊢
  have hS : va_S A s.heap s.heap [] := va_S.rf
  have hl := lv_entry ([.ref h0]) (n := 1) (Nat.le_of_ble_eq_true rfl)
  rw [lg_entry_eq]
  generalize (lg_sl ([.ref h0]) ++ List.replicate (1 - (lg_sl ([.ref h0])).length) Slot.unset).toArray = ls at hl ⊢
  have hl : lv_has ls 1 [(0, .ref h0)] := hl
  refine lv_aload_n hx hb dX11_result_0 rfl (lv_at hl 0 rfl) ?_
  refine va_get (D := G.1) (ci := 8) (v := .ref k6) (C := RX11) (T := TX11) (N := 8) hx hb hq pin_wsX110 hown hE.1.1 hP 0 rfl rfl 6 (by decide) (hq _ pw_16) (fun _ h9 => h9) rfl dX11_result_1 ?_
  refine va_get (D := G.1) (ci := 4) (v := .int 0) (C := RX5) (T := TX5) (N := 19) hx hb hq pin_wsX50 hown hE.1.1 hP 1 rfl rfl 17 (by decide) (hq _ pw_43) (fun _ h9 => h9) rfl dX11_result_4 ?_
  refine W.widen (k := 0) (n := 0) (Nat.le_of_ble_eq_true rfl) (Nat.le_of_ble_eq_true rfl) ?_
  exact W.iret (v := 0) hx hb hr (fun t ht hW => ⟨⟨_, ((fun _ => 0), (fun _ => fun _ => 0), (fun _ => fun _ => 0)), rfl, rfl, by rw [ht]; exact hP.sub [] rfl, hD.sub [] (by decide) rfl⟩, hS.F ht⟩) hS.2.2 dX11_result_7
theorem dX11_refusals_0 : decode cX11_refusals 0 = .ok (.aload_n 0, 1) := by decide +kernel
theorem dX11_refusals_1 : decode cX11_refusals 1 = .ok (.getfield 50, 3) := by decide +kernel
theorem dX11_refusals_4 : decode cX11_refusals 4 = .ok (.getfield 201, 3) := by decide +kernel
theorem dX11_refusals_7 : decode cX11_refusals 7 = .ok (.ireturn, 1) := by decide +kernel
set_option maxHeartbeats 1000000 in
set_option maxRecDepth 100000 in
/-- refusals: 0 -/
theorem c_refusals (l : Launch) (G : pT) (h0 : Nat) (k1 : Nat) (k2 : Nat) (k3 : Nat) (k4 : Nat) (k5 : Nat) (k6 : Nat) (m1 : Nat) (m2 : Nat) (m3 : Nat) (m4 : Nat) (m5 : Nat) (m6 : Nat) (m7 : Nat) : PM l G pX0 yX11_refusals cX11_refusals 1 (some .int) ({ frames := 2, cells := 0, slots := 0, locals := 60 }) [.ref h0] [(h0, .inr (8, [.ref k1, .int 0, .ref k2, .ref k3, .ref k4, .ref k5, .ref k6, .null])), (k6, .inr (4, [.ref m1, .ref m2, .ref m3, .ref m4, .ref m5, .int 0, .ref m6, .ref m7, .null, .null, .int 0, .int 0, .int 0, .int 0, .long 0, .int 0, .int 0, .int 0, .int 0]))] (fun (v : Option Value) (u : (Nat → Nat) × (Nat → Nat → Int32) × (Nat → Nat → Int64)) => v = some (.int 0)) (fun u => []) := by
  intro sz
  refine Met.ofW (cc := cX11_refusals) (maxL := 1) (ret := (some .int)) (by decide) rfl ?_
  intro p e s m args below meth c s₁ B hml hv
  obtain ⟨rfl, hsz, hP, hD0, hE, hX⟩ := hv
  have hx := B.exec
  have hb := B.bytes
  have hr := B.returns
  have hts := atoms_spec (ws := Cond.code yX11_refusals cX11_refusals 1 (some .int) :: pw) B.pre
  have hq : ∀ w ∈ pw, w.before _ s = true := fun w h => hts w (List.mem_cons_of_mem _ h)
  have hown : s.vm.findClass RX11 = some m.cls := findClass_of_methodNamed B.named
  have hlocks := B.notSynchronized
  subst hsz
  have hD := hD0.self (sz := s.heap.size)
  have hA : ∀ q : Nat, s.heap.size ≤ q → va_A [(h0, .inr (8, [.ref k1, .int 0, .ref k2, .ref k3, .ref k4, .ref k5, .ref k6, .null])), (k6, .inr (4, [.ref m1, .ref m2, .ref m3, .ref m4, .ref m5, .int 0, .ref m6, .ref m7, .null, .null, .int 0, .int 0, .int 0, .int 0, .long 0, .int 0, .int 0, .int 0, .int 0]))] s.heap.size q := fun q h => Or.inr h
  have hP : va_P G.1 pCl [(h0, .inr (8, [.ref k1, .int 0, .ref k2, .ref k3, .ref k4, .ref k5, .ref k6, .null])), (k6, .inr (4, [.ref m1, .ref m2, .ref m3, .ref m4, .ref m5, .int 0, .ref m6, .ref m7, .null, .null, .int 0, .int 0, .int 0, .int 0, .long 0, .int 0, .int 0, .int 0, .int 0]))] s.heap := hP
  generalize va_A [(h0, .inr (8, [.ref k1, .int 0, .ref k2, .ref k3, .ref k4, .ref k5, .ref k6, .null])), (k6, .inr (4, [.ref m1, .ref m2, .ref m3, .ref m4, .ref m5, .int 0, .ref m6, .ref m7, .null, .null, .int 0, .int 0, .int 0, .int 0, .long 0, .int 0, .int 0, .int 0, .int 0]))] s.heap.size = A at hD hE hA ⊢
  have hS : va_S A s.heap s.heap [] := va_S.rf
  have hl := lv_entry ([.ref h0]) (n := 1) (Nat.le_of_ble_eq_true rfl)
  rw [lg_entry_eq]
  generalize (lg_sl ([.ref h0]) ++ List.replicate (1 - (lg_sl ([.ref h0])).length) Slot.unset).toArray = ls at hl ⊢
  have hl : lv_has ls 1 [(0, .ref h0)] := hl
  refine lv_aload_n hx hb dX11_refusals_0 rfl (lv_at hl 0 rfl) ?_
  refine va_get (D := G.1) (ci := 8) (v := .ref k6) (C := RX11) (T := TX11) (N := 8) hx hb hq pin_wsX110 hown hE.1.1 hP 0 rfl rfl 6 (by decide) (hq _ pw_16) (fun _ h9 => h9) rfl dX11_refusals_1 ?_
  refine va_get (D := G.1) (ci := 4) (v := .int 0) (C := RX5) (T := TX5) (N := 19) hx hb hq pin_wsX50 hown hE.1.1 hP 1 rfl rfl 18 (by decide) (hq _ pw_50) (fun _ h9 => h9) rfl dX11_refusals_4 ?_
  refine W.widen (k := 0) (n := 0) (Nat.le_of_ble_eq_true rfl) (Nat.le_of_ble_eq_true rfl) ?_
  exact W.iret (v := 0) hx hb hr (fun t ht hW => ⟨⟨_, ((fun _ => 0), (fun _ => fun _ => 0), (fun _ => fun _ => 0)), rfl, rfl, by rw [ht]; exact hP.sub [] rfl, hD.sub [] (by decide) rfl⟩, hS.F ht⟩) hS.2.2 dX11_refusals_7
theorem dX5_uncaught_0 : decode cX5_uncaught 0 = .ok (.aload_n 0, 1) := by decide +kernel
theorem dX5_uncaught_1 : decode cX5_uncaught 1 = .ok (.getfield 43, 3) := by decide +kernel
theorem dX5_uncaught_4 : decode cX5_uncaught 4 = .ok (.lconst 0, 1) := by decide +kernel
theorem dX5_uncaught_5 : decode cX5_uncaught 5 = .ok (.lcmp, 1) := by decide +kernel
theorem dX5_uncaught_6 : decode cX5_uncaught 6 = .ok (.ifCond .eq 10, 3) := by decide +kernel
theorem dX5_uncaught_16 : decode cX5_uncaught 16 = .ok (.aconst_null, 1) := by decide +kernel
theorem dX5_uncaught_17 : decode cX5_uncaught 17 = .ok (.goto 21, 3) := by decide +kernel
theorem dX5_uncaught_38 : decode cX5_uncaught 38 = .ok (.astore_n 2, 1) := by decide +kernel
theorem dX5_uncaught_39 : decode cX5_uncaught 39 = .ok (.aload_n 2, 1) := by decide +kernel
theorem dX5_uncaught_40 : decode cX5_uncaught 40 = .ok (.ifnull 20, 3) := by decide +kernel
theorem dX5_uncaught_60 : decode cX5_uncaught 60 = .ok (.iconst (-1), 1) := by decide +kernel
theorem dX5_uncaught_61 : decode cX5_uncaught 61 = .ok (.ireturn, 1) := by decide +kernel
set_option maxHeartbeats 1000000 in
set_option maxRecDepth 100000 in
/-- uncaught without a run: NONE -/
theorem c_uncaught (l : Launch) (G : pT) (k6 : Nat) (m1 : Nat) (m2 : Nat) (m3 : Nat) (m4 : Nat) (m5 : Nat) (m6 : Nat) (m7 : Nat) (x : Int32) : PM l G pX0 yX5_uncaught cX5_uncaught 5 (some .int) ({ frames := 2, cells := 0, slots := 0, locals := 60 }) [.ref k6, .int x] [(k6, .inr (4, [.ref m1, .ref m2, .ref m3, .ref m4, .ref m5, .int 0, .ref m6, .ref m7, .null, .null, .int 0, .int 0, .int 0, .int 0, .long 0, .int 0, .int 0, .int 0, .int 0]))] (fun (v : Option Value) (u : (Nat → Nat) × (Nat → Nat → Int32) × (Nat → Nat → Int64)) => v = some (.int (-1))) (fun u => []) := by
  intro sz
  refine Met.ofW (cc := cX5_uncaught) (maxL := 5) (ret := (some .int)) (by decide) rfl ?_
  intro p e s m args below meth c s₁ B hml hv
  obtain ⟨rfl, hsz, hP, hD0, hE, hX⟩ := hv
  have hx := B.exec
  have hb := B.bytes
  have hr := B.returns
  have hts := atoms_spec (ws := Cond.code yX5_uncaught cX5_uncaught 5 (some .int) :: pw) B.pre
  have hq : ∀ w ∈ pw, w.before _ s = true := fun w h => hts w (List.mem_cons_of_mem _ h)
  have hown : s.vm.findClass RX5 = some m.cls := findClass_of_methodNamed B.named
  have hlocks := B.notSynchronized
  subst hsz
  have hD := hD0.self (sz := s.heap.size)
  have hA : ∀ q : Nat, s.heap.size ≤ q → va_A [(k6, .inr (4, [.ref m1, .ref m2, .ref m3, .ref m4, .ref m5, .int 0, .ref m6, .ref m7, .null, .null, .int 0, .int 0, .int 0, .int 0, .long 0, .int 0, .int 0, .int 0, .int 0]))] s.heap.size q := fun q h => Or.inr h
  have hP : va_P G.1 pCl [(k6, .inr (4, [.ref m1, .ref m2, .ref m3, .ref m4, .ref m5, .int 0, .ref m6, .ref m7, .null, .null, .int 0, .int 0, .int 0, .int 0, .long 0, .int 0, .int 0, .int 0, .int 0]))] s.heap := hP
  generalize va_A [(k6, .inr (4, [.ref m1, .ref m2, .ref m3, .ref m4, .ref m5, .int 0, .ref m6, .ref m7, .null, .null, .int 0, .int 0, .int 0, .int 0, .long 0, .int 0, .int 0, .int 0, .int 0]))] s.heap.size = A at hD hE hA ⊢
  have hS : va_S A s.heap s.heap [] := va_S.rf
  have hl := lv_entry ([.ref k6, .int x]) (n := 5) (Nat.le_of_ble_eq_true rfl)
  rw [lg_entry_eq]
  generalize (lg_sl ([.ref k6, .int x]) ++ List.replicate (5 - (lg_sl ([.ref k6, .int x])).length) Slot.unset).toArray = ls at hl ⊢
  have hl : lv_has ls 5 [(0, .ref k6), (1, .int x)] := hl
  refine lv_aload_n hx hb dX5_uncaught_0 rfl (lv_at hl 0 rfl) ?_
  refine va_get (D := G.1) (ci := 4) (v := .long 0) (C := RX5) (T := TX5) (N := 19) hx hb hq pin_wsX50 hown hE.1.1 hP 0 rfl rfl 14 (by decide) (hq _ pw_117) (fun _ h9 => h9) rfl dX5_uncaught_1 ?_
  refine lv_lconst (v := 0) hx hb dX5_uncaught_4 (by decide) ?_
  refine W.lcmp hx hb dX5_uncaught_5 ?_
  refine lv_topi (fun x1 e2 => ?_)
  obtain rfl : x1 = 0 := e2.trans (by decide)
  refine lv_if_eq (tgt := 16) hx hb dX5_uncaught_6 (by decide) (fun c3 => ?_) (fun c3 => absurd (by decide) c3)
  refine lv_null hx hb dX5_uncaught_16 ?_
  refine lv_goto (tgt := 38) hx hb dX5_uncaught_17 (by decide) ?_
  refine lv_astore_nN (lv' := [(2, .null), (0, .ref k6), (1, .int x)]) hx hb dX5_uncaught_38 rfl hl (by decide) rfl (fun ls hl => ?_)
  refine lv_aload_nN hx hb dX5_uncaught_39 rfl (lv_at hl 0 rfl) ?_
  refine lv_ifnullN (tgt := 60) hx hb dX5_uncaught_40 (by decide) ?_
  refine lv_iconst (v := (-1)) hx hb dX5_uncaught_60 (by decide) ?_
  refine W.widen (k := 0) (n := 0) (Nat.le_of_ble_eq_true rfl) (Nat.le_of_ble_eq_true rfl) ?_
  exact W.iret (v := (-1)) hx hb hr (fun t ht hW => ⟨⟨_, ((fun _ => 0), (fun _ => fun _ => 0), (fun _ => fun _ => 0)), rfl, rfl, by rw [ht]; exact hP.sub [] rfl, hD.sub [] (by decide) rfl⟩, hS.F ht⟩) hS.2.2 dX5_uncaught_61
theorem dX11_thrown_0 : decode cX11_thrown 0 = .ok (.aload_n 0, 1) := by decide +kernel
theorem dX11_thrown_1 : decode cX11_thrown 1 = .ok (.getfield 50, 3) := by decide +kernel
theorem dX11_thrown_4 : decode cX11_thrown 4 = .ok (.iload_n 1, 1) := by decide +kernel
theorem dX11_thrown_5 : decode cX11_thrown 5 = .ok (.invokevirtual 189, 3) := by decide +kernel
theorem dX11_thrown_8 : decode cX11_thrown 8 = .ok (.ireturn, 1) := by decide +kernel
theorem hV_X5_uncaught : yX5_uncaught.cls = RX5 ∧ yX5_uncaught.cls ≠ "java/lang/invoke/MethodHandle" ∧ yX5_uncaught.cls ≠ "java/lang/invoke/VarHandle" ∧ (parseMethodDescriptor yX5_uncaught.desc).map (fun d => d.parameters.length) = some 1 := by decide +kernel
set_option maxHeartbeats 1000000 in
set_option maxRecDepth 100000 in
/-- thrown without a run: NONE -/
theorem c_thrown (l : Launch) (G : pT) (h0 : Nat) (k1 : Nat) (k2 : Nat) (k3 : Nat) (k4 : Nat) (k5 : Nat) (k6 : Nat) (m1 : Nat) (m2 : Nat) (m3 : Nat) (m4 : Nat) (m5 : Nat) (m6 : Nat) (m7 : Nat) (x : Int32) : PM l G pX0 yX11_thrown cX11_thrown 2 (some .int) ({ frames := 3, cells := 0, slots := 0, locals := 84 }) [.ref h0, .int x] [(h0, .inr (8, [.ref k1, .int 0, .ref k2, .ref k3, .ref k4, .ref k5, .ref k6, .null])), (k6, .inr (4, [.ref m1, .ref m2, .ref m3, .ref m4, .ref m5, .int 0, .ref m6, .ref m7, .null, .null, .int 0, .int 0, .int 0, .int 0, .long 0, .int 0, .int 0, .int 0, .int 0]))] (fun (v : Option Value) (u : (Nat → Nat) × (Nat → Nat → Int32) × (Nat → Nat → Int64)) => v = some (.int (-1))) (fun u => []) := by
  intro sz
  refine Met.ofW (cc := cX11_thrown) (maxL := 2) (ret := (some .int)) (by decide) rfl ?_
  intro p e s m args below meth c s₁ B hml hv
  obtain ⟨rfl, hsz, hP, hD0, hE, hX⟩ := hv
  have hx := B.exec
  have hb := B.bytes
  have hr := B.returns
  have hts := atoms_spec (ws := Cond.code yX11_thrown cX11_thrown 2 (some .int) :: pw) B.pre
  have hq : ∀ w ∈ pw, w.before _ s = true := fun w h => hts w (List.mem_cons_of_mem _ h)
  have hown : s.vm.findClass RX11 = some m.cls := findClass_of_methodNamed B.named
  have hlocks := B.notSynchronized
  subst hsz
  have hD := hD0.self (sz := s.heap.size)
  have hA : ∀ q : Nat, s.heap.size ≤ q → va_A [(h0, .inr (8, [.ref k1, .int 0, .ref k2, .ref k3, .ref k4, .ref k5, .ref k6, .null])), (k6, .inr (4, [.ref m1, .ref m2, .ref m3, .ref m4, .ref m5, .int 0, .ref m6, .ref m7, .null, .null, .int 0, .int 0, .int 0, .int 0, .long 0, .int 0, .int 0, .int 0, .int 0]))] s.heap.size q := fun q h => Or.inr h
  have hP : va_P G.1 pCl [(h0, .inr (8, [.ref k1, .int 0, .ref k2, .ref k3, .ref k4, .ref k5, .ref k6, .null])), (k6, .inr (4, [.ref m1, .ref m2, .ref m3, .ref m4, .ref m5, .int 0, .ref m6, .ref m7, .null, .null, .int 0, .int 0, .int 0, .int 0, .long 0, .int 0, .int 0, .int 0, .int 0]))] s.heap := hP
  generalize va_A [(h0, .inr (8, [.ref k1, .int 0, .ref k2, .ref k3, .ref k4, .ref k5, .ref k6, .null])), (k6, .inr (4, [.ref m1, .ref m2, .ref m3, .ref m4, .ref m5, .int 0, .ref m6, .ref m7, .null, .null, .int 0, .int 0, .int 0, .int 0, .long 0, .int 0, .int 0, .int 0, .int 0]))] s.heap.size = A at hD hE hA ⊢
  have hS : va_S A s.heap s.heap [] := va_S.rf
  have hl := lv_entry ([.ref h0, .int x]) (n := 2) (Nat.le_of_ble_eq_true rfl)
  rw [lg_entry_eq]
  generalize (lg_sl ([.ref h0, .int x]) ++ List.replicate (2 - (lg_sl ([.ref h0, .int x])).length) Slot.unset).toArray = ls at hl ⊢
  have hl : lv_has ls 2 [(0, .ref h0), (1, .int x)] := hl
  refine lv_aload_n hx hb dX11_thrown_0 rfl (lv_at hl 0 rfl) ?_
  refine va_get (D := G.1) (ci := 8) (v := .ref k6) (C := RX11) (T := TX11) (N := 8) hx hb hq pin_wsX110 hown hE.1.1 hP 0 rfl rfl 6 (by decide) (hq _ pw_16) (fun _ h9 => h9) rfl dX11_thrown_1 ?_
  refine lv_iload_n hx hb dX11_thrown_4 rfl (lv_at hl 1 rfl) ?_
  refine pc_V (G := G) (As := [.int x]) (rest := []) (wr := [(h0, .inr (8, [.ref k1, .int 0, .ref k2, .ref k3, .ref k4, .ref k5, .ref k6, .null]))]) hx hb hml hown hq hE hX pX0_al hP hD hS hA hl.1 (c_uncaught l G k6 m1 m2 m3 m4 m5 m6 m7 x) (gV pw_45 pw_474 pw_475 pw_463 pw_473) hV_X5_uncaught 1 4 rfl rfl rfl [1] [0] rfl rfl (by decide) (by decide) (by decide) rfl (Nat.le_of_ble_eq_true rfl) dX11_thrown_5 ⟨Nat.le_of_ble_eq_true rfl, Nat.le_of_ble_eq_true rfl⟩ ⟨Nat.le_of_ble_eq_true rfl, Nat.le_of_ble_eq_true rfl⟩ (fun v3 u1 H locs hw2 hP hD hS => ?_)
  obtain rfl : v3 = some (.int (-1)) := hw2
  have hP : va_P G.1 pCl [(h0, .inr (8, [.ref k1, .int 0, .ref k2, .ref k3, .ref k4, .ref k5, .ref k6, .null]))] H := hP
  have hD : va_D A [(h0, .inr (8, [.ref k1, .int 0, .ref k2, .ref k3, .ref k4, .ref k5, .ref k6, .null]))] := hD
  refine W.widen (k := 0) (n := 0) (Nat.le_of_ble_eq_true rfl) (Nat.le_of_ble_eq_true rfl) ?_
  refine W.eq (g2 := F0 m 8 ls [.int (-1)]) rfl ?_
  refine W.widen (k := 0) (n := 0) (Nat.le_of_ble_eq_true rfl) (Nat.le_of_ble_eq_true rfl) ?_
  exact W.iret (v := (-1)) hx hb hr (fun t ht hW => ⟨⟨_, ((fun _ => 0), (fun _ => fun _ => 0), (fun _ => fun _ => 0)), rfl, rfl, by rw [ht]; exact hP.sub [] rfl, hD.sub [] (by decide) rfl⟩, hS.F ht⟩) hS.2.2 dX11_thrown_8
end
section
theorem in12 {x : Int32} (h1 : ¬ x < 5) (h2 : ¬ 11 < x) : vp_in x 12 := by
  rw [Int32.lt_iff_toInt_lt] at h1 h2
  rw [vp_in_iff]
  have a : (5 : Int32).toInt = 5 := by decide
  have b : (11 : Int32).toInt = 11 := by decide
  omega
theorem i_ne {x : Int32} {n : Nat} (hn : n < 2 ^ 31) (h : ¬ x = nI n) : x.toInt ≠ n := fun e => h (Int32.toInt_inj.mp (by rw [e, nI_toInt hn]))
theorem sw_out4 {x : Int32} (h0 : ¬ x = 0) (h1 : ¬ x = 1) (h2 : ¬ x = 2) (h3 : ¬ x = 3) (h4 : ¬ x = 4) : x.toInt < 0 ∨ 4 < x.toInt := by
  have a := i_ne (n := 0) (by decide) h0; have b := i_ne (n := 1) (by decide) h1; have c := i_ne (n := 2) (by decide) h2; have d := i_ne (n := 3) (by decide) h3; have e := i_ne (n := 4) (by decide) h4
  omega
/-- what count answers on a fresh object -/
def cnt (x : Int32) : Int32 := if x < 0 ∨ 11 < x then -1 else 0
def tld (x : Int32) : Int32 := if x < 5 ∨ 11 < x then -1 else 0
theorem tld_cnt {x : Int32} (h0 : ¬ x = 0) (h1 : ¬ x = 1) (h2 : ¬ x = 2) (h3 : ¬ x = 3) (h4 : ¬ x = 4) : tld x = cnt x := by
  have o := sw_out4 h0 h1 h2 h3 h4
  unfold tld cnt
  have a : (5 : Int32).toInt = 5 := by decide
  have b : (0 : Int32).toInt = 0 := by decide
  by_cases p : x < 5 ∨ 11 < x
  · rw [if_pos p, if_pos]
    rcases p with p | p
    · left; rw [Int32.lt_iff_toInt_lt] at p ⊢; omega
    · exact Or.inr p
  · rw [if_neg p, if_neg]
    intro q
    apply p
    rcases q with q | q
    · left; rw [Int32.lt_iff_toInt_lt] at q ⊢; omega
    · exact Or.inr q
theorem dX11_back_0 : decode cX11_back 0 = .ok (.iload_n 1, 1) := by decide +kernel
theorem dX11_back_1 : decode cX11_back 1 = .ok (.ifCond .lt 11, 3) := by decide +kernel
theorem dX11_back_12 : decode cX11_back 12 = .ok (.iconst (-1), 1) := by decide +kernel
theorem dX11_back_13 : decode cX11_back 13 = .ok (.ireturn, 1) := by decide +kernel
theorem dX11_back_4 : decode cX11_back 4 = .ok (.iload_n 1, 1) := by decide +kernel
theorem dX11_back_5 : decode cX11_back 5 = .ok (.aload_n 0, 1) := by decide +kernel
theorem dX11_back_6 : decode cX11_back 6 = .ok (.getfield 54, 3) := by decide +kernel
theorem dX11_back_9 : decode cX11_back 9 = .ok (.if_icmp .le 5, 3) := by decide +kernel
theorem dX11_back_14 : decode cX11_back 14 = .ok (.aload_n 0, 1) := by decide +kernel
theorem dX11_back_15 : decode cX11_back 15 = .ok (.dup, 1) := by decide +kernel
theorem dX11_back_16 : decode cX11_back 16 = .ok (.getfield 54, 3) := by decide +kernel
theorem dX11_back_19 : decode cX11_back 19 = .ok (.iload_n 1, 1) := by decide +kernel
theorem dX11_back_20 : decode cX11_back 20 = .ok (.isub, 1) := by decide +kernel
theorem dX11_back_21 : decode cX11_back 21 = .ok (.putfield 54, 3) := by decide +kernel
theorem dX11_back_24 : decode cX11_back 24 = .ok (.aload_n 0, 1) := by decide +kernel
theorem dX11_back_25 : decode cX11_back 25 = .ok (.getfield 54, 3) := by decide +kernel
theorem dX11_back_28 : decode cX11_back 28 = .ok (.ireturn, 1) := by decide +kernel
set_option maxHeartbeats 1000000 in
set_option maxRecDepth 100000 in
/-- back(n) on a fresh object -/
theorem c_back (l : Launch) (G : pT) (h0 : Nat) (k1 : Nat) (k2 : Nat) (k3 : Nat) (k4 : Nat) (k5 : Nat) (k6 : Nat) (x : Int32) : PM l G pX0 yX11_back cX11_back 2 (some .int) ({ frames := 2, cells := 0, slots := 0, locals := 60 }) [.ref h0, .int x] [(h0, .inr (8, [.ref k1, .int 0, .ref k2, .ref k3, .ref k4, .ref k5, .ref k6, .null]))] (fun (v : Option Value) (u : Unit) => v = some (.int (if x = 0 then 0 else (-1)))) (fun u => []) := by
  intro sz
  refine Met.ofW (cc := cX11_back) (maxL := 2) (ret := (some .int)) (by decide) rfl ?_
  intro p e s m args below meth c s₁ B hml hv
  obtain ⟨rfl, hsz, hP, hD0, hE, hX⟩ := hv
  have hx := B.exec
  have hb := B.bytes
  have hr := B.returns
  have hts := atoms_spec (ws := Cond.code yX11_back cX11_back 2 (some .int) :: pw) B.pre
  have hq : ∀ w ∈ pw, w.before _ s = true := fun w h => hts w (List.mem_cons_of_mem _ h)
  have hown : s.vm.findClass RX11 = some m.cls := findClass_of_methodNamed B.named
  have hlocks := B.notSynchronized
  subst hsz
  have hD := hD0.self (sz := s.heap.size)
  have hA : ∀ q : Nat, s.heap.size ≤ q → va_A [(h0, .inr (8, [.ref k1, .int 0, .ref k2, .ref k3, .ref k4, .ref k5, .ref k6, .null]))] s.heap.size q := fun q h => Or.inr h
  have hP : va_P G.1 pCl [(h0, .inr (8, [.ref k1, .int 0, .ref k2, .ref k3, .ref k4, .ref k5, .ref k6, .null]))] s.heap := hP
  generalize va_A [(h0, .inr (8, [.ref k1, .int 0, .ref k2, .ref k3, .ref k4, .ref k5, .ref k6, .null]))] s.heap.size = A at hD hE hA ⊢
  have hS : va_S A s.heap s.heap [] := va_S.rf
  have hl := lv_entry ([.ref h0, .int x]) (n := 2) (Nat.le_of_ble_eq_true rfl)
  rw [lg_entry_eq]
  generalize (lg_sl ([.ref h0, .int x]) ++ List.replicate (2 - (lg_sl ([.ref h0, .int x])).length) Slot.unset).toArray = ls at hl ⊢
  have hl : lv_has ls 2 [(0, .ref h0), (1, .int x)] := hl
  refine lv_iload_n hx hb dX11_back_0 rfl (lv_at hl 1 rfl) ?_
  refine lv_if_lt (tgt := 12) hx hb dX11_back_1 (by decide) (fun c1 => ?_) (fun c1 => ?_)
  · refine lv_iconst (v := (-1)) hx hb dX11_back_12 (by decide) ?_
    refine W.widen (k := 0) (n := 0) (Nat.le_of_ble_eq_true rfl) (Nat.le_of_ble_eq_true rfl) ?_
    exact W.iret (v := (-1)) hx hb hr (fun t ht hW => ⟨⟨_, (), rfl, (by rw [if_neg (fun h => absurd c1 (by rw [h]; decide))]), by rw [ht]; exact hP.sub [] rfl, hD.sub [] (by decide) rfl⟩, hS.F ht⟩) hS.2.2 dX11_back_13
  · refine lv_iload_n hx hb dX11_back_4 rfl (lv_at hl 1 rfl) ?_
    refine lv_aload_n hx hb dX11_back_5 rfl (lv_at hl 0 rfl) ?_
    refine va_get (D := G.1) (ci := 8) (v := .int 0) (C := RX11) (T := TX11) (N := 8) hx hb hq pin_wsX110 hown hE.1.1 hP 0 rfl rfl 1 (by decide) (hq _ pw_17) (fun _ h9 => h9) rfl dX11_back_6 ?_
    refine lv_icmp_le (tgt := 14) hx hb dX11_back_9 (by decide) (fun c2 => ?_) (fun c2 => ?_)
    · refine lv_aload_n hx hb dX11_back_14 rfl (lv_at hl 0 rfl) ?_
      refine lv_dup hx hb dX11_back_15 rfl ?_
      refine va_get (D := G.1) (ci := 8) (v := .int 0) (C := RX11) (T := TX11) (N := 8) hx hb hq pin_wsX110 hown hE.1.1 hP 0 rfl rfl 1 (by decide) (hq _ pw_17) (fun _ h9 => h9) rfl dX11_back_16 ?_
      refine lv_iload_n hx hb dX11_back_19 rfl (lv_at hl 1 rfl) ?_
      refine lv_isub hx hb dX11_back_20 ?_
      refine lv_topi (fun x3 e4 => ?_)
      refine va_put (D := G.1) (ci := 8) (v := .int x3) (ty := .int) (C := RX11) (T := TX11) (N := 8) hx hb hq pin_wsX110 tyX11 tyX11_ok nmX11 hown hE.1.1 hP hD hS 0 rfl rfl 1 (by decide) (hq _ pw_17) (fun _ h9 => h9) rfl (by decide +kernel) rfl rfl (Nat.le_of_ble_eq_true rfl) dX11_back_21 (fun H locs hP hD hS => ?_)
      have hP : va_P G.1 pCl [(h0, .inr (8, [.ref k1, .int x3, .ref k2, .ref k3, .ref k4, .ref k5, .ref k6, .null]))] H := hP
      have hD : va_D A [(h0, .inr (8, [.ref k1, .int x3, .ref k2, .ref k3, .ref k4, .ref k5, .ref k6, .null]))] := hD
      refine lv_aload_n hx hb dX11_back_24 rfl (lv_at hl 0 rfl) ?_
      refine va_get (D := G.1) (ci := 8) (v := .int x3) (C := RX11) (T := TX11) (N := 8) hx hb hq pin_wsX110 hown hE.1.1 hP 0 rfl rfl 1 (by decide) (hq _ pw_17) (fun _ h9 => h9) rfl dX11_back_25 ?_
      refine W.widen (k := 0) (n := 0) (Nat.le_of_ble_eq_true rfl) (Nat.le_of_ble_eq_true rfl) ?_
      exact W.iret (v := x3) hx hb hr (fun t ht hW => ⟨⟨_, (), rfl, (by have h : x = 0 := Int32.le_antisymm c2 (Int32.not_lt.mp c1); rw [if_pos h, e4, h]; rfl), by rw [ht]; exact hP.sub [] rfl, hD.sub [] (by decide) rfl⟩, hS.F ht⟩) hS.2.2 dX11_back_28
    · refine lv_iconst (v := (-1)) hx hb dX11_back_12 (by decide) ?_
      refine W.widen (k := 0) (n := 0) (Nat.le_of_ble_eq_true rfl) (Nat.le_of_ble_eq_true rfl) ?_
      exact W.iret (v := (-1)) hx hb hr (fun t ht hW => ⟨⟨_, (), rfl, (by rw [if_neg (fun h => c2 (by rw [h]; decide))]), by rw [ht]; exact hP.sub [] rfl, hD.sub [] (by decide) rfl⟩, hS.F ht⟩) hS.2.2 dX11_back_13
theorem dX5_printed_0 : decode cX5_printed 0 = .ok (.iload_n 1, 1) := by decide +kernel
theorem dX5_printed_1 : decode cX5_printed 1 = .ok (.ifCond .lt 30, 3) := by decide +kernel
theorem dX5_printed_31 : decode cX5_printed 31 = .ok (.iconst 0, 1) := by decide +kernel
theorem dX5_printed_32 : decode cX5_printed 32 = .ok (.ireturn, 1) := by decide +kernel
theorem dX5_printed_4 : decode cX5_printed 4 = .ok (.iload_n 1, 1) := by decide +kernel
theorem dX5_printed_5 : decode cX5_printed 5 = .ok (.aload_n 0, 1) := by decide +kernel
theorem dX5_printed_6 : decode cX5_printed 6 = .ok (.getfield 36, 3) := by decide +kernel
theorem dX5_printed_9 : decode cX5_printed 9 = .ok (.bipush 6, 2) := by decide +kernel
theorem dX5_printed_11 : decode cX5_printed 11 = .ok (.iaload, 1) := by decide +kernel
theorem dX5_printed_12 : decode cX5_printed 12 = .ok (.if_icmp .ge 19, 3) := by decide +kernel
set_option maxHeartbeats 1000000 in
set_option maxRecDepth 100000 in
/-- printed(i) without a run: 0 -/
theorem c_printed (l : Launch) (G : pT) (k6 : Nat) (m1 : Nat) (m2 : Nat) (m3 : Nat) (m4 : Nat) (m5 : Nat) (m6 : Nat) (m7 : Nat) (x : Int32) : PM l G pX0 yX5_printed cX5_printed 2 (some .int) ({ frames := 2, cells := 0, slots := 0, locals := 60 }) [.ref k6, .int x] [(k6, .inr (4, [.ref m1, .ref m2, .ref m3, .ref m4, .ref m5, .int 0, .ref m6, .ref m7, .null, .null, .int 0, .int 0, .int 0, .int 0, .long 0, .int 0, .int 0, .int 0, .int 0])), (m7, .inl (G.2.1 0, 12, .inl (fun _ => 0)))] (fun (v : Option Value) (u : Unit) => v = some (.int 0)) (fun u => []) := by
  intro sz
  refine Met.ofW (cc := cX5_printed) (maxL := 2) (ret := (some .int)) (by decide) rfl ?_
  intro p e s m args below meth c s₁ B hml hv
  obtain ⟨rfl, hsz, hP, hD0, hE, hX⟩ := hv
  have hx := B.exec
  have hb := B.bytes
  have hr := B.returns
  have hts := atoms_spec (ws := Cond.code yX5_printed cX5_printed 2 (some .int) :: pw) B.pre
  have hq : ∀ w ∈ pw, w.before _ s = true := fun w h => hts w (List.mem_cons_of_mem _ h)
  have hown : s.vm.findClass RX5 = some m.cls := findClass_of_methodNamed B.named
  have hlocks := B.notSynchronized
  subst hsz
  have hD := hD0.self (sz := s.heap.size)
  have hA : ∀ q : Nat, s.heap.size ≤ q → va_A [(k6, .inr (4, [.ref m1, .ref m2, .ref m3, .ref m4, .ref m5, .int 0, .ref m6, .ref m7, .null, .null, .int 0, .int 0, .int 0, .int 0, .long 0, .int 0, .int 0, .int 0, .int 0])), (m7, .inl (G.2.1 0, 12, .inl (fun _ => 0)))] s.heap.size q := fun q h => Or.inr h
  have hP : va_P G.1 pCl [(k6, .inr (4, [.ref m1, .ref m2, .ref m3, .ref m4, .ref m5, .int 0, .ref m6, .ref m7, .null, .null, .int 0, .int 0, .int 0, .int 0, .long 0, .int 0, .int 0, .int 0, .int 0])), (m7, .inl (G.2.1 0, 12, .inl (fun _ => 0)))] s.heap := hP
  generalize va_A [(k6, .inr (4, [.ref m1, .ref m2, .ref m3, .ref m4, .ref m5, .int 0, .ref m6, .ref m7, .null, .null, .int 0, .int 0, .int 0, .int 0, .long 0, .int 0, .int 0, .int 0, .int 0])), (m7, .inl (G.2.1 0, 12, .inl (fun _ => 0)))] s.heap.size = A at hD hE hA ⊢
  have hS : va_S A s.heap s.heap [] := va_S.rf
  have hl := lv_entry ([.ref k6, .int x]) (n := 2) (Nat.le_of_ble_eq_true rfl)
  rw [lg_entry_eq]
  generalize (lg_sl ([.ref k6, .int x]) ++ List.replicate (2 - (lg_sl ([.ref k6, .int x])).length) Slot.unset).toArray = ls at hl ⊢
  have hl : lv_has ls 2 [(0, .ref k6), (1, .int x)] := hl
  refine lv_iload_n hx hb dX5_printed_0 rfl (lv_at hl 1 rfl) ?_
  refine lv_if_lt (tgt := 31) hx hb dX5_printed_1 (by decide) (fun c1 => ?_) (fun c1 => ?_)
  · refine lv_iconst (v := 0) hx hb dX5_printed_31 (by decide) ?_
    refine W.widen (k := 0) (n := 0) (Nat.le_of_ble_eq_true rfl) (Nat.le_of_ble_eq_true rfl) ?_
    exact W.iret (v := 0) hx hb hr (fun t ht hW => ⟨⟨_, (), rfl, rfl, by rw [ht]; exact hP.sub [] rfl, hD.sub [] (by decide) rfl⟩, hS.F ht⟩) hS.2.2 dX5_printed_32
  · refine lv_iload_n hx hb dX5_printed_4 rfl (lv_at hl 1 rfl) ?_
    refine lv_aload_n hx hb dX5_printed_5 rfl (lv_at hl 0 rfl) ?_
    refine va_get (D := G.1) (ci := 4) (v := .ref m7) (C := RX5) (T := TX5) (N := 19) hx hb hq pin_wsX50 hown hE.1.1 hP 0 rfl rfl 7 (by decide) (hq _ pw_115) (fun _ h9 => h9) rfl dX5_printed_6 ?_
    refine lv_bipush (v := 6) hx hb dX5_printed_9 (by decide) ?_
    refine va_iald hx hb hE.1.1 hP 1 0 rfl rfl (by unfold vp_in; decide) dX5_printed_11 ?_
    refine lv_topi (fun x2 e3 => ?_)
    obtain rfl : x2 = 0 := e3
    refine lv_icmp_ge (tgt := 31) hx hb dX5_printed_12 (by decide) (fun c4 => ?_) (fun c4 => absurd (Int32.not_lt.mp c1) c4)
    refine lv_iconst (v := 0) hx hb dX5_printed_31 (by decide) ?_
    refine W.widen (k := 0) (n := 0) (Nat.le_of_ble_eq_true rfl) (Nat.le_of_ble_eq_true rfl) ?_
    exact W.iret (v := 0) hx hb hr (fun t ht hW => ⟨⟨_, (), rfl, rfl, by rw [ht]; exact hP.sub [] rfl, hD.sub [] (by decide) rfl⟩, hS.F ht⟩) hS.2.2 dX5_printed_32
theorem dX11_output_0 : decode cX11_output 0 = .ok (.aload_n 0, 1) := by decide +kernel
theorem dX11_output_1 : decode cX11_output 1 = .ok (.getfield 50, 3) := by decide +kernel
theorem dX11_output_4 : decode cX11_output 4 = .ok (.iload_n 1, 1) := by decide +kernel
theorem dX11_output_5 : decode cX11_output 5 = .ok (.invokevirtual 186, 3) := by decide +kernel
theorem dX11_output_8 : decode cX11_output 8 = .ok (.ireturn, 1) := by decide +kernel
theorem hV_X5_printed : yX5_printed.cls = RX5 ∧ yX5_printed.cls ≠ "java/lang/invoke/MethodHandle" ∧ yX5_printed.cls ≠ "java/lang/invoke/VarHandle" ∧ (parseMethodDescriptor yX5_printed.desc).map (fun d => d.parameters.length) = some 1 := by decide +kernel
set_option maxHeartbeats 1000000 in
set_option maxRecDepth 100000 in
/-- output(i) without a run: 0 -/
theorem c_output (l : Launch) (G : pT) (h0 : Nat) (k1 : Nat) (k2 : Nat) (k3 : Nat) (k4 : Nat) (k5 : Nat) (k6 : Nat) (m1 : Nat) (m2 : Nat) (m3 : Nat) (m4 : Nat) (m5 : Nat) (m6 : Nat) (m7 : Nat) (x : Int32) : PM l G pX0 yX11_output cX11_output 2 (some .int) ({ frames := 3, cells := 0, slots := 0, locals := 81 }) [.ref h0, .int x] [(h0, .inr (8, [.ref k1, .int 0, .ref k2, .ref k3, .ref k4, .ref k5, .ref k6, .null])), (k6, .inr (4, [.ref m1, .ref m2, .ref m3, .ref m4, .ref m5, .int 0, .ref m6, .ref m7, .null, .null, .int 0, .int 0, .int 0, .int 0, .long 0, .int 0, .int 0, .int 0, .int 0])), (m7, .inl (G.2.1 0, 12, .inl (fun _ => 0)))] (fun (v : Option Value) (u : Unit) => v = some (.int 0)) (fun u => []) := by
  intro sz
  refine Met.ofW (cc := cX11_output) (maxL := 2) (ret := (some .int)) (by decide) rfl ?_
  intro p e s m args below meth c s₁ B hml hv
  obtain ⟨rfl, hsz, hP, hD0, hE, hX⟩ := hv
  have hx := B.exec
  have hb := B.bytes
  have hr := B.returns
  have hts := atoms_spec (ws := Cond.code yX11_output cX11_output 2 (some .int) :: pw) B.pre
  have hq : ∀ w ∈ pw, w.before _ s = true := fun w h => hts w (List.mem_cons_of_mem _ h)
  have hown : s.vm.findClass RX11 = some m.cls := findClass_of_methodNamed B.named
  have hlocks := B.notSynchronized
  subst hsz
  have hD := hD0.self (sz := s.heap.size)
  have hA : ∀ q : Nat, s.heap.size ≤ q → va_A [(h0, .inr (8, [.ref k1, .int 0, .ref k2, .ref k3, .ref k4, .ref k5, .ref k6, .null])), (k6, .inr (4, [.ref m1, .ref m2, .ref m3, .ref m4, .ref m5, .int 0, .ref m6, .ref m7, .null, .null, .int 0, .int 0, .int 0, .int 0, .long 0, .int 0, .int 0, .int 0, .int 0])), (m7, .inl (G.2.1 0, 12, .inl (fun _ => 0)))] s.heap.size q := fun q h => Or.inr h
  have hP : va_P G.1 pCl [(h0, .inr (8, [.ref k1, .int 0, .ref k2, .ref k3, .ref k4, .ref k5, .ref k6, .null])), (k6, .inr (4, [.ref m1, .ref m2, .ref m3, .ref m4, .ref m5, .int 0, .ref m6, .ref m7, .null, .null, .int 0, .int 0, .int 0, .int 0, .long 0, .int 0, .int 0, .int 0, .int 0])), (m7, .inl (G.2.1 0, 12, .inl (fun _ => 0)))] s.heap := hP
  generalize va_A [(h0, .inr (8, [.ref k1, .int 0, .ref k2, .ref k3, .ref k4, .ref k5, .ref k6, .null])), (k6, .inr (4, [.ref m1, .ref m2, .ref m3, .ref m4, .ref m5, .int 0, .ref m6, .ref m7, .null, .null, .int 0, .int 0, .int 0, .int 0, .long 0, .int 0, .int 0, .int 0, .int 0])), (m7, .inl (G.2.1 0, 12, .inl (fun _ => 0)))] s.heap.size = A at hD hE hA ⊢
  have hS : va_S A s.heap s.heap [] := va_S.rf
  have hl := lv_entry ([.ref h0, .int x]) (n := 2) (Nat.le_of_ble_eq_true rfl)
  rw [lg_entry_eq]
  generalize (lg_sl ([.ref h0, .int x]) ++ List.replicate (2 - (lg_sl ([.ref h0, .int x])).length) Slot.unset).toArray = ls at hl ⊢
  have hl : lv_has ls 2 [(0, .ref h0), (1, .int x)] := hl
  refine lv_aload_n hx hb dX11_output_0 rfl (lv_at hl 0 rfl) ?_
  refine va_get (D := G.1) (ci := 8) (v := .ref k6) (C := RX11) (T := TX11) (N := 8) hx hb hq pin_wsX110 hown hE.1.1 hP 0 rfl rfl 6 (by decide) (hq _ pw_16) (fun _ h9 => h9) rfl dX11_output_1 ?_
  refine lv_iload_n hx hb dX11_output_4 rfl (lv_at hl 1 rfl) ?_
  refine pc_V (G := G) (As := [.int x]) (rest := []) (wr := [(h0, .inr (8, [.ref k1, .int 0, .ref k2, .ref k3, .ref k4, .ref k5, .ref k6, .null]))]) hx hb hml hown hq hE hX pX0_al hP hD hS hA hl.1 (c_printed l G k6 m1 m2 m3 m4 m5 m6 m7 x) (gV pw_44 pw_468 pw_469 pw_463 pw_467) hV_X5_printed 1 4 rfl rfl rfl [1, 2] [0] rfl rfl (by decide) (by decide) (by decide) rfl (Nat.le_of_ble_eq_true rfl) dX11_output_5 ⟨Nat.le_of_ble_eq_true rfl, Nat.le_of_ble_eq_true rfl⟩ ⟨Nat.le_of_ble_eq_true rfl, Nat.le_of_ble_eq_true rfl⟩ (fun v3 u1 H locs hw2 hP hD hS => ?_)
  obtain rfl : v3 = some (.int 0) := hw2
  have hP : va_P G.1 pCl [(h0, .inr (8, [.ref k1, .int 0, .ref k2, .ref k3, .ref k4, .ref k5, .ref k6, .null]))] H := hP
  have hD : va_D A [(h0, .inr (8, [.ref k1, .int 0, .ref k2, .ref k3, .ref k4, .ref k5, .ref k6, .null]))] := hD
  refine W.widen (k := 0) (n := 0) (Nat.le_of_ble_eq_true rfl) (Nat.le_of_ble_eq_true rfl) ?_
  refine W.eq (g2 := F0 m 8 ls [.int 0]) rfl ?_
  refine W.widen (k := 0) (n := 0) (Nat.le_of_ble_eq_true rfl) (Nat.le_of_ble_eq_true rfl) ?_
  exact W.iret (v := 0) hx hb hr (fun t ht hW => ⟨⟨_, (), rfl, rfl, by rw [ht]; exact hP.sub [] rfl, hD.sub [] (by decide) rfl⟩, hS.F ht⟩) hS.2.2 dX11_output_8
theorem dX5_told_0 : decode cX5_told 0 = .ok (.iload_n 1, 1) := by decide +kernel
theorem dX5_told_1 : decode cX5_told 1 = .ok (.iconst 5, 1) := by decide +kernel
theorem dX5_told_2 : decode cX5_told 2 = .ok (.if_icmp .lt 18, 3) := by decide +kernel
theorem dX5_told_20 : decode cX5_told 20 = .ok (.iconst (-1), 1) := by decide +kernel
theorem dX5_told_21 : decode cX5_told 21 = .ok (.ireturn, 1) := by decide +kernel
theorem dX5_told_5 : decode cX5_told 5 = .ok (.iload_n 1, 1) := by decide +kernel
theorem dX5_told_6 : decode cX5_told 6 = .ok (.bipush 11, 2) := by decide +kernel
theorem dX5_told_8 : decode cX5_told 8 = .ok (.if_icmp .gt 12, 3) := by decide +kernel
theorem dX5_told_11 : decode cX5_told 11 = .ok (.aload_n 0, 1) := by decide +kernel
theorem dX5_told_12 : decode cX5_told 12 = .ok (.getfield 36, 3) := by decide +kernel
theorem dX5_told_15 : decode cX5_told 15 = .ok (.iload_n 1, 1) := by decide +kernel
theorem dX5_told_16 : decode cX5_told 16 = .ok (.iaload, 1) := by decide +kernel
theorem dX5_told_17 : decode cX5_told 17 = .ok (.goto 4, 3) := by decide +kernel
set_option maxHeartbeats 1000000 in
set_option maxRecDepth 100000 in
/-- told(what) without a run -/
theorem c_told (l : Launch) (G : pT) (k6 : Nat) (m1 : Nat) (m2 : Nat) (m3 : Nat) (m4 : Nat) (m5 : Nat) (m6 : Nat) (m7 : Nat) (x : Int32) : PM l G pX0 yX5_told cX5_told 2 (some .int) ({ frames := 2, cells := 0, slots := 0, locals := 60 }) [.ref k6, .int x] [(k6, .inr (4, [.ref m1, .ref m2, .ref m3, .ref m4, .ref m5, .int 0, .ref m6, .ref m7, .null, .null, .int 0, .int 0, .int 0, .int 0, .long 0, .int 0, .int 0, .int 0, .int 0])), (m7, .inl (G.2.1 0, 12, .inl (fun _ => 0)))] (fun (v : Option Value) (u : Unit) => v = some (.int (tld x))) (fun u => []) := by
  intro sz
  refine Met.ofW (cc := cX5_told) (maxL := 2) (ret := (some .int)) (by decide) rfl ?_
  intro p e s m args below meth c s₁ B hml hv
  obtain ⟨rfl, hsz, hP, hD0, hE, hX⟩ := hv
  have hx := B.exec
  have hb := B.bytes
  have hr := B.returns
  have hts := atoms_spec (ws := Cond.code yX5_told cX5_told 2 (some .int) :: pw) B.pre
  have hq : ∀ w ∈ pw, w.before _ s = true := fun w h => hts w (List.mem_cons_of_mem _ h)
  have hown : s.vm.findClass RX5 = some m.cls := findClass_of_methodNamed B.named
  have hlocks := B.notSynchronized
  subst hsz
  have hD := hD0.self (sz := s.heap.size)
  have hA : ∀ q : Nat, s.heap.size ≤ q → va_A [(k6, .inr (4, [.ref m1, .ref m2, .ref m3, .ref m4, .ref m5, .int 0, .ref m6, .ref m7, .null, .null, .int 0, .int 0, .int 0, .int 0, .long 0, .int 0, .int 0, .int 0, .int 0])), (m7, .inl (G.2.1 0, 12, .inl (fun _ => 0)))] s.heap.size q := fun q h => Or.inr h
  have hP : va_P G.1 pCl [(k6, .inr (4, [.ref m1, .ref m2, .ref m3, .ref m4, .ref m5, .int 0, .ref m6, .ref m7, .null, .null, .int 0, .int 0, .int 0, .int 0, .long 0, .int 0, .int 0, .int 0, .int 0])), (m7, .inl (G.2.1 0, 12, .inl (fun _ => 0)))] s.heap := hP
  generalize va_A [(k6, .inr (4, [.ref m1, .ref m2, .ref m3, .ref m4, .ref m5, .int 0, .ref m6, .ref m7, .null, .null, .int 0, .int 0, .int 0, .int 0, .long 0, .int 0, .int 0, .int 0, .int 0])), (m7, .inl (G.2.1 0, 12, .inl (fun _ => 0)))] s.heap.size = A at hD hE hA ⊢
  have hS : va_S A s.heap s.heap [] := va_S.rf
  have hl := lv_entry ([.ref k6, .int x]) (n := 2) (Nat.le_of_ble_eq_true rfl)
  rw [lg_entry_eq]
  generalize (lg_sl ([.ref k6, .int x]) ++ List.replicate (2 - (lg_sl ([.ref k6, .int x])).length) Slot.unset).toArray = ls at hl ⊢
  have hl : lv_has ls 2 [(0, .ref k6), (1, .int x)] := hl
  refine lv_iload_n hx hb dX5_told_0 rfl (lv_at hl 1 rfl) ?_
  refine lv_iconst (v := 5) hx hb dX5_told_1 (by decide) ?_
  refine lv_icmp_lt (tgt := 20) hx hb dX5_told_2 (by decide) (fun c1 => ?_) (fun c1 => ?_)
  · refine lv_iconst (v := (-1)) hx hb dX5_told_20 (by decide) ?_
    refine W.widen (k := 0) (n := 0) (Nat.le_of_ble_eq_true rfl) (Nat.le_of_ble_eq_true rfl) ?_
    exact W.iret (v := (-1)) hx hb hr (fun t ht hW => ⟨⟨_, (), rfl, (by unfold tld; rw [if_pos (Or.inl c1)]), by rw [ht]; exact hP.sub [] rfl, hD.sub [] (by decide) rfl⟩, hS.F ht⟩) hS.2.2 dX5_told_21
  · refine lv_iload_n hx hb dX5_told_5 rfl (lv_at hl 1 rfl) ?_
    refine lv_bipush (v := 11) hx hb dX5_told_6 (by decide) ?_
    refine lv_icmp_gt (tgt := 20) hx hb dX5_told_8 (by decide) (fun c2 => ?_) (fun c2 => ?_)
    · refine lv_iconst (v := (-1)) hx hb dX5_told_20 (by decide) ?_
      refine W.widen (k := 0) (n := 0) (Nat.le_of_ble_eq_true rfl) (Nat.le_of_ble_eq_true rfl) ?_
      exact W.iret (v := (-1)) hx hb hr (fun t ht hW => ⟨⟨_, (), rfl, (by unfold tld; rw [if_pos (Or.inr c2)]), by rw [ht]; exact hP.sub [] rfl, hD.sub [] (by decide) rfl⟩, hS.F ht⟩) hS.2.2 dX5_told_21
    · refine lv_aload_n hx hb dX5_told_11 rfl (lv_at hl 0 rfl) ?_
      refine va_get (D := G.1) (ci := 4) (v := .ref m7) (C := RX5) (T := TX5) (N := 19) hx hb hq pin_wsX50 hown hE.1.1 hP 0 rfl rfl 7 (by decide) (hq _ pw_115) (fun _ h9 => h9) rfl dX5_told_12 ?_
      refine lv_iload_n hx hb dX5_told_15 rfl (lv_at hl 1 rfl) ?_
      refine va_iald hx hb hE.1.1 hP 1 0 rfl rfl (in12 c1 c2) dX5_told_16 ?_
      refine lv_topi (fun x3 e4 => ?_)
      obtain rfl : x3 = 0 := e4
      refine lv_goto (tgt := 21) hx hb dX5_told_17 (by decide) ?_
      refine W.widen (k := 0) (n := 0) (Nat.le_of_ble_eq_true rfl) (Nat.le_of_ble_eq_true rfl) ?_
      exact W.iret (v := 0) hx hb hr (fun t ht hW => ⟨⟨_, (), rfl, (by unfold tld; rw [if_neg (fun q => q.elim c1 c2)]), by rw [ht]; exact hP.sub [] rfl, hD.sub [] (by decide) rfl⟩, hS.F ht⟩) hS.2.2 dX5_told_21
theorem dX11_count_0 : decode cX11_count 0 = .ok (.iload_n 1, 1) := by decide +kernel
theorem dX11_count_1 : decode cX11_count 1 = .ok (.tableswitch 108 0 4 #[35, 40, 48, 67, 86], 35) := by decide +kernel
theorem dX11_count_36 : decode cX11_count 36 = .ok (.aload_n 0, 1) := by decide +kernel
theorem dX11_count_37 : decode cX11_count 37 = .ok (.getfield 54, 3) := by decide +kernel
theorem dX11_count_40 : decode cX11_count 40 = .ok (.ireturn, 1) := by decide +kernel
theorem dX11_count_41 : decode cX11_count 41 = .ok (.aload_n 0, 1) := by decide +kernel
theorem dX11_count_42 : decode cX11_count 42 = .ok (.getfield 50, 3) := by decide +kernel
theorem dX11_count_45 : decode cX11_count 45 = .ok (.getfield 163, 3) := by decide +kernel
theorem dX11_count_48 : decode cX11_count 48 = .ok (.ireturn, 1) := by decide +kernel
theorem dX11_count_49 : decode cX11_count 49 = .ok (.aload_n 0, 1) := by decide +kernel
theorem dX11_count_50 : decode cX11_count 50 = .ok (.getfield 69, 3) := by decide +kernel
theorem dX11_count_53 : decode cX11_count 53 = .ok (.ifnonnull 7, 3) := by decide +kernel
theorem dX11_count_56 : decode cX11_count 56 = .ok (.iconst 0, 1) := by decide +kernel
theorem dX11_count_57 : decode cX11_count 57 = .ok (.goto 10, 3) := by decide +kernel
theorem dX11_count_67 : decode cX11_count 67 = .ok (.ireturn, 1) := by decide +kernel
theorem dX11_count_68 : decode cX11_count 68 = .ok (.aload_n 0, 1) := by decide +kernel
theorem dX11_count_69 : decode cX11_count 69 = .ok (.getfield 69, 3) := by decide +kernel
theorem dX11_count_72 : decode cX11_count 72 = .ok (.ifnonnull 7, 3) := by decide +kernel
theorem dX11_count_75 : decode cX11_count 75 = .ok (.iconst 0, 1) := by decide +kernel
theorem dX11_count_76 : decode cX11_count 76 = .ok (.goto 10, 3) := by decide +kernel
theorem dX11_count_86 : decode cX11_count 86 = .ok (.ireturn, 1) := by decide +kernel
theorem dX11_count_87 : decode cX11_count 87 = .ok (.aload_n 0, 1) := by decide +kernel
theorem dX11_count_88 : decode cX11_count 88 = .ok (.getfield 69, 3) := by decide +kernel
theorem dX11_count_91 : decode cX11_count 91 = .ok (.ifnonnull 7, 3) := by decide +kernel
theorem dX11_count_94 : decode cX11_count 94 = .ok (.iconst 0, 1) := by decide +kernel
theorem dX11_count_95 : decode cX11_count 95 = .ok (.goto 13, 3) := by decide +kernel
theorem dX11_count_108 : decode cX11_count 108 = .ok (.ireturn, 1) := by decide +kernel
theorem dX11_count_109 : decode cX11_count 109 = .ok (.aload_n 0, 1) := by decide +kernel
theorem dX11_count_110 : decode cX11_count 110 = .ok (.getfield 50, 3) := by decide +kernel
theorem dX11_count_113 : decode cX11_count 113 = .ok (.iload_n 1, 1) := by decide +kernel
theorem dX11_count_114 : decode cX11_count 114 = .ok (.invokevirtual 198, 3) := by decide +kernel
theorem dX11_count_117 : decode cX11_count 117 = .ok (.ireturn, 1) := by decide +kernel
theorem hV_X5_told : yX5_told.cls = RX5 ∧ yX5_told.cls ≠ "java/lang/invoke/MethodHandle" ∧ yX5_told.cls ≠ "java/lang/invoke/VarHandle" ∧ (parseMethodDescriptor yX5_told.desc).map (fun d => d.parameters.length) = some 1 := by decide +kernel
set_option maxHeartbeats 1000000 in
set_option maxRecDepth 100000 in
/-- count(what) on a fresh object -/
theorem c_count (l : Launch) (G : pT) (h0 : Nat) (k1 : Nat) (k2 : Nat) (k3 : Nat) (k4 : Nat) (k5 : Nat) (k6 : Nat) (m1 : Nat) (m2 : Nat) (m3 : Nat) (m4 : Nat) (m5 : Nat) (m6 : Nat) (m7 : Nat) (x : Int32) : PM l G pX0 yX11_count cX11_count 2 (some .int) ({ frames := 3, cells := 0, slots := 0, locals := 81 }) [.ref h0, .int x] [(h0, .inr (8, [.ref k1, .int 0, .ref k2, .ref k3, .ref k4, .ref k5, .ref k6, .null])), (k6, .inr (4, [.ref m1, .ref m2, .ref m3, .ref m4, .ref m5, .int 0, .ref m6, .ref m7, .null, .null, .int 0, .int 0, .int 0, .int 0, .long 0, .int 0, .int 0, .int 0, .int 0])), (m7, .inl (G.2.1 0, 12, .inl (fun _ => 0)))] (fun (v : Option Value) (u : Unit) => v = some (.int (cnt x))) (fun u => []) := by
  intro sz
  refine Met.ofW (cc := cX11_count) (maxL := 2) (ret := (some .int)) (by decide) rfl ?_
  intro p e s m args below meth c s₁ B hml hv
  obtain ⟨rfl, hsz, hP, hD0, hE, hX⟩ := hv
  have hx := B.exec
  have hb := B.bytes
  have hr := B.returns
  have hts := atoms_spec (ws := Cond.code yX11_count cX11_count 2 (some .int) :: pw) B.pre
  have hq : ∀ w ∈ pw, w.before _ s = true := fun w h => hts w (List.mem_cons_of_mem _ h)
  have hown : s.vm.findClass RX11 = some m.cls := findClass_of_methodNamed B.named
  have hlocks := B.notSynchronized
  subst hsz
  have hD := hD0.self (sz := s.heap.size)
  have hA : ∀ q : Nat, s.heap.size ≤ q → va_A [(h0, .inr (8, [.ref k1, .int 0, .ref k2, .ref k3, .ref k4, .ref k5, .ref k6, .null])), (k6, .inr (4, [.ref m1, .ref m2, .ref m3, .ref m4, .ref m5, .int 0, .ref m6, .ref m7, .null, .null, .int 0, .int 0, .int 0, .int 0, .long 0, .int 0, .int 0, .int 0, .int 0])), (m7, .inl (G.2.1 0, 12, .inl (fun _ => 0)))] s.heap.size q := fun q h => Or.inr h
  have hP : va_P G.1 pCl [(h0, .inr (8, [.ref k1, .int 0, .ref k2, .ref k3, .ref k4, .ref k5, .ref k6, .null])), (k6, .inr (4, [.ref m1, .ref m2, .ref m3, .ref m4, .ref m5, .int 0, .ref m6, .ref m7, .null, .null, .int 0, .int 0, .int 0, .int 0, .long 0, .int 0, .int 0, .int 0, .int 0])), (m7, .inl (G.2.1 0, 12, .inl (fun _ => 0)))] s.heap := hP
  generalize va_A [(h0, .inr (8, [.ref k1, .int 0, .ref k2, .ref k3, .ref k4, .ref k5, .ref k6, .null])), (k6, .inr (4, [.ref m1, .ref m2, .ref m3, .ref m4, .ref m5, .int 0, .ref m6, .ref m7, .null, .null, .int 0, .int 0, .int 0, .int 0, .long 0, .int 0, .int 0, .int 0, .int 0])), (m7, .inl (G.2.1 0, 12, .inl (fun _ => 0)))] s.heap.size = A at hD hE hA ⊢
  have hS : va_S A s.heap s.heap [] := va_S.rf
  have hl := lv_entry ([.ref h0, .int x]) (n := 2) (Nat.le_of_ble_eq_true rfl)
  rw [lg_entry_eq]
  generalize (lg_sl ([.ref h0, .int x]) ++ List.replicate (2 - (lg_sl ([.ref h0, .int x])).length) Slot.unset).toArray = ls at hl ⊢
  have hl : lv_has ls 2 [(0, .ref h0), (1, .int x)] := hl
  refine lv_iload_n hx hb dX11_count_0 rfl (lv_at hl 1 rfl) ?_
  by_cases h1 : x = 0
  · subst h1
    refine lv_tableIn (tgt := 36) (off := 35) hx hb dX11_count_1 (by decide) (by decide) (by decide) (by decide) ?_
    refine lv_aload_n hx hb dX11_count_36 rfl (lv_at hl 0 rfl) ?_
    refine va_get (D := G.1) (ci := 8) (v := .int 0) (C := RX11) (T := TX11) (N := 8) hx hb hq pin_wsX110 hown hE.1.1 hP 0 rfl rfl 1 (by decide) (hq _ pw_17) (fun _ h9 => h9) rfl dX11_count_37 ?_
    refine W.widen (k := 0) (n := 0) (Nat.le_of_ble_eq_true rfl) (Nat.le_of_ble_eq_true rfl) ?_
    exact W.iret (v := 0) hx hb hr (fun t ht hW => ⟨⟨_, (), rfl, rfl, by rw [ht]; exact hP.sub [] rfl, hD.sub [] (by decide) rfl⟩, hS.F ht⟩) hS.2.2 dX11_count_40
  by_cases h2 : x = 1
  · subst h2
    refine lv_tableIn (tgt := 41) (off := 40) hx hb dX11_count_1 (by decide) (by decide) (by decide) (by decide) ?_
    refine lv_aload_n hx hb dX11_count_41 rfl (lv_at hl 0 rfl) ?_
    refine va_get (D := G.1) (ci := 8) (v := .ref k6) (C := RX11) (T := TX11) (N := 8) hx hb hq pin_wsX110 hown hE.1.1 hP 0 rfl rfl 6 (by decide) (hq _ pw_16) (fun _ h9 => h9) rfl dX11_count_42 ?_
    refine va_get (D := G.1) (ci := 4) (v := .int 0) (C := RX5) (T := TX5) (N := 19) hx hb hq pin_wsX50 hown hE.1.1 hP 1 rfl rfl 5 (by decide) (hq _ pw_40) (fun _ h9 => h9) rfl dX11_count_45 ?_
    refine W.widen (k := 0) (n := 0) (Nat.le_of_ble_eq_true rfl) (Nat.le_of_ble_eq_true rfl) ?_
    exact W.iret (v := 0) hx hb hr (fun t ht hW => ⟨⟨_, (), rfl, rfl, by rw [ht]; exact hP.sub [] rfl, hD.sub [] (by decide) rfl⟩, hS.F ht⟩) hS.2.2 dX11_count_48
  by_cases h3 : x = 2
  · subst h3
    refine lv_tableIn (tgt := 49) (off := 48) hx hb dX11_count_1 (by decide) (by decide) (by decide) (by decide) ?_
    refine lv_aload_n hx hb dX11_count_49 rfl (lv_at hl 0 rfl) ?_
    refine va_get (D := G.1) (ci := 8) (v := .null) (C := RX11) (T := TX11) (N := 8) hx hb hq pin_wsX110 hown hE.1.1 hP 0 rfl rfl 7 (by decide) (hq _ pw_21) (fun _ h9 => h9) rfl dX11_count_50 ?_
    refine lv_ifnonnullN hx hb dX11_count_53 ?_
    refine lv_iconst (v := 0) hx hb dX11_count_56 (by decide) ?_
    refine lv_goto (tgt := 67) hx hb dX11_count_57 (by decide) ?_
    refine W.widen (k := 0) (n := 0) (Nat.le_of_ble_eq_true rfl) (Nat.le_of_ble_eq_true rfl) ?_
    exact W.iret (v := 0) hx hb hr (fun t ht hW => ⟨⟨_, (), rfl, rfl, by rw [ht]; exact hP.sub [] rfl, hD.sub [] (by decide) rfl⟩, hS.F ht⟩) hS.2.2 dX11_count_67
  by_cases h4 : x = 3
  · subst h4
    refine lv_tableIn (tgt := 68) (off := 67) hx hb dX11_count_1 (by decide) (by decide) (by decide) (by decide) ?_
    refine lv_aload_n hx hb dX11_count_68 rfl (lv_at hl 0 rfl) ?_
    refine va_get (D := G.1) (ci := 8) (v := .null) (C := RX11) (T := TX11) (N := 8) hx hb hq pin_wsX110 hown hE.1.1 hP 0 rfl rfl 7 (by decide) (hq _ pw_21) (fun _ h9 => h9) rfl dX11_count_69 ?_
    refine lv_ifnonnullN hx hb dX11_count_72 ?_
    refine lv_iconst (v := 0) hx hb dX11_count_75 (by decide) ?_
    refine lv_goto (tgt := 86) hx hb dX11_count_76 (by decide) ?_
    refine W.widen (k := 0) (n := 0) (Nat.le_of_ble_eq_true rfl) (Nat.le_of_ble_eq_true rfl) ?_
    exact W.iret (v := 0) hx hb hr (fun t ht hW => ⟨⟨_, (), rfl, rfl, by rw [ht]; exact hP.sub [] rfl, hD.sub [] (by decide) rfl⟩, hS.F ht⟩) hS.2.2 dX11_count_86
  by_cases h5 : x = 4
  · subst h5
    refine lv_tableIn (tgt := 87) (off := 86) hx hb dX11_count_1 (by decide) (by decide) (by decide) (by decide) ?_
    refine lv_aload_n hx hb dX11_count_87 rfl (lv_at hl 0 rfl) ?_
    refine va_get (D := G.1) (ci := 8) (v := .null) (C := RX11) (T := TX11) (N := 8) hx hb hq pin_wsX110 hown hE.1.1 hP 0 rfl rfl 7 (by decide) (hq _ pw_21) (fun _ h9 => h9) rfl dX11_count_88 ?_
    refine lv_ifnonnullN hx hb dX11_count_91 ?_
    refine lv_iconst (v := 0) hx hb dX11_count_94 (by decide) ?_
    refine lv_goto (tgt := 108) hx hb dX11_count_95 (by decide) ?_
    refine W.widen (k := 0) (n := 0) (Nat.le_of_ble_eq_true rfl) (Nat.le_of_ble_eq_true rfl) ?_
    exact W.iret (v := 0) hx hb hr (fun t ht hW => ⟨⟨_, (), rfl, rfl, by rw [ht]; exact hP.sub [] rfl, hD.sub [] (by decide) rfl⟩, hS.F ht⟩) hS.2.2 dX11_count_108
  refine lv_tableOut (tgt := 109) hx hb dX11_count_1 (sw_out4 h1 h2 h3 h4 h5) (by decide) ?_
  refine lv_aload_n hx hb dX11_count_109 rfl (lv_at hl 0 rfl) ?_
  refine va_get (D := G.1) (ci := 8) (v := .ref k6) (C := RX11) (T := TX11) (N := 8) hx hb hq pin_wsX110 hown hE.1.1 hP 0 rfl rfl 6 (by decide) (hq _ pw_16) (fun _ h9 => h9) rfl dX11_count_110 ?_
  refine lv_iload_n hx hb dX11_count_113 rfl (lv_at hl 1 rfl) ?_
  refine pc_V (G := G) (As := [.int x]) (rest := []) (wr := [(h0, .inr (8, [.ref k1, .int 0, .ref k2, .ref k3, .ref k4, .ref k5, .ref k6, .null]))]) hx hb hml hown hq hE hX pX0_al hP hD hS hA hl.1 (c_told l G k6 m1 m2 m3 m4 m5 m6 m7 x) (gV pw_49 pw_471 pw_472 pw_463 pw_470) hV_X5_told 1 4 rfl rfl rfl [1, 2] [0] rfl rfl (by decide) (by decide) (by decide) rfl (Nat.le_of_ble_eq_true rfl) dX11_count_114 ⟨Nat.le_of_ble_eq_true rfl, Nat.le_of_ble_eq_true rfl⟩ ⟨Nat.le_of_ble_eq_true rfl, Nat.le_of_ble_eq_true rfl⟩ (fun v8 u6 H locs hw7 hP hD hS => ?_)
  obtain rfl : v8 = some (.int (tld x)) := hw7
  have hP : va_P G.1 pCl [(h0, .inr (8, [.ref k1, .int 0, .ref k2, .ref k3, .ref k4, .ref k5, .ref k6, .null]))] H := hP
  have hD : va_D A [(h0, .inr (8, [.ref k1, .int 0, .ref k2, .ref k3, .ref k4, .ref k5, .ref k6, .null]))] := hD
  refine W.widen (k := 0) (n := 0) (Nat.le_of_ble_eq_true rfl) (Nat.le_of_ble_eq_true rfl) ?_
  refine W.eq (g2 := F0 m 117 ls [.int (tld x)]) rfl ?_
  refine W.widen (k := 0) (n := 0) (Nat.le_of_ble_eq_true rfl) (Nat.le_of_ble_eq_true rfl) ?_
  exact W.iret (v := (tld x)) hx hb hr (fun t ht hW => ⟨⟨_, (), rfl, (by rw [tld_cnt h1 h2 h3 h4 h5]), by rw [ht]; exact hP.sub [] rfl, hD.sub [] (by decide) rfl⟩, hS.F ht⟩) hS.2.2 dX11_count_117
end
