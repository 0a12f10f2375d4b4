section
-- ===== PART A: goes FIRST, ahead of the names: the tables' words, and 'selects' of the private methods out of them =====
/-- a private method of a class that the tables say can be made, by its rows of tables_1 -/
def lw_okq (q : MethodName × Nat) : Prop := (q.1.cls ≠ "java/lang/invoke/MethodHandle" ∧ q.1.cls ≠ "java/lang/invoke/VarHandle") ∧ Cond.instantiable q.1.cls q.2 ∈ tables_1 ∧ Cond.privateMethod q.1 ∈ tables_1 ∧ Cond.instanceMethod q.1 ∈ tables_1
theorem lw_p0 : lw_okq (⟨"PathReader", "refuse", "(I)I"⟩, 6) := ⟨⟨by decide +kernel, by decide +kernel⟩, List.mem_of_getElem? (i := 13) (by decide +kernel), List.mem_of_getElem? (i := 231) (by decide +kernel), List.mem_of_getElem? (i := 232) (by decide +kernel)⟩
theorem lw_p1 : lw_okq (⟨"PathReader$Chart", "reckonLinks", "(LPathReader$State;II)V"⟩, 7) := ⟨⟨by decide +kernel, by decide +kernel⟩, List.mem_of_getElem? (i := 126) (by decide +kernel), List.mem_of_getElem? (i := 347) (by decide +kernel), List.mem_of_getElem? (i := 348) (by decide +kernel)⟩
theorem lw_p2 : lw_okq (⟨"PathReader$Chart", "reckonSpan", "(III)V"⟩, 7) := ⟨⟨by decide +kernel, by decide +kernel⟩, List.mem_of_getElem? (i := 126) (by decide +kernel), List.mem_of_getElem? (i := 378) (by decide +kernel), List.mem_of_getElem? (i := 379) (by decide +kernel)⟩
theorem lw_p3 : lw_okq (⟨"PathReader$Chart", "reckonTree", "(IIII)V"⟩, 7) := ⟨⟨by decide +kernel, by decide +kernel⟩, List.mem_of_getElem? (i := 126) (by decide +kernel), List.mem_of_getElem? (i := 382) (by decide +kernel), List.mem_of_getElem? (i := 383) (by decide +kernel)⟩
theorem lw_p4 : lw_okq (⟨"PathReader$Chart", "reckonTrees", "(IIII)V"⟩, 7) := ⟨⟨by decide +kernel, by decide +kernel⟩, List.mem_of_getElem? (i := 126) (by decide +kernel), List.mem_of_getElem? (i := 389) (by decide +kernel), List.mem_of_getElem? (i := 390) (by decide +kernel)⟩
theorem lw_p5 : lw_okq (⟨"PathReader$Chart", "reckonRoots", "(LPathReader$State;I)V"⟩, 7) := ⟨⟨by decide +kernel, by decide +kernel⟩, List.mem_of_getElem? (i := 126) (by decide +kernel), List.mem_of_getElem? (i := 393) (by decide +kernel), List.mem_of_getElem? (i := 394) (by decide +kernel)⟩
theorem lw_p6 : lw_okq (⟨"PathReader$State", "isHangingAllowed", "(II)Z"⟩, 2) := ⟨⟨by decide +kernel, by decide +kernel⟩, List.mem_of_getElem? (i := 21) (by decide +kernel), List.mem_of_getElem? (i := 497) (by decide +kernel), List.mem_of_getElem? (i := 498) (by decide +kernel)⟩
theorem lw_p7 : lw_okq (⟨"PathReader$State", "sortIn", "(II)I"⟩, 2) := ⟨⟨by decide +kernel, by decide +kernel⟩, List.mem_of_getElem? (i := 21) (by decide +kernel), List.mem_of_getElem? (i := 502) (by decide +kernel), List.mem_of_getElem? (i := 503) (by decide +kernel)⟩
theorem lw_p8 : lw_okq (⟨"PathReader$Script", "skipBlanks", "()V"⟩, 9) := ⟨⟨by decide +kernel, by decide +kernel⟩, List.mem_of_getElem? (i := 159) (by decide +kernel), List.mem_of_getElem? (i := 529) (by decide +kernel), List.mem_of_getElem? (i := 530) (by decide +kernel)⟩
theorem lw_p9 : lw_okq (⟨"PathReader$Script", "readOrder", "()Z"⟩, 9) := ⟨⟨by decide +kernel, by decide +kernel⟩, List.mem_of_getElem? (i := 159) (by decide +kernel), List.mem_of_getElem? (i := 533) (by decide +kernel), List.mem_of_getElem? (i := 534) (by decide +kernel)⟩
theorem lw_p10 : lw_okq (⟨"PathReader$Script", "here", "()I"⟩, 9) := ⟨⟨by decide +kernel, by decide +kernel⟩, List.mem_of_getElem? (i := 159) (by decide +kernel), List.mem_of_getElem? (i := 537) (by decide +kernel), List.mem_of_getElem? (i := 538) (by decide +kernel)⟩
theorem lw_p11 : lw_okq (⟨"PathReader$Script", "isFigureHere", "()Z"⟩, 9) := ⟨⟨by decide +kernel, by decide +kernel⟩, List.mem_of_getElem? (i := 159) (by decide +kernel), List.mem_of_getElem? (i := 544) (by decide +kernel), List.mem_of_getElem? (i := 545) (by decide +kernel)⟩
theorem lw_p12 : lw_okq (⟨"PathReader$Script", "readNumber", "(Z)Z"⟩, 9) := ⟨⟨by decide +kernel, by decide +kernel⟩, List.mem_of_getElem? (i := 159) (by decide +kernel), List.mem_of_getElem? (i := 548) (by decide +kernel), List.mem_of_getElem? (i := 549) (by decide +kernel)⟩
theorem lw_p13 : lw_okq (⟨"PathReader$Script", "keepNumber", "(I)V"⟩, 9) := ⟨⟨by decide +kernel, by decide +kernel⟩, List.mem_of_getElem? (i := 159) (by decide +kernel), List.mem_of_getElem? (i := 552) (by decide +kernel), List.mem_of_getElem? (i := 553) (by decide +kernel)⟩
theorem lw_p14 : lw_okq (⟨"PathReader", "doWords", "(I)Z"⟩, 6) := ⟨⟨by decide +kernel, by decide +kernel⟩, List.mem_of_getElem? (i := 13) (by decide +kernel), List.mem_of_getElem? (i := 561) (by decide +kernel), List.mem_of_getElem? (i := 562) (by decide +kernel)⟩
theorem lw_p15 : lw_okq (⟨"PathReader", "doOrder", "(I)Z"⟩, 6) := ⟨⟨by decide +kernel, by decide +kernel⟩, List.mem_of_getElem? (i := 13) (by decide +kernel), List.mem_of_getElem? (i := 573) (by decide +kernel), List.mem_of_getElem? (i := 574) (by decide +kernel)⟩
def lw_privs_1 : List (MethodName × Nat) := [(⟨"PathReader", "refuse", "(I)I"⟩, 6), (⟨"PathReader$Chart", "reckonLinks", "(LPathReader$State;II)V"⟩, 7), (⟨"PathReader$Chart", "reckonSpan", "(III)V"⟩, 7), (⟨"PathReader$Chart", "reckonTree", "(IIII)V"⟩, 7), (⟨"PathReader$Chart", "reckonTrees", "(IIII)V"⟩, 7), (⟨"PathReader$Chart", "reckonRoots", "(LPathReader$State;I)V"⟩, 7), (⟨"PathReader$State", "isHangingAllowed", "(II)Z"⟩, 2), (⟨"PathReader$State", "sortIn", "(II)I"⟩, 2), (⟨"PathReader$Script", "skipBlanks", "()V"⟩, 9), (⟨"PathReader$Script", "readOrder", "()Z"⟩, 9), (⟨"PathReader$Script", "here", "()I"⟩, 9), (⟨"PathReader$Script", "isFigureHere", "()Z"⟩, 9), (⟨"PathReader$Script", "readNumber", "(Z)Z"⟩, 9), (⟨"PathReader$Script", "keepNumber", "(I)V"⟩, 9), (⟨"PathReader", "doWords", "(I)Z"⟩, 6), (⟨"PathReader", "doOrder", "(I)Z"⟩, 6)]
theorem lw_r1 : ∀ q ∈ lw_privs_1, lw_okq q := List.forall_mem_cons.mpr ⟨lw_p0, List.forall_mem_cons.mpr ⟨lw_p1, List.forall_mem_cons.mpr ⟨lw_p2, List.forall_mem_cons.mpr ⟨lw_p3, List.forall_mem_cons.mpr ⟨lw_p4, List.forall_mem_cons.mpr ⟨lw_p5, List.forall_mem_cons.mpr ⟨lw_p6, List.forall_mem_cons.mpr ⟨lw_p7, List.forall_mem_cons.mpr ⟨lw_p8, List.forall_mem_cons.mpr ⟨lw_p9, List.forall_mem_cons.mpr ⟨lw_p10, List.forall_mem_cons.mpr ⟨lw_p11, List.forall_mem_cons.mpr ⟨lw_p12, List.forall_mem_cons.mpr ⟨lw_p13, List.forall_mem_cons.mpr ⟨lw_p14, List.forall_mem_cons.mpr ⟨lw_p15, fun _ h => absurd h List.not_mem_nil⟩⟩⟩⟩⟩⟩⟩⟩⟩⟩⟩⟩⟩⟩⟩⟩
theorem lw_p16 : lw_okq (⟨"PathReader", "doEntry", "(III)Z"⟩, 6) := ⟨⟨by decide +kernel, by decide +kernel⟩, List.mem_of_getElem? (i := 13) (by decide +kernel), List.mem_of_getElem? (i := 577) (by decide +kernel), List.mem_of_getElem? (i := 578) (by decide +kernel)⟩
theorem lw_p17 : lw_okq (⟨"PathReader", "digestOfSentence", "(J)J"⟩, 6) := ⟨⟨by decide +kernel, by decide +kernel⟩, List.mem_of_getElem? (i := 13) (by decide +kernel), List.mem_of_getElem? (i := 600) (by decide +kernel), List.mem_of_getElem? (i := 601) (by decide +kernel)⟩
theorem lw_p18 : lw_okq (⟨"PathReader", "digestOfGrammar", "(J)J"⟩, 6) := ⟨⟨by decide +kernel, by decide +kernel⟩, List.mem_of_getElem? (i := 13) (by decide +kernel), List.mem_of_getElem? (i := 606) (by decide +kernel), List.mem_of_getElem? (i := 607) (by decide +kernel)⟩
theorem lw_p19 : lw_okq (⟨"PathReaderModel", "laysTrees", "()V"⟩, 25) := ⟨⟨by decide +kernel, by decide +kernel⟩, List.mem_of_getElem? (i := 613) (by decide +kernel), List.mem_of_getElem? (i := 619) (by decide +kernel), List.mem_of_getElem? (i := 620) (by decide +kernel)⟩
theorem lw_p20 : lw_okq (⟨"PathReaderModel", "laysHeads", "(II)V"⟩, 25) := ⟨⟨by decide +kernel, by decide +kernel⟩, List.mem_of_getElem? (i := 613) (by decide +kernel), List.mem_of_getElem? (i := 623) (by decide +kernel), List.mem_of_getElem? (i := 624) (by decide +kernel)⟩
theorem lw_p21 : lw_okq (⟨"PathReaderModel", "isTree", "(I)Z"⟩, 25) := ⟨⟨by decide +kernel, by decide +kernel⟩, List.mem_of_getElem? (i := 613) (by decide +kernel), List.mem_of_getElem? (i := 627) (by decide +kernel), List.mem_of_getElem? (i := 628) (by decide +kernel)⟩
theorem lw_p22 : lw_okq (⟨"PathReaderModel", "comesTo", "(II)Z"⟩, 25) := ⟨⟨by decide +kernel, by decide +kernel⟩, List.mem_of_getElem? (i := 613) (by decide +kernel), List.mem_of_getElem? (i := 631) (by decide +kernel), List.mem_of_getElem? (i := 632) (by decide +kernel)⟩
theorem lw_p23 : lw_okq (⟨"PathReaderModel", "isBridged", "(I)Z"⟩, 25) := ⟨⟨by decide +kernel, by decide +kernel⟩, List.mem_of_getElem? (i := 613) (by decide +kernel), List.mem_of_getElem? (i := 635) (by decide +kernel), List.mem_of_getElem? (i := 636) (by decide +kernel)⟩
theorem lw_p24 : lw_okq (⟨"PathReaderModel", "no", "()I"⟩, 25) := ⟨⟨by decide +kernel, by decide +kernel⟩, List.mem_of_getElem? (i := 613) (by decide +kernel), List.mem_of_getElem? (i := 719) (by decide +kernel), List.mem_of_getElem? (i := 720) (by decide +kernel)⟩
theorem lw_p25 : lw_okq (⟨"PathReaderModel", "bad", "()I"⟩, 25) := ⟨⟨by decide +kernel, by decide +kernel⟩, List.mem_of_getElem? (i := 613) (by decide +kernel), List.mem_of_getElem? (i := 739) (by decide +kernel), List.mem_of_getElem? (i := 740) (by decide +kernel)⟩
theorem lw_p26 : lw_okq (⟨"PathReaderModel", "remembers", "()V"⟩, 25) := ⟨⟨by decide +kernel, by decide +kernel⟩, List.mem_of_getElem? (i := 613) (by decide +kernel), List.mem_of_getElem? (i := 743) (by decide +kernel), List.mem_of_getElem? (i := 744) (by decide +kernel)⟩
theorem lw_p27 : lw_okq (⟨"PathReaderModel", "exchanges", "(II)I"⟩, 25) := ⟨⟨by decide +kernel, by decide +kernel⟩, List.mem_of_getElem? (i := 613) (by decide +kernel), List.mem_of_getElem? (i := 750) (by decide +kernel), List.mem_of_getElem? (i := 751) (by decide +kernel)⟩
theorem lw_p28 : lw_okq (⟨"PathReaderModel", "full", "()I"⟩, 25) := ⟨⟨by decide +kernel, by decide +kernel⟩, List.mem_of_getElem? (i := 613) (by decide +kernel), List.mem_of_getElem? (i := 765) (by decide +kernel), List.mem_of_getElem? (i := 766) (by decide +kernel)⟩
theorem lw_p29 : lw_okq (⟨"PathReaderModel", "enters", "(III)I"⟩, 25) := ⟨⟨by decide +kernel, by decide +kernel⟩, List.mem_of_getElem? (i := 613) (by decide +kernel), List.mem_of_getElem? (i := 769) (by decide +kernel), List.mem_of_getElem? (i := 770) (by decide +kernel)⟩
theorem lw_p30 : lw_okq (⟨"PathReaderModel", "isEntry", "(I)Z"⟩, 25) := ⟨⟨by decide +kernel, by decide +kernel⟩, List.mem_of_getElem? (i := 613) (by decide +kernel), List.mem_of_getElem? (i := 785) (by decide +kernel), List.mem_of_getElem? (i := 786) (by decide +kernel)⟩
theorem lw_p31 : lw_okq (⟨"PathReaderModel", "listens", "(I)V"⟩, 25) := ⟨⟨by decide +kernel, by decide +kernel⟩, List.mem_of_getElem? (i := 613) (by decide +kernel), List.mem_of_getElem? (i := 793) (by decide +kernel), List.mem_of_getElem? (i := 794) (by decide +kernel)⟩
def lw_privs_2 : List (MethodName × Nat) := [(⟨"PathReader", "doEntry", "(III)Z"⟩, 6), (⟨"PathReader", "digestOfSentence", "(J)J"⟩, 6), (⟨"PathReader", "digestOfGrammar", "(J)J"⟩, 6), (⟨"PathReaderModel", "laysTrees", "()V"⟩, 25), (⟨"PathReaderModel", "laysHeads", "(II)V"⟩, 25), (⟨"PathReaderModel", "isTree", "(I)Z"⟩, 25), (⟨"PathReaderModel", "comesTo", "(II)Z"⟩, 25), (⟨"PathReaderModel", "isBridged", "(I)Z"⟩, 25), (⟨"PathReaderModel", "no", "()I"⟩, 25), (⟨"PathReaderModel", "bad", "()I"⟩, 25), (⟨"PathReaderModel", "remembers", "()V"⟩, 25), (⟨"PathReaderModel", "exchanges", "(II)I"⟩, 25), (⟨"PathReaderModel", "full", "()I"⟩, 25), (⟨"PathReaderModel", "enters", "(III)I"⟩, 25), (⟨"PathReaderModel", "isEntry", "(I)Z"⟩, 25), (⟨"PathReaderModel", "listens", "(I)V"⟩, 25)]
theorem lw_r2 : ∀ q ∈ lw_privs_2, lw_okq q := List.forall_mem_cons.mpr ⟨lw_p16, List.forall_mem_cons.mpr ⟨lw_p17, List.forall_mem_cons.mpr ⟨lw_p18, List.forall_mem_cons.mpr ⟨lw_p19, List.forall_mem_cons.mpr ⟨lw_p20, List.forall_mem_cons.mpr ⟨lw_p21, List.forall_mem_cons.mpr ⟨lw_p22, List.forall_mem_cons.mpr ⟨lw_p23, List.forall_mem_cons.mpr ⟨lw_p24, List.forall_mem_cons.mpr ⟨lw_p25, List.forall_mem_cons.mpr ⟨lw_p26, List.forall_mem_cons.mpr ⟨lw_p27, List.forall_mem_cons.mpr ⟨lw_p28, List.forall_mem_cons.mpr ⟨lw_p29, List.forall_mem_cons.mpr ⟨lw_p30, List.forall_mem_cons.mpr ⟨lw_p31, fun _ h => absurd h List.not_mem_nil⟩⟩⟩⟩⟩⟩⟩⟩⟩⟩⟩⟩⟩⟩⟩⟩
theorem lw_p32 : lw_okq (⟨"PathReaderModel", "wordAt", "(I)I"⟩, 25) := ⟨⟨by decide +kernel, by decide +kernel⟩, List.mem_of_getElem? (i := 613) (by decide +kernel), List.mem_of_getElem? (i := 797) (by decide +kernel), List.mem_of_getElem? (i := 798) (by decide +kernel)⟩
theorem lw_p33 : lw_okq (⟨"PathReaderModel", "holds", "(I)Z"⟩, 25) := ⟨⟨by decide +kernel, by decide +kernel⟩, List.mem_of_getElem? (i := 613) (by decide +kernel), List.mem_of_getElem? (i := 801) (by decide +kernel), List.mem_of_getElem? (i := 802) (by decide +kernel)⟩
theorem lw_p34 : lw_okq (⟨"PathReaderModel", "laysAhead", "(I)V"⟩, 25) := ⟨⟨by decide +kernel, by decide +kernel⟩, List.mem_of_getElem? (i := 613) (by decide +kernel), List.mem_of_getElem? (i := 805) (by decide +kernel), List.mem_of_getElem? (i := 806) (by decide +kernel)⟩
theorem lw_p35 : lw_okq (⟨"PathReaderModel", "laysHeld", "(I)V"⟩, 25) := ⟨⟨by decide +kernel, by decide +kernel⟩, List.mem_of_getElem? (i := 613) (by decide +kernel), List.mem_of_getElem? (i := 809) (by decide +kernel), List.mem_of_getElem? (i := 810) (by decide +kernel)⟩
theorem lw_p36 : lw_okq (⟨"PathReaderModel", "finds", "(IZ)V"⟩, 25) := ⟨⟨by decide +kernel, by decide +kernel⟩, List.mem_of_getElem? (i := 613) (by decide +kernel), List.mem_of_getElem? (i := 813) (by decide +kernel), List.mem_of_getElem? (i := 814) (by decide +kernel)⟩
theorem lw_p37 : lw_okq (⟨"PathReaderModel", "laysReadings", "(II)Z"⟩, 25) := ⟨⟨by decide +kernel, by decide +kernel⟩, List.mem_of_getElem? (i := 613) (by decide +kernel), List.mem_of_getElem? (i := 817) (by decide +kernel), List.mem_of_getElem? (i := 818) (by decide +kernel)⟩
theorem lw_p38 : lw_okq (⟨"PathReaderModel", "entryAt", "(I)I"⟩, 25) := ⟨⟨by decide +kernel, by decide +kernel⟩, List.mem_of_getElem? (i := 613) (by decide +kernel), List.mem_of_getElem? (i := 821) (by decide +kernel), List.mem_of_getElem? (i := 822) (by decide +kernel)⟩
theorem lw_p39 : lw_okq (⟨"PathReaderModel", "tries", "(IZ)V"⟩, 25) := ⟨⟨by decide +kernel, by decide +kernel⟩, List.mem_of_getElem? (i := 613) (by decide +kernel), List.mem_of_getElem? (i := 825) (by decide +kernel), List.mem_of_getElem? (i := 826) (by decide +kernel)⟩
theorem lw_p40 : lw_okq (⟨"PathReaderModel", "costOf", "(I)I"⟩, 25) := ⟨⟨by decide +kernel, by decide +kernel⟩, List.mem_of_getElem? (i := 613) (by decide +kernel), List.mem_of_getElem? (i := 829) (by decide +kernel), List.mem_of_getElem? (i := 830) (by decide +kernel)⟩
theorem lw_p41 : lw_okq (⟨"PathReaderModel", "priceOf", "(I)I"⟩, 25) := ⟨⟨by decide +kernel, by decide +kernel⟩, List.mem_of_getElem? (i := 613) (by decide +kernel), List.mem_of_getElem? (i := 833) (by decide +kernel), List.mem_of_getElem? (i := 834) (by decide +kernel)⟩
theorem lw_p42 : lw_okq (⟨"PathReaderModel", "betweenOf", "(I)I"⟩, 25) := ⟨⟨by decide +kernel, by decide +kernel⟩, List.mem_of_getElem? (i := 613) (by decide +kernel), List.mem_of_getElem? (i := 837) (by decide +kernel), List.mem_of_getElem? (i := 838) (by decide +kernel)⟩
theorem lw_p43 : lw_okq (⟨"PathReaderModel", "repairOf", "(I)I"⟩, 25) := ⟨⟨by decide +kernel, by decide +kernel⟩, List.mem_of_getElem? (i := 613) (by decide +kernel), List.mem_of_getElem? (i := 841) (by decide +kernel), List.mem_of_getElem? (i := 842) (by decide +kernel)⟩
theorem lw_p44 : lw_okq (⟨"PathReaderModel", "codeOf", "(I)I"⟩, 25) := ⟨⟨by decide +kernel, by decide +kernel⟩, List.mem_of_getElem? (i := 613) (by decide +kernel), List.mem_of_getElem? (i := 845) (by decide +kernel), List.mem_of_getElem? (i := 846) (by decide +kernel)⟩
theorem lw_p45 : lw_okq (⟨"PathReaderModel", "isBetter", "(III)Z"⟩, 25) := ⟨⟨by decide +kernel, by decide +kernel⟩, List.mem_of_getElem? (i := 613) (by decide +kernel), List.mem_of_getElem? (i := 849) (by decide +kernel), List.mem_of_getElem? (i := 850) (by decide +kernel)⟩
theorem lw_p46 : lw_okq (⟨"PathReaderModel", "isStuck", "()Z"⟩, 25) := ⟨⟨by decide +kernel, by decide +kernel⟩, List.mem_of_getElem? (i := 613) (by decide +kernel), List.mem_of_getElem? (i := 865) (by decide +kernel), List.mem_of_getElem? (i := 866) (by decide +kernel)⟩
theorem lw_p47 : lw_okq (⟨"PathReaderModel", "sumOf", "(I)I"⟩, 25) := ⟨⟨by decide +kernel, by decide +kernel⟩, List.mem_of_getElem? (i := 613) (by decide +kernel), List.mem_of_getElem? (i := 869) (by decide +kernel), List.mem_of_getElem? (i := 870) (by decide +kernel)⟩
def lw_privs_3 : List (MethodName × Nat) := [(⟨"PathReaderModel", "wordAt", "(I)I"⟩, 25), (⟨"PathReaderModel", "holds", "(I)Z"⟩, 25), (⟨"PathReaderModel", "laysAhead", "(I)V"⟩, 25), (⟨"PathReaderModel", "laysHeld", "(I)V"⟩, 25), (⟨"PathReaderModel", "finds", "(IZ)V"⟩, 25), (⟨"PathReaderModel", "laysReadings", "(II)Z"⟩, 25), (⟨"PathReaderModel", "entryAt", "(I)I"⟩, 25), (⟨"PathReaderModel", "tries", "(IZ)V"⟩, 25), (⟨"PathReaderModel", "costOf", "(I)I"⟩, 25), (⟨"PathReaderModel", "priceOf", "(I)I"⟩, 25), (⟨"PathReaderModel", "betweenOf", "(I)I"⟩, 25), (⟨"PathReaderModel", "repairOf", "(I)I"⟩, 25), (⟨"PathReaderModel", "codeOf", "(I)I"⟩, 25), (⟨"PathReaderModel", "isBetter", "(III)Z"⟩, 25), (⟨"PathReaderModel", "isStuck", "()Z"⟩, 25), (⟨"PathReaderModel", "sumOf", "(I)I"⟩, 25)]
theorem lw_r3 : ∀ q ∈ lw_privs_3, lw_okq q := List.forall_mem_cons.mpr ⟨lw_p32, List.forall_mem_cons.mpr ⟨lw_p33, List.forall_mem_cons.mpr ⟨lw_p34, List.forall_mem_cons.mpr ⟨lw_p35, List.forall_mem_cons.mpr ⟨lw_p36, List.forall_mem_cons.mpr ⟨lw_p37, List.forall_mem_cons.mpr ⟨lw_p38, List.forall_mem_cons.mpr ⟨lw_p39, List.forall_mem_cons.mpr ⟨lw_p40, List.forall_mem_cons.mpr ⟨lw_p41, List.forall_mem_cons.mpr ⟨lw_p42, List.forall_mem_cons.mpr ⟨lw_p43, List.forall_mem_cons.mpr ⟨lw_p44, List.forall_mem_cons.mpr ⟨lw_p45, List.forall_mem_cons.mpr ⟨lw_p46, List.forall_mem_cons.mpr ⟨lw_p47, fun _ h => absurd h List.not_mem_nil⟩⟩⟩⟩⟩⟩⟩⟩⟩⟩⟩⟩⟩⟩⟩⟩
theorem lw_p48 : lw_okq (⟨"PathReaderModel", "wordOf", "(II)I"⟩, 25) := ⟨⟨by decide +kernel, by decide +kernel⟩, List.mem_of_getElem? (i := 613) (by decide +kernel), List.mem_of_getElem? (i := 877) (by decide +kernel), List.mem_of_getElem? (i := 878) (by decide +kernel)⟩
theorem lw_p49 : lw_okq (⟨"PathReaderModel", "aboutHeld", "(I)I"⟩, 25) := ⟨⟨by decide +kernel, by decide +kernel⟩, List.mem_of_getElem? (i := 613) (by decide +kernel), List.mem_of_getElem? (i := 885) (by decide +kernel), List.mem_of_getElem? (i := 886) (by decide +kernel)⟩
theorem lw_p50 : lw_okq (⟨"PathReaderModel", "heldOf", "(I)I"⟩, 25) := ⟨⟨by decide +kernel, by decide +kernel⟩, List.mem_of_getElem? (i := 613) (by decide +kernel), List.mem_of_getElem? (i := 889) (by decide +kernel), List.mem_of_getElem? (i := 890) (by decide +kernel)⟩
theorem lw_p51 : lw_okq (⟨"PathReaderModel", "levelOf", "(I)I"⟩, 25) := ⟨⟨by decide +kernel, by decide +kernel⟩, List.mem_of_getElem? (i := 613) (by decide +kernel), List.mem_of_getElem? (i := 893) (by decide +kernel), List.mem_of_getElem? (i := 894) (by decide +kernel)⟩
theorem lw_p52 : lw_okq (⟨"PathReaderModel", "digitOf", "(III)I"⟩, 25) := ⟨⟨by decide +kernel, by decide +kernel⟩, List.mem_of_getElem? (i := 613) (by decide +kernel), List.mem_of_getElem? (i := 901) (by decide +kernel), List.mem_of_getElem? (i := 902) (by decide +kernel)⟩
theorem lw_p53 : lw_okq (⟨"PathReaderModel", "soundOf", "()I"⟩, 25) := ⟨⟨by decide +kernel, by decide +kernel⟩, List.mem_of_getElem? (i := 613) (by decide +kernel), List.mem_of_getElem? (i := 913) (by decide +kernel), List.mem_of_getElem? (i := 914) (by decide +kernel)⟩
theorem lw_p54 : lw_okq (⟨"PathReaderModel", "isRead", "()Z"⟩, 25) := ⟨⟨by decide +kernel, by decide +kernel⟩, List.mem_of_getElem? (i := 613) (by decide +kernel), List.mem_of_getElem? (i := 929) (by decide +kernel), List.mem_of_getElem? (i := 930) (by decide +kernel)⟩
theorem lw_p55 : lw_okq (⟨"PathReaderModel", "blanks", "()V"⟩, 25) := ⟨⟨by decide +kernel, by decide +kernel⟩, List.mem_of_getElem? (i := 613) (by decide +kernel), List.mem_of_getElem? (i := 933) (by decide +kernel), List.mem_of_getElem? (i := 934) (by decide +kernel)⟩
theorem lw_p56 : lw_okq (⟨"PathReaderModel", "isAt", "(II)Z"⟩, 25) := ⟨⟨by decide +kernel, by decide +kernel⟩, List.mem_of_getElem? (i := 613) (by decide +kernel), List.mem_of_getElem? (i := 937) (by decide +kernel), List.mem_of_getElem? (i := 938) (by decide +kernel)⟩
theorem lw_p57 : lw_okq (⟨"PathReaderModel", "fails", "(I)Z"⟩, 25) := ⟨⟨by decide +kernel, by decide +kernel⟩, List.mem_of_getElem? (i := 613) (by decide +kernel), List.mem_of_getElem? (i := 944) (by decide +kernel), List.mem_of_getElem? (i := 945) (by decide +kernel)⟩
theorem lw_p58 : lw_okq (⟨"PathReaderModel", "takesNumbers", "(I)Z"⟩, 25) := ⟨⟨by decide +kernel, by decide +kernel⟩, List.mem_of_getElem? (i := 613) (by decide +kernel), List.mem_of_getElem? (i := 948) (by decide +kernel), List.mem_of_getElem? (i := 949) (by decide +kernel)⟩
theorem lw_p59 : lw_okq (⟨"PathReaderModel", "takesNumber", "(I)Z"⟩, 25) := ⟨⟨by decide +kernel, by decide +kernel⟩, List.mem_of_getElem? (i := 613) (by decide +kernel), List.mem_of_getElem? (i := 955) (by decide +kernel), List.mem_of_getElem? (i := 956) (by decide +kernel)⟩
theorem lw_p60 : lw_okq (⟨"PathReaderModel", "obeys", "(I)Z"⟩, 25) := ⟨⟨by decide +kernel, by decide +kernel⟩, List.mem_of_getElem? (i := 613) (by decide +kernel), List.mem_of_getElem? (i := 959) (by decide +kernel), List.mem_of_getElem? (i := 960) (by decide +kernel)⟩
theorem lw_p61 : lw_okq (⟨"PathReaderModel", "entersTold", "(III)Z"⟩, 25) := ⟨⟨by decide +kernel, by decide +kernel⟩, List.mem_of_getElem? (i := 613) (by decide +kernel), List.mem_of_getElem? (i := 963) (by decide +kernel), List.mem_of_getElem? (i := 964) (by decide +kernel)⟩
theorem lw_p62 : lw_okq (⟨"PathReaderModel", "prices", "(IZI)Z"⟩, 25) := ⟨⟨by decide +kernel, by decide +kernel⟩, List.mem_of_getElem? (i := 613) (by decide +kernel), List.mem_of_getElem? (i := 967) (by decide +kernel), List.mem_of_getElem? (i := 968) (by decide +kernel)⟩
theorem lw_p63 : lw_okq (⟨"PathReaderModel", "listensAll", "(I)Z"⟩, 25) := ⟨⟨by decide +kernel, by decide +kernel⟩, List.mem_of_getElem? (i := 613) (by decide +kernel), List.mem_of_getElem? (i := 971) (by decide +kernel), List.mem_of_getElem? (i := 972) (by decide +kernel)⟩
def lw_privs_4 : List (MethodName × Nat) := [(⟨"PathReaderModel", "wordOf", "(II)I"⟩, 25), (⟨"PathReaderModel", "aboutHeld", "(I)I"⟩, 25), (⟨"PathReaderModel", "heldOf", "(I)I"⟩, 25), (⟨"PathReaderModel", "levelOf", "(I)I"⟩, 25), (⟨"PathReaderModel", "digitOf", "(III)I"⟩, 25), (⟨"PathReaderModel", "soundOf", "()I"⟩, 25), (⟨"PathReaderModel", "isRead", "()Z"⟩, 25), (⟨"PathReaderModel", "blanks", "()V"⟩, 25), (⟨"PathReaderModel", "isAt", "(II)Z"⟩, 25), (⟨"PathReaderModel", "fails", "(I)Z"⟩, 25), (⟨"PathReaderModel", "takesNumbers", "(I)Z"⟩, 25), (⟨"PathReaderModel", "takesNumber", "(I)Z"⟩, 25), (⟨"PathReaderModel", "obeys", "(I)Z"⟩, 25), (⟨"PathReaderModel", "entersTold", "(III)Z"⟩, 25), (⟨"PathReaderModel", "prices", "(IZI)Z"⟩, 25), (⟨"PathReaderModel", "listensAll", "(I)Z"⟩, 25)]
theorem lw_r4 : ∀ q ∈ lw_privs_4, lw_okq q := List.forall_mem_cons.mpr ⟨lw_p48, List.forall_mem_cons.mpr ⟨lw_p49, List.forall_mem_cons.mpr ⟨lw_p50, List.forall_mem_cons.mpr ⟨lw_p51, List.forall_mem_cons.mpr ⟨lw_p52, List.forall_mem_cons.mpr ⟨lw_p53, List.forall_mem_cons.mpr ⟨lw_p54, List.forall_mem_cons.mpr ⟨lw_p55, List.forall_mem_cons.mpr ⟨lw_p56, List.forall_mem_cons.mpr ⟨lw_p57, List.forall_mem_cons.mpr ⟨lw_p58, List.forall_mem_cons.mpr ⟨lw_p59, List.forall_mem_cons.mpr ⟨lw_p60, List.forall_mem_cons.mpr ⟨lw_p61, List.forall_mem_cons.mpr ⟨lw_p62, List.forall_mem_cons.mpr ⟨lw_p63, fun _ h => absurd h List.not_mem_nil⟩⟩⟩⟩⟩⟩⟩⟩⟩⟩⟩⟩⟩⟩⟩⟩
theorem lw_p64 : lw_okq (⟨"PathReaderModel", "turns", "()V"⟩, 25) := ⟨⟨by decide +kernel, by decide +kernel⟩, List.mem_of_getElem? (i := 613) (by decide +kernel), List.mem_of_getElem? (i := 975) (by decide +kernel), List.mem_of_getElem? (i := 976) (by decide +kernel)⟩
theorem lw_p65 : lw_okq (⟨"PathReaderModel", "toldOf", "(I)I"⟩, 25) := ⟨⟨by decide +kernel, by decide +kernel⟩, List.mem_of_getElem? (i := 613) (by decide +kernel), List.mem_of_getElem? (i := 983) (by decide +kernel), List.mem_of_getElem? (i := 984) (by decide +kernel)⟩
theorem lw_p66 : lw_okq (⟨"PathReaderModel", "mix", "(J)V"⟩, 25) := ⟨⟨by decide +kernel, by decide +kernel⟩, List.mem_of_getElem? (i := 613) (by decide +kernel), List.mem_of_getElem? (i := 992) (by decide +kernel), List.mem_of_getElem? (i := 993) (by decide +kernel)⟩
def lw_privs_5 : List (MethodName × Nat) := [(⟨"PathReaderModel", "turns", "()V"⟩, 25), (⟨"PathReaderModel", "toldOf", "(I)I"⟩, 25), (⟨"PathReaderModel", "mix", "(J)V"⟩, 25)]
theorem lw_r5 : ∀ q ∈ lw_privs_5, lw_okq q := List.forall_mem_cons.mpr ⟨lw_p64, List.forall_mem_cons.mpr ⟨lw_p65, List.forall_mem_cons.mpr ⟨lw_p66, fun _ h => absurd h List.not_mem_nil⟩⟩⟩
def lw_privs : List (MethodName × Nat) := lw_privs_1 ++ (lw_privs_2 ++ (lw_privs_3 ++ (lw_privs_4 ++ (lw_privs_5))))
def lw_tbl : List Cond := k2_sels lw_privs ++ tables_1
theorem lw_privs_ok : ∀ q ∈ lw_privs, lw_okq q := by
  show ∀ q ∈ lw_privs_1 ++ (lw_privs_2 ++ (lw_privs_3 ++ (lw_privs_4 ++ (lw_privs_5)))), lw_okq q
  exact List.forall_mem_append.mpr ⟨lw_r1, List.forall_mem_append.mpr ⟨lw_r2, List.forall_mem_append.mpr ⟨lw_r3, List.forall_mem_append.mpr ⟨lw_r4, lw_r5⟩⟩⟩⟩
def RX0 : String := "PathReader$Chart"
def TX0 : u_T := fun k => match k with
  | 0 => ("PathReader$Chart", "links", "[J", true)
  | 1 => ("PathReader$Chart", "leastOfTree", "[J", true)
  | 2 => ("PathReader$Chart", "leastOfTrees", "[J", true)
  | 3 => ("PathReader$Chart", "countOfTree", "[I", true)
  | 4 => ("PathReader$Chart", "countOfTrees", "[I", true)
  | 5 => ("PathReader$Chart", "least", "J", false)
  | _ => ("PathReader$Chart", "analyses", "I", false)
def tyX0 : Nat → FieldType := fun k => match k with
  | 0 => .array .long
  | 1 => .array .long
  | 2 => .array .long
  | 3 => .array .int
  | 4 => .array .int
  | 5 => .long
  | _ => .int
theorem nmX0 : ∀ a, a < 7 → ∀ b, b < 7 → a ≠ b → (TX0 a).2.1 ≠ (TX0 b).2.1 := by decide +kernel
theorem tyX0_ok : ∀ k, k < 7 → parseFieldDescriptor (TX0 k).2.2.1 = some (tyX0 k) := by decide +kernel
abbrev cX0_init : ByteArray := prog_2_method_1_code
def yX0_init : MethodName := ⟨RX0, "<init>", "()V"⟩
abbrev cX0_hasAnalysis : ByteArray := prog_2_method_2_code
def yX0_hasAnalysis : MethodName := ⟨RX0, "hasAnalysis", "()Z"⟩
abbrev cX0_countOfAnalyses : ByteArray := prog_2_method_3_code
def yX0_countOfAnalyses : MethodName := ⟨RX0, "countOfAnalyses", "()I"⟩
abbrev cX0_leastRow : ByteArray := prog_2_method_4_code
def yX0_leastRow : MethodName := ⟨RX0, "leastRow", "()I"⟩
abbrev cX0_leastRepair : ByteArray := prog_2_method_5_code
def yX0_leastRepair : MethodName := ⟨RX0, "leastRepair", "()I"⟩
abbrev cX0_leastCost : ByteArray := prog_2_method_6_code
def yX0_leastCost : MethodName := ⟨RX0, "leastCost", "()I"⟩
abbrev cX0_reckon : ByteArray := prog_2_method_7_code
def yX0_reckon : MethodName := ⟨RX0, "reckon", "(LPathReader$State;I)V"⟩
abbrev cX0_reckonLinks : ByteArray := prog_2_method_8_code
def yX0_reckonLinks : MethodName := ⟨RX0, "reckonLinks", "(LPathReader$State;II)V"⟩
abbrev cX0_costOfLink : ByteArray := prog_2_method_9_code
def yX0_costOfLink : MethodName := ⟨RX0, "costOfLink", "(LPathReader$State;IIII)I"⟩
abbrev cX0_costOfRoot : ByteArray := prog_2_method_10_code
def yX0_costOfRoot : MethodName := ⟨RX0, "costOfRoot", "(LPathReader$State;II)I"⟩
abbrev cX0_repairOf : ByteArray := prog_2_method_11_code
def yX0_repairOf : MethodName := ⟨RX0, "repairOf", "(LPathReader$Sentence;IIII)I"⟩
abbrev cX0_share : ByteArray := prog_2_method_12_code
def yX0_share : MethodName := ⟨RX0, "share", "(III)J"⟩
abbrev cX0_reckonSpan : ByteArray := prog_2_method_13_code
def yX0_reckonSpan : MethodName := ⟨RX0, "reckonSpan", "(III)V"⟩
abbrev cX0_reckonTree : ByteArray := prog_2_method_14_code
def yX0_reckonTree : MethodName := ⟨RX0, "reckonTree", "(IIII)V"⟩
abbrev cX0_reckonTrees : ByteArray := prog_2_method_15_code
def yX0_reckonTrees : MethodName := ⟨RX0, "reckonTrees", "(IIII)V"⟩
abbrev cX0_reckonRoots : ByteArray := prog_2_method_16_code
def yX0_reckonRoots : MethodName := ⟨RX0, "reckonRoots", "(LPathReader$State;I)V"⟩
abbrev cX0_linkPlace : ByteArray := prog_2_method_17_code
def yX0_linkPlace : MethodName := ⟨RX0, "linkPlace", "(IIII)I"⟩
abbrev cX0_spanPlace : ByteArray := prog_2_method_18_code
def yX0_spanPlace : MethodName := ⟨RX0, "spanPlace", "(IIII)I"⟩
def RX1 : String := "PathReader$Grammar"
def TX1 : u_T := fun k => match k with
  | 0 => ("PathReader$Grammar", "prices", "[I", true)
  | 1 => ("PathReader$Grammar", "rootPrices", "[I", true)
  | 2 => ("PathReader$Grammar", "sorts", "[I", true)
  | 3 => ("PathReader$Grammar", "extras", "[I", true)
  | 4 => ("PathReader$Grammar", "settings", "[I", true)
  | _ => ("PathReader$Grammar", "entryCount", "I", false)
def tyX1 : Nat → FieldType := fun k => match k with
  | 0 => .array .int
  | 1 => .array .int
  | 2 => .array .int
  | 3 => .array .int
  | 4 => .array .int
  | _ => .int
theorem nmX1 : ∀ a, a < 6 → ∀ b, b < 6 → a ≠ b → (TX1 a).2.1 ≠ (TX1 b).2.1 := by decide +kernel
theorem tyX1_ok : ∀ k, k < 6 → parseFieldDescriptor (TX1 k).2.2.1 = some (tyX1 k) := by decide +kernel
abbrev cX1_init : ByteArray := prog_3_method_1_code
def yX1_init : MethodName := ⟨RX1, "<init>", "()V"⟩
abbrev cX1_copyFrom : ByteArray := prog_3_method_2_code
def yX1_copyFrom : MethodName := ⟨RX1, "copyFrom", "(LPathReader$Grammar;)V"⟩
abbrev cX1_whyNoPrice : ByteArray := prog_3_method_3_code
def yX1_whyNoPrice : MethodName := ⟨RX1, "whyNoPrice", "(IIII)I"⟩
abbrev cX1_whyNoRootPrice : ByteArray := prog_3_method_4_code
def yX1_whyNoRootPrice : MethodName := ⟨RX1, "whyNoRootPrice", "(II)I"⟩
abbrev cX1_whyNoEntry : ByteArray := prog_3_method_5_code
def yX1_whyNoEntry : MethodName := ⟨RX1, "whyNoEntry", "(III)I"⟩
abbrev cX1_hasEntry : ByteArray := prog_3_method_6_code
def yX1_hasEntry : MethodName := ⟨RX1, "hasEntry", "(I)Z"⟩
abbrev cX1_price : ByteArray := prog_3_method_7_code
def yX1_price : MethodName := ⟨RX1, "price", "(III)I"⟩
abbrev cX1_putPrice : ByteArray := prog_3_method_8_code
def yX1_putPrice : MethodName := ⟨RX1, "putPrice", "(IIII)I"⟩
abbrev cX1_putRootPrice : ByteArray := prog_3_method_9_code
def yX1_putRootPrice : MethodName := ⟨RX1, "putRootPrice", "(II)I"⟩
abbrev cX1_putSetting : ByteArray := prog_3_method_10_code
def yX1_putSetting : MethodName := ⟨RX1, "putSetting", "(II)I"⟩
abbrev cX1_addEntry : ByteArray := prog_3_method_11_code
def yX1_addEntry : MethodName := ⟨RX1, "addEntry", "(III)I"⟩
abbrev cX1_sortOf : ByteArray := prog_3_method_12_code
def yX1_sortOf : MethodName := ⟨RX1, "sortOf", "(II)I"⟩
abbrev cX1_extraOf : ByteArray := prog_3_method_13_code
def yX1_extraOf : MethodName := ⟨RX1, "extraOf", "(II)I"⟩
def RX2 : String := "PathReader$Row"
def TX2 : u_T := fun k => match k with
  | _ => ("", "", "", false)
def tyX2 : Nat → FieldType := fun k => match k with
  | _ => .int
theorem nmX2 : ∀ a, a < 0 → ∀ b, b < 0 → a ≠ b → (TX2 a).2.1 ≠ (TX2 b).2.1 := by decide +kernel
theorem tyX2_ok : ∀ k, k < 0 → parseFieldDescriptor (TX2 k).2.2.1 = some (tyX2 k) := by decide +kernel
abbrev cX2_part : ByteArray := prog_4_method_2_code
def yX2_part : MethodName := ⟨RX2, "part", "(III)I"⟩
abbrev cX2_readingOf : ByteArray := prog_4_method_3_code
def yX2_readingOf : MethodName := ⟨RX2, "readingOf", "(II)I"⟩
abbrev cX2_headOf : ByteArray := prog_4_method_4_code
def yX2_headOf : MethodName := ⟨RX2, "headOf", "(II)I"⟩
abbrev cX2_rootOf : ByteArray := prog_4_method_5_code
def yX2_rootOf : MethodName := ⟨RX2, "rootOf", "(II)I"⟩
abbrev cX2_deepestLevel : ByteArray := prog_4_method_6_code
def yX2_deepestLevel : MethodName := ⟨RX2, "deepestLevel", "(II)I"⟩
abbrev cX2_levelOf : ByteArray := prog_4_method_7_code
def yX2_levelOf : MethodName := ⟨RX2, "levelOf", "(II)I"⟩
def RX3 : String := "PathReader$Script"
def TX3 : u_T := fun k => match k with
  | 0 => ("PathReader$Script", "bytes", "[I", true)
  | 1 => ("PathReader$Script", "kinds", "[I", true)
  | 2 => ("PathReader$Script", "firsts", "[I", true)
  | 3 => ("PathReader$Script", "counts", "[I", true)
  | 4 => ("PathReader$Script", "numbers", "[I", true)
  | 5 => ("PathReader$Script", "numbersRead", "I", false)
  | 6 => ("PathReader$Script", "at", "I", false)
  | 7 => ("PathReader$Script", "length", "I", false)
  | _ => ("PathReader$Script", "orders", "I", false)
def tyX3 : Nat → FieldType := fun k => match k with
  | 0 => .array .int
  | 1 => .array .int
  | 2 => .array .int
  | 3 => .array .int
  | 4 => .array .int
  | 5 => .int
  | 6 => .int
  | 7 => .int
  | _ => .int
theorem nmX3 : ∀ a, a < 9 → ∀ b, b < 9 → a ≠ b → (TX3 a).2.1 ≠ (TX3 b).2.1 := by decide +kernel
theorem tyX3_ok : ∀ k, k < 9 → parseFieldDescriptor (TX3 k).2.2.1 = some (tyX3 k) := by decide +kernel
abbrev cX3_init : ByteArray := prog_5_method_1_code
def yX3_init : MethodName := ⟨RX3, "<init>", "()V"⟩
abbrev cX3_append : ByteArray := prog_5_method_2_code
def yX3_append : MethodName := ⟨RX3, "append", "(I)V"⟩
abbrev cX3_kind : ByteArray := prog_5_method_3_code
def yX3_kind : MethodName := ⟨RX3, "kind", "(I)I"⟩
abbrev cX3_numberCount : ByteArray := prog_5_method_4_code
def yX3_numberCount : MethodName := ⟨RX3, "numberCount", "(I)I"⟩
abbrev cX3_number : ByteArray := prog_5_method_5_code
def yX3_number : MethodName := ⟨RX3, "number", "(II)I"⟩
abbrev cX3_readWhole : ByteArray := prog_5_method_6_code
def yX3_readWhole : MethodName := ⟨RX3, "readWhole", "()I"⟩
abbrev cX3_readOrder : ByteArray := prog_5_method_7_code
def yX3_readOrder : MethodName := ⟨RX3, "readOrder", "()Z"⟩
abbrev cX3_readNumber : ByteArray := prog_5_method_8_code
def yX3_readNumber : MethodName := ⟨RX3, "readNumber", "(Z)Z"⟩
abbrev cX3_keepNumber : ByteArray := prog_5_method_9_code
def yX3_keepNumber : MethodName := ⟨RX3, "keepNumber", "(I)V"⟩
abbrev cX3_skipBlanks : ByteArray := prog_5_method_10_code
def yX3_skipBlanks : MethodName := ⟨RX3, "skipBlanks", "()V"⟩
abbrev cX3_here : ByteArray := prog_5_method_11_code
def yX3_here : MethodName := ⟨RX3, "here", "()I"⟩
abbrev cX3_isFigureHere : ByteArray := prog_5_method_12_code
def yX3_isFigureHere : MethodName := ⟨RX3, "isFigureHere", "()Z"⟩
abbrev cX3_mostNumbers : ByteArray := prog_5_method_13_code
def yX3_mostNumbers : MethodName := ⟨RX3, "mostNumbers", "(I)I"⟩
def RX4 : String := "PathReader$Sentence"
def TX4 : u_T := fun k => match k with
  | 0 => ("PathReader$Sentence", "entries", "[I", true)
  | 1 => ("PathReader$Sentence", "rows", "[I", true)
  | 2 => ("PathReader$Sentence", "costs", "[I", true)
  | 3 => ("PathReader$Sentence", "repairs", "[I", true)
  | 4 => ("PathReader$Sentence", "stumbles", "[I", true)
  | _ => ("PathReader$Sentence", "count", "I", false)
def tyX4 : Nat → FieldType := fun k => match k with
  | 0 => .array .int
  | 1 => .array .int
  | 2 => .array .int
  | 3 => .array .int
  | 4 => .array .int
  | _ => .int
theorem nmX4 : ∀ a, a < 6 → ∀ b, b < 6 → a ≠ b → (TX4 a).2.1 ≠ (TX4 b).2.1 := by decide +kernel
theorem tyX4_ok : ∀ k, k < 6 → parseFieldDescriptor (TX4 k).2.2.1 = some (tyX4 k) := by decide +kernel
abbrev cX4_init : ByteArray := prog_6_method_1_code
def yX4_init : MethodName := ⟨RX4, "<init>", "()V"⟩
abbrev cX4_copyFrom : ByteArray := prog_6_method_2_code
def yX4_copyFrom : MethodName := ⟨RX4, "copyFrom", "(LPathReader$Sentence;)V"⟩
abbrev cX4_heldRow : ByteArray := prog_6_method_3_code
def yX4_heldRow : MethodName := ⟨RX4, "heldRow", "()I"⟩
abbrev cX4_isStuck : ByteArray := prog_6_method_4_code
def yX4_isStuck : MethodName := ⟨RX4, "isStuck", "()Z"⟩
abbrev cX4_putReckoned : ByteArray := prog_6_method_5_code
def yX4_putReckoned : MethodName := ⟨RX4, "putReckoned", "(IIII)V"⟩
abbrev cX4_sumOfRepairs : ByteArray := prog_6_method_6_code
def yX4_sumOfRepairs : MethodName := ⟨RX4, "sumOfRepairs", "()I"⟩
abbrev cX4_sumOfStumbles : ByteArray := prog_6_method_7_code
def yX4_sumOfStumbles : MethodName := ⟨RX4, "sumOfStumbles", "()I"⟩
def RX5 : String := "PathReader$Shelf"
def TX5 : u_T := fun k => match k with
  | 0 => ("PathReader$Shelf", "states", "[LPathReader$State;", true)
  | 1 => ("PathReader$Shelf", "next", "I", false)
  | _ => ("PathReader$Shelf", "count", "I", false)
def tyX5 : Nat → FieldType := fun k => match k with
  | 0 => .array (.object "PathReader$State")
  | 1 => .int
  | _ => .int
theorem nmX5 : ∀ a, a < 3 → ∀ b, b < 3 → a ≠ b → (TX5 a).2.1 ≠ (TX5 b).2.1 := by decide +kernel
theorem tyX5_ok : ∀ k, k < 3 → parseFieldDescriptor (TX5 k).2.2.1 = some (tyX5 k) := by decide +kernel
abbrev cX5_init : ByteArray := prog_7_method_1_code
def yX5_init : MethodName := ⟨RX5, "<init>", "()V"⟩
abbrev cX5_push : ByteArray := prog_7_method_2_code
def yX5_push : MethodName := ⟨RX5, "push", "(LPathReader$State;)V"⟩
abbrev cX5_pop : ByteArray := prog_7_method_3_code
def yX5_pop : MethodName := ⟨RX5, "pop", "(LPathReader$State;)V"⟩
def RX6 : String := "PathReader$State"
def TX6 : u_T := fun k => match k with
  | 0 => ("PathReader$State", "grammar", "LPathReader$Grammar;", true)
  | _ => ("PathReader$State", "sentence", "LPathReader$Sentence;", true)
def tyX6 : Nat → FieldType := fun k => match k with
  | 0 => .object "PathReader$Grammar"
  | _ => .object "PathReader$Sentence"
theorem nmX6 : ∀ a, a < 2 → ∀ b, b < 2 → a ≠ b → (TX6 a).2.1 ≠ (TX6 b).2.1 := by decide +kernel
theorem tyX6_ok : ∀ k, k < 2 → parseFieldDescriptor (TX6 k).2.2.1 = some (tyX6 k) := by decide +kernel
abbrev cX6_init : ByteArray := prog_8_method_1_code
def yX6_init : MethodName := ⟨RX6, "<init>", "()V"⟩
abbrev cX6_copyFrom : ByteArray := prog_8_method_2_code
def yX6_copyFrom : MethodName := ⟨RX6, "copyFrom", "(LPathReader$State;)V"⟩
abbrev cX6_whyNoWord : ByteArray := prog_8_method_3_code
def yX6_whyNoWord : MethodName := ⟨RX6, "whyNoWord", "(I)I"⟩
abbrev cX6_hear : ByteArray := prog_8_method_4_code
def yX6_hear : MethodName := ⟨RX6, "hear", "(ILPathReader$Chart;)V"⟩
abbrev cX6_hearAllAnew : ByteArray := prog_8_method_5_code
def yX6_hearAllAnew : MethodName := ⟨RX6, "hearAllAnew", "(LPathReader$Chart;)V"⟩
abbrev cX6_isHeldStillAllowed : ByteArray := prog_8_method_6_code
def yX6_isHeldStillAllowed : MethodName := ⟨RX6, "isHeldStillAllowed", "()Z"⟩
abbrev cX6_isHangingAllowed : ByteArray := prog_8_method_7_code
def yX6_isHangingAllowed : MethodName := ⟨RX6, "isHangingAllowed", "(II)Z"⟩
abbrev cX6_sortIn : ByteArray := prog_8_method_8_code
def yX6_sortIn : MethodName := ⟨RX6, "sortIn", "(II)I"⟩
def RX7 : String := "PathReader"
def TX7 : u_T := fun k => match k with
  | 0 => ("PathReader", "now", "LPathReader$State;", true)
  | 1 => ("PathReader", "ahead", "LPathReader$State;", true)
  | 2 => ("PathReader", "shelf", "LPathReader$Shelf;", true)
  | 3 => ("PathReader", "chart", "LPathReader$Chart;", true)
  | 4 => ("PathReader", "script", "LPathReader$Script;", true)
  | _ => ("PathReader", "refusals", "[I", true)
def tyX7 : Nat → FieldType := fun k => match k with
  | 0 => .object "PathReader$State"
  | 1 => .object "PathReader$State"
  | 2 => .object "PathReader$Shelf"
  | 3 => .object "PathReader$Chart"
  | 4 => .object "PathReader$Script"
  | _ => .array .int
theorem nmX7 : ∀ a, a < 6 → ∀ b, b < 6 → a ≠ b → (TX7 a).2.1 ≠ (TX7 b).2.1 := by decide +kernel
theorem tyX7_ok : ∀ k, k < 6 → parseFieldDescriptor (TX7 k).2.2.1 = some (tyX7 k) := by decide +kernel
abbrev cX7_init : ByteArray := prog_1_method_1_code
def yX7_init : MethodName := ⟨RX7, "<init>", "()V"⟩
abbrev cX7_rules : ByteArray := prog_1_method_2_code
def yX7_rules : MethodName := ⟨RX7, "rules", "(IIII)I"⟩
abbrev cX7_roots : ByteArray := prog_1_method_3_code
def yX7_roots : MethodName := ⟨RX7, "roots", "(II)I"⟩
abbrev cX7_entry : ByteArray := prog_1_method_4_code
def yX7_entry : MethodName := ⟨RX7, "entry", "(III)I"⟩
abbrev cX7_sets : ByteArray := prog_1_method_5_code
def yX7_sets : MethodName := ⟨RX7, "sets", "(II)I"⟩
abbrev cX7_rule : ByteArray := prog_1_method_6_code
def yX7_rule : MethodName := ⟨RX7, "rule", "(III)I"⟩
abbrev cX7_of : ByteArray := prog_1_method_7_code
def yX7_of : MethodName := ⟨RX7, "of", "(II)I"⟩
abbrev cX7_hears : ByteArray := prog_1_method_8_code
def yX7_hears : MethodName := ⟨RX7, "hears", "(I)I"⟩
abbrev cX7_unhears : ByteArray := prog_1_method_9_code
def yX7_unhears : MethodName := ⟨RX7, "unhears", "()I"⟩
abbrev cX7_silence : ByteArray := prog_1_method_10_code
def yX7_silence : MethodName := ⟨RX7, "silence", "()I"⟩
abbrev cX7_rereads : ByteArray := prog_1_method_11_code
def yX7_rereads : MethodName := ⟨RX7, "rereads", "()I"⟩
abbrev cX7_word : ByteArray := prog_1_method_12_code
def yX7_word : MethodName := ⟨RX7, "word", "(II)I"⟩
abbrev cX7_held : ByteArray := prog_1_method_13_code
def yX7_held : MethodName := ⟨RX7, "held", "(I)I"⟩
abbrev cX7_best : ByteArray := prog_1_method_14_code
def yX7_best : MethodName := ⟨RX7, "best", "(II)I"⟩
abbrev cX7_ways : ByteArray := prog_1_method_15_code
def yX7_ways : MethodName := ⟨RX7, "ways", "()I"⟩
abbrev cX7_sound : ByteArray := prog_1_method_16_code
def yX7_sound : MethodName := ⟨RX7, "sound", "()I"⟩
abbrev cX7_type : ByteArray := prog_1_method_17_code
def yX7_type : MethodName := ⟨RX7, "type", "(I)I"⟩
abbrev cX7_clear : ByteArray := prog_1_method_18_code
def yX7_clear : MethodName := ⟨RX7, "clear", "()I"⟩
abbrev cX7_does : ByteArray := prog_1_method_19_code
def yX7_does : MethodName := ⟨RX7, "does", "()I"⟩
abbrev cX7_back : ByteArray := prog_1_method_20_code
def yX7_back : MethodName := ⟨RX7, "back", "()I"⟩
abbrev cX7_told : ByteArray := prog_1_method_21_code
def yX7_told : MethodName := ⟨RX7, "told", "(I)I"⟩
abbrev cX7_digest : ByteArray := prog_1_method_22_code
def yX7_digest : MethodName := ⟨RX7, "digest", "()J"⟩
abbrev cX7_digestOfSentence : ByteArray := prog_1_method_23_code
def yX7_digestOfSentence : MethodName := ⟨RX7, "digestOfSentence", "(J)J"⟩
abbrev cX7_digestOfGrammar : ByteArray := prog_1_method_24_code
def yX7_digestOfGrammar : MethodName := ⟨RX7, "digestOfGrammar", "(J)J"⟩
abbrev cX7_refuse : ByteArray := prog_1_method_25_code
def yX7_refuse : MethodName := ⟨RX7, "refuse", "(I)I"⟩
abbrev cX7_doOrder : ByteArray := prog_1_method_26_code
def yX7_doOrder : MethodName := ⟨RX7, "doOrder", "(I)Z"⟩
abbrev cX7_doEntry : ByteArray := prog_1_method_27_code
def yX7_doEntry : MethodName := ⟨RX7, "doEntry", "(III)Z"⟩
abbrev cX7_doWords : ByteArray := prog_1_method_28_code
def yX7_doWords : MethodName := ⟨RX7, "doWords", "(I)Z"⟩
abbrev cX7_isBelow : ByteArray := prog_1_method_29_code
def yX7_isBelow : MethodName := ⟨RX7, "isBelow", "(II)Z"⟩
abbrev cX7_isPriceOrNone : ByteArray := prog_1_method_30_code
def yX7_isPriceOrNone : MethodName := ⟨RX7, "isPriceOrNone", "(I)Z"⟩
abbrev cX7_isRulePlace : ByteArray := prog_1_method_31_code
def yX7_isRulePlace : MethodName := ⟨RX7, "isRulePlace", "(III)Z"⟩
def RX8 : String := "PathReaderModel"
def TX8 : u_T := fun k => match k with
  | 0 => ("PathReaderModel", "now", "[I", true)
  | 1 => ("PathReaderModel", "aside", "[I", true)
  | 2 => ("PathReaderModel", "past", "[I", true)
  | 3 => ("PathReaderModel", "states", "I", false)
  | 4 => ("PathReaderModel", "refused", "[I", true)
  | 5 => ("PathReaderModel", "text", "[I", true)
  | 6 => ("PathReaderModel", "bytes", "I", false)
  | 7 => ("PathReaderModel", "heads", "[I", true)
  | 8 => ("PathReaderModel", "readings", "[I", true)
  | 9 => ("PathReaderModel", "sorts", "[I", true)
  | 10 => ("PathReaderModel", "ahead", "[I", true)
  | 11 => ("PathReaderModel", "aheadReading", "[I", true)
  | 12 => ("PathReaderModel", "trees", "[I", true)
  | 13 => ("PathReaderModel", "begin", "[I", true)
  | 14 => ("PathReaderModel", "found", "I", false)
  | 15 => ("PathReaderModel", "bestCost", "I", false)
  | 16 => ("PathReaderModel", "bestRepair", "I", false)
  | 17 => ("PathReaderModel", "bestCode", "I", false)
  | 18 => ("PathReaderModel", "letters", "[I", true)
  | 19 => ("PathReaderModel", "from", "[I", true)
  | 20 => ("PathReaderModel", "numbers", "[I", true)
  | 21 => ("PathReaderModel", "orders", "I", false)
  | 22 => ("PathReaderModel", "spot", "I", false)
  | 23 => ("PathReaderModel", "wrongAt", "I", false)
  | _ => ("PathReaderModel", "hash", "J", false)
def tyX8 : Nat → FieldType := fun k => match k with
  | 0 => .array .int
  | 1 => .array .int
  | 2 => .array .int
  | 3 => .int
  | 4 => .array .int
  | 5 => .array .int
  | 6 => .int
  | 7 => .array .int
  | 8 => .array .int
  | 9 => .array .int
  | 10 => .array .int
  | 11 => .array .int
  | 12 => .array .int
  | 13 => .array .int
  | 14 => .int
  | 15 => .int
  | 16 => .int
  | 17 => .int
  | 18 => .array .int
  | 19 => .array .int
  | 20 => .array .int
  | 21 => .int
  | 22 => .int
  | 23 => .int
  | _ => .long
theorem nmX8 : ∀ a, a < 25 → ∀ b, b < 25 → a ≠ b → (TX8 a).2.1 ≠ (TX8 b).2.1 := by decide +kernel
theorem tyX8_ok : ∀ k, k < 25 → parseFieldDescriptor (TX8 k).2.2.1 = some (tyX8 k) := by decide +kernel
abbrev cX8_init : ByteArray := prog_10_method_1_code
def yX8_init : MethodName := ⟨RX8, "<init>", "()V"⟩
abbrev cX8_in : ByteArray := prog_10_method_3_code
def yX8_in : MethodName := ⟨RX8, "in", "(III)Z"⟩
abbrev cX8_bad : ByteArray := prog_10_method_4_code
def yX8_bad : MethodName := ⟨RX8, "bad", "()I"⟩
abbrev cX8_no : ByteArray := prog_10_method_5_code
def yX8_no : MethodName := ⟨RX8, "no", "()I"⟩
abbrev cX8_full : ByteArray := prog_10_method_6_code
def yX8_full : MethodName := ⟨RX8, "full", "()I"⟩
abbrev cX8_remembers : ByteArray := prog_10_method_7_code
def yX8_remembers : MethodName := ⟨RX8, "remembers", "()V"⟩
abbrev cX8_back : ByteArray := prog_10_method_8_code
def yX8_back : MethodName := ⟨RX8, "back", "()I"⟩
abbrev cX8_laysHeads : ByteArray := prog_10_method_9_code
def yX8_laysHeads : MethodName := ⟨RX8, "laysHeads", "(II)V"⟩
abbrev cX8_comesTo : ByteArray := prog_10_method_10_code
def yX8_comesTo : MethodName := ⟨RX8, "comesTo", "(II)Z"⟩
abbrev cX8_isBridged : ByteArray := prog_10_method_11_code
def yX8_isBridged : MethodName := ⟨RX8, "isBridged", "(I)Z"⟩
abbrev cX8_isTree : ByteArray := prog_10_method_12_code
def yX8_isTree : MethodName := ⟨RX8, "isTree", "(I)Z"⟩
abbrev cX8_laysTrees : ByteArray := prog_10_method_13_code
def yX8_laysTrees : MethodName := ⟨RX8, "laysTrees", "()V"⟩
abbrev cX8_isSort : ByteArray := prog_10_method_14_code
def yX8_isSort : MethodName := ⟨RX8, "isSort", "(I)Z"⟩
abbrev cX8_isRule : ByteArray := prog_10_method_15_code
def yX8_isRule : MethodName := ⟨RX8, "isRule", "(III)Z"⟩
abbrev cX8_ruleAt : ByteArray := prog_10_method_16_code
def yX8_ruleAt : MethodName := ⟨RX8, "ruleAt", "(III)I"⟩
abbrev cX8_isPrice : ByteArray := prog_10_method_17_code
def yX8_isPrice : MethodName := ⟨RX8, "isPrice", "(I)Z"⟩
abbrev cX8_exchanges : ByteArray := prog_10_method_18_code
def yX8_exchanges : MethodName := ⟨RX8, "exchanges", "(II)I"⟩
abbrev cX8_rules : ByteArray := prog_10_method_19_code
def yX8_rules : MethodName := ⟨RX8, "rules", "(IIII)I"⟩
abbrev cX8_roots : ByteArray := prog_10_method_20_code
def yX8_roots : MethodName := ⟨RX8, "roots", "(II)I"⟩
abbrev cX8_canEnter : ByteArray := prog_10_method_21_code
def yX8_canEnter : MethodName := ⟨RX8, "canEnter", "(III)Z"⟩
abbrev cX8_enters : ByteArray := prog_10_method_22_code
def yX8_enters : MethodName := ⟨RX8, "enters", "(III)I"⟩
abbrev cX8_entry : ByteArray := prog_10_method_23_code
def yX8_entry : MethodName := ⟨RX8, "entry", "(III)I"⟩
abbrev cX8_sets : ByteArray := prog_10_method_24_code
def yX8_sets : MethodName := ⟨RX8, "sets", "(II)I"⟩
abbrev cX8_rule : ByteArray := prog_10_method_25_code
def yX8_rule : MethodName := ⟨RX8, "rule", "(III)I"⟩
abbrev cX8_isEntry : ByteArray := prog_10_method_26_code
def yX8_isEntry : MethodName := ⟨RX8, "isEntry", "(I)Z"⟩
abbrev cX8_of : ByteArray := prog_10_method_27_code
def yX8_of : MethodName := ⟨RX8, "of", "(II)I"⟩
abbrev cX8_wordAt : ByteArray := prog_10_method_28_code
def yX8_wordAt : MethodName := ⟨RX8, "wordAt", "(I)I"⟩
abbrev cX8_entryAt : ByteArray := prog_10_method_29_code
def yX8_entryAt : MethodName := ⟨RX8, "entryAt", "(I)I"⟩
abbrev cX8_laysHeld : ByteArray := prog_10_method_30_code
def yX8_laysHeld : MethodName := ⟨RX8, "laysHeld", "(I)V"⟩
abbrev cX8_codeOf : ByteArray := prog_10_method_31_code
def yX8_codeOf : MethodName := ⟨RX8, "codeOf", "(I)I"⟩
abbrev cX8_laysReadings : ByteArray := prog_10_method_32_code
def yX8_laysReadings : MethodName := ⟨RX8, "laysReadings", "(II)Z"⟩
abbrev cX8_priceOf : ByteArray := prog_10_method_33_code
def yX8_priceOf : MethodName := ⟨RX8, "priceOf", "(I)I"⟩
abbrev cX8_betweenOf : ByteArray := prog_10_method_34_code
def yX8_betweenOf : MethodName := ⟨RX8, "betweenOf", "(I)I"⟩
abbrev cX8_costOf : ByteArray := prog_10_method_35_code
def yX8_costOf : MethodName := ⟨RX8, "costOf", "(I)I"⟩
abbrev cX8_repairOf : ByteArray := prog_10_method_36_code
def yX8_repairOf : MethodName := ⟨RX8, "repairOf", "(I)I"⟩
abbrev cX8_isBetter : ByteArray := prog_10_method_37_code
def yX8_isBetter : MethodName := ⟨RX8, "isBetter", "(III)Z"⟩
abbrev cX8_tries : ByteArray := prog_10_method_38_code
def yX8_tries : MethodName := ⟨RX8, "tries", "(IZ)V"⟩
abbrev cX8_finds : ByteArray := prog_10_method_39_code
def yX8_finds : MethodName := ⟨RX8, "finds", "(IZ)V"⟩
abbrev cX8_holds : ByteArray := prog_10_method_40_code
def yX8_holds : MethodName := ⟨RX8, "holds", "(I)Z"⟩
abbrev cX8_laysAhead : ByteArray := prog_10_method_41_code
def yX8_laysAhead : MethodName := ⟨RX8, "laysAhead", "(I)V"⟩
abbrev cX8_listens : ByteArray := prog_10_method_42_code
def yX8_listens : MethodName := ⟨RX8, "listens", "(I)V"⟩
abbrev cX8_hears : ByteArray := prog_10_method_43_code
def yX8_hears : MethodName := ⟨RX8, "hears", "(I)I"⟩
abbrev cX8_unhears : ByteArray := prog_10_method_44_code
def yX8_unhears : MethodName := ⟨RX8, "unhears", "()I"⟩
abbrev cX8_silence : ByteArray := prog_10_method_45_code
def yX8_silence : MethodName := ⟨RX8, "silence", "()I"⟩
abbrev cX8_sumOf : ByteArray := prog_10_method_46_code
def yX8_sumOf : MethodName := ⟨RX8, "sumOf", "(I)I"⟩
abbrev cX8_isStuck : ByteArray := prog_10_method_47_code
def yX8_isStuck : MethodName := ⟨RX8, "isStuck", "()Z"⟩
abbrev cX8_rereads : ByteArray := prog_10_method_48_code
def yX8_rereads : MethodName := ⟨RX8, "rereads", "()I"⟩
abbrev cX8_wordOf : ByteArray := prog_10_method_49_code
def yX8_wordOf : MethodName := ⟨RX8, "wordOf", "(II)I"⟩
abbrev cX8_word : ByteArray := prog_10_method_50_code
def yX8_word : MethodName := ⟨RX8, "word", "(II)I"⟩
abbrev cX8_levelOf : ByteArray := prog_10_method_51_code
def yX8_levelOf : MethodName := ⟨RX8, "levelOf", "(I)I"⟩
abbrev cX8_heldOf : ByteArray := prog_10_method_52_code
def yX8_heldOf : MethodName := ⟨RX8, "heldOf", "(I)I"⟩
abbrev cX8_aboutHeld : ByteArray := prog_10_method_53_code
def yX8_aboutHeld : MethodName := ⟨RX8, "aboutHeld", "(I)I"⟩
abbrev cX8_held : ByteArray := prog_10_method_54_code
def yX8_held : MethodName := ⟨RX8, "held", "(I)I"⟩
abbrev cX8_digitOf : ByteArray := prog_10_method_55_code
def yX8_digitOf : MethodName := ⟨RX8, "digitOf", "(III)I"⟩
abbrev cX8_best : ByteArray := prog_10_method_56_code
def yX8_best : MethodName := ⟨RX8, "best", "(II)I"⟩
abbrev cX8_ways : ByteArray := prog_10_method_57_code
def yX8_ways : MethodName := ⟨RX8, "ways", "()I"⟩
abbrev cX8_soundOf : ByteArray := prog_10_method_58_code
def yX8_soundOf : MethodName := ⟨RX8, "soundOf", "()I"⟩
abbrev cX8_sound : ByteArray := prog_10_method_59_code
def yX8_sound : MethodName := ⟨RX8, "sound", "()I"⟩
abbrev cX8_type : ByteArray := prog_10_method_60_code
def yX8_type : MethodName := ⟨RX8, "type", "(I)I"⟩
abbrev cX8_clear : ByteArray := prog_10_method_61_code
def yX8_clear : MethodName := ⟨RX8, "clear", "()I"⟩
abbrev cX8_isAt : ByteArray := prog_10_method_62_code
def yX8_isAt : MethodName := ⟨RX8, "isAt", "(II)Z"⟩
abbrev cX8_blanks : ByteArray := prog_10_method_63_code
def yX8_blanks : MethodName := ⟨RX8, "blanks", "()V"⟩
abbrev cX8_fails : ByteArray := prog_10_method_64_code
def yX8_fails : MethodName := ⟨RX8, "fails", "(I)Z"⟩
abbrev cX8_leastOf : ByteArray := prog_10_method_65_code
def yX8_leastOf : MethodName := ⟨RX8, "leastOf", "(I)I"⟩
abbrev cX8_mostOf : ByteArray := prog_10_method_66_code
def yX8_mostOf : MethodName := ⟨RX8, "mostOf", "(I)I"⟩
abbrev cX8_takesNumber : ByteArray := prog_10_method_67_code
def yX8_takesNumber : MethodName := ⟨RX8, "takesNumber", "(I)Z"⟩
abbrev cX8_takesNumbers : ByteArray := prog_10_method_68_code
def yX8_takesNumbers : MethodName := ⟨RX8, "takesNumbers", "(I)Z"⟩
abbrev cX8_isRead : ByteArray := prog_10_method_69_code
def yX8_isRead : MethodName := ⟨RX8, "isRead", "()Z"⟩
abbrev cX8_entersTold : ByteArray := prog_10_method_70_code
def yX8_entersTold : MethodName := ⟨RX8, "entersTold", "(III)Z"⟩
abbrev cX8_listensAll : ByteArray := prog_10_method_71_code
def yX8_listensAll : MethodName := ⟨RX8, "listensAll", "(I)Z"⟩
abbrev cX8_prices : ByteArray := prog_10_method_72_code
def yX8_prices : MethodName := ⟨RX8, "prices", "(IZI)Z"⟩
abbrev cX8_obeys : ByteArray := prog_10_method_73_code
def yX8_obeys : MethodName := ⟨RX8, "obeys", "(I)Z"⟩
abbrev cX8_turns : ByteArray := prog_10_method_74_code
def yX8_turns : MethodName := ⟨RX8, "turns", "()V"⟩
abbrev cX8_does : ByteArray := prog_10_method_75_code
def yX8_does : MethodName := ⟨RX8, "does", "()I"⟩
abbrev cX8_toldOf : ByteArray := prog_10_method_76_code
def yX8_toldOf : MethodName := ⟨RX8, "toldOf", "(I)I"⟩
abbrev cX8_told : ByteArray := prog_10_method_77_code
def yX8_told : MethodName := ⟨RX8, "told", "(I)I"⟩
abbrev cX8_mix : ByteArray := prog_10_method_78_code
def yX8_mix : MethodName := ⟨RX8, "mix", "(J)V"⟩
abbrev cX8_digest : ByteArray := prog_10_method_79_code
def yX8_digest : MethodName := ⟨RX8, "digest", "()J"⟩
def RJ9 : String := "java/lang/Math"
def TJ9 : u_T := fun k => match k with
  | _ => ("", "", "", false)
def RJ10 : String := "java/lang/System"
def TJ10 : u_T := fun k => match k with
  | _ => ("", "", "", false)
def RL : String := "PathReaderLaw"
abbrev cL_law : ByteArray := code
def yL_law : MethodName := ⟨RL, "law", "([I)Z"⟩
abbrev vwCl : List vw_C := [(RX0, TX0, 7), (RX1, TX1, 6), (RX3, TX3, 9), (RX4, TX4, 6), (RX5, TX5, 3), (RX6, TX6, 2), (RX7, TX7, 6), (RX8, TX8, 25)]
end
section
/-! A small machine of our own beside the kit's: numbered cells, numbered methods, big steps. Part 04 shows that the real machine follows it. -/
abbrev xE : Type := (FieldType × List Value) ⊕ (Nat × List Value)
abbrev xH : Type := List xE
abbrev xL : Type := List (Option Value)
/-- instruction, its length, two numbers: a jump's target; a field's class and place; a call's method and how many values it takes; a class; a long -/
abbrev xI : Type := Instr × Nat × Nat × Nat
abbrev xB : Type := List (Nat × List xI)
/-- name; own class's number; bytes; locals; answer; frames; words; kind (0 static, 1 virtual, 2 constructor); class of the receiver; parameters; blocks -/
abbrev xM : Type := MethodName × Nat × ByteArray × Nat × Option FieldType × Nat × Nat × Nat × Nat × Nat × xB
abbrev xm_y (M : xM) : MethodName := M.1
abbrev xm_o (M : xM) : Nat := M.2.1
abbrev xm_cc (M : xM) : ByteArray := M.2.2.1
abbrev xm_L (M : xM) : Nat := M.2.2.2.1
abbrev xm_rt (M : xM) : Option FieldType := M.2.2.2.2.1
abbrev xm_fr (M : xM) : Nat := M.2.2.2.2.2.1
abbrev xm_lo (M : xM) : Nat := M.2.2.2.2.2.2.1
abbrev xm_k (M : xM) : Nat := M.2.2.2.2.2.2.2.1
abbrev xm_ci (M : xM) : Nat := M.2.2.2.2.2.2.2.2.1
abbrev xm_np (M : xM) : Nat := M.2.2.2.2.2.2.2.2.2.1
abbrev xm_bl (M : xM) : xB := M.2.2.2.2.2.2.2.2.2.2
abbrev xR : Type := Nat → Nat → xL → List Value → xH → Option Value → xH → Prop
def x_put (ls : xL) (i : Nat) (v : Value) : xL :=
  match i with
  | 0 => ls.set 0 (some v)
  | k + 1 => match ls[k]? with
    | some (some (.long _)) => (ls.set k none).set (k + 1) (some v)
    | some (some (.double _)) => (ls.set k none).set (k + 1) (some v)
    | _ => ls.set (k + 1) (some v)
def x_put2 (ls : xL) (i : Nat) (v : Value) : xL := (x_put ls i v).set (i + 1) none
def x_c (c : Jvm.ClassFile.Cond) (x y : Int32) : Prop := match c with
  | .eq => x = y
  | .ne => ¬ x = y
  | .lt => x < y
  | .ge => y ≤ x
  | .gt => y < x
  | .le => x ≤ y
def x_ldi (ls : xL) (i : Nat) (st : List Value) (h : xH) : Option (xL × List Value × xH) := match ls[i]? with
  | some (some (.int x)) => some (ls, .int x :: st, h)
  | _ => none
def x_ldl (ls : xL) (i : Nat) (st : List Value) (h : xH) : Option (xL × List Value × xH) := match ls[i]? with
  | some (some (.long x)) => some (ls, .long x :: st, h)
  | _ => none
def x_lda (ls : xL) (i : Nat) (st : List Value) (h : xH) : Option (xL × List Value × xH) := match ls[i]? with
  | some (some (.ref x)) => some (ls, .ref x :: st, h)
  | _ => none
def x_sti (ls : xL) (i : Nat) (st : List Value) (h : xH) : Option (xL × List Value × xH) := match st with
  | .int x :: st => if i < ls.length then some (x_put ls i (.int x), st, h) else none
  | _ => none
def x_stl (ls : xL) (i : Nat) (st : List Value) (h : xH) : Option (xL × List Value × xH) := match st with
  | .long x :: st => if i + 1 < ls.length then some (x_put2 ls i (.long x), st, h) else none
  | _ => none
def x_sta (ls : xL) (i : Nat) (st : List Value) (h : xH) : Option (xL × List Value × xH) := match st with
  | .ref x :: st => if i < ls.length then some (x_put ls i (.ref x), st, h) else none
  | _ => none
def x_inc (ls : xL) (i : Nat) (n : Int) (st : List Value) (h : xH) : Option (xL × List Value × xH) := match ls[i]? with
  | some (some (.int x)) => some (x_put ls i (.int (x + Int32.ofInt n)), st, h)
  | _ => none
def x_ii (f : Int32 → Int32 → Int32) (ls : xL) (st : List Value) (h : xH) : Option (xL × List Value × xH) := match st with
  | .int y :: .int x :: st => some (ls, .int (f x y) :: st, h)
  | _ => none
def x_iz (f : Int32 → Int32 → Int32) (ls : xL) (st : List Value) (h : xH) : Option (xL × List Value × xH) := match st with
  | .int y :: .int x :: st => if y = 0 then none else some (ls, .int (f x y) :: st, h)
  | _ => none
def x_ll (f : Int64 → Int64 → Int64) (ls : xL) (st : List Value) (h : xH) : Option (xL × List Value × xH) := match st with
  | .long y :: .long x :: st => some (ls, .long (f x y) :: st, h)
  | _ => none
def x_li (f : Int64 → Int32 → Int64) (ls : xL) (st : List Value) (h : xH) : Option (xL × List Value × xH) := match st with
  | .int y :: .long x :: st => some (ls, .long (f x y) :: st, h)
  | _ => none
def x_getf (a b : Nat) (ls : xL) (st : List Value) (h : xH) : Option (xL × List Value × xH) := match st with
  | .ref o :: st => match h[o]? with
    | some (.inr (ci, fs)) => if ci = a then (match fs[b]? with
      | some v => some (ls, v :: st, h)
      | none => none) else none
    | _ => none
  | _ => none
/-- what may lie in a field of that type -/
def x_fit (ty : FieldType) (v : Value) : Bool := decide (narrow ty v = v) && fits ty v
def x_putf (tf : Nat → Nat → FieldType) (a b : Nat) (ls : xL) (st : List Value) (h : xH) : Option (xL × List Value × xH) := match st with
  | v :: .ref o :: st => if 2 ≤ o then (match h[o]? with
    | some (.inr (ci, fs)) => if ci = a ∧ b < fs.length ∧ x_fit (tf a b) v = true then some (ls, st, h.set o (.inr (ci, fs.set b v))) else none
    | _ => none) else none
  | _ => none
def x_ald (ty : FieldType) (ls : xL) (st : List Value) (h : xH) : Option (xL × List Value × xH) := match st with
  | .int i :: .ref o :: st => match h[o]? with
    | some (.inl (t, vs)) => if t = ty ∧ ¬ i < 0 then (match vs[i.toNatClampNeg]? with
      | some v => some (ls, v :: st, h)
      | none => none) else none
    | _ => none
  | _ => none
def x_aald (ls : xL) (st : List Value) (h : xH) : Option (xL × List Value × xH) := match st with
  | .int i :: .ref o :: st => match h[o]? with
    | some (.inl (t, vs)) => if t.isReference = true ∧ ¬ i < 0 then (match vs[i.toNatClampNeg]? with
      | some v => some (ls, v :: st, h)
      | none => none) else none
    | _ => none
  | _ => none
def x_iast (ls : xL) (st : List Value) (h : xH) : Option (xL × List Value × xH) := match st with
  | .int x :: .int i :: .ref o :: st => match h[o]? with
    | some (.inl (t, vs)) => if 2 ≤ o ∧ t = .int ∧ ¬ i < 0 ∧ i.toNatClampNeg < vs.length then some (ls, st, h.set o (.inl (t, vs.set i.toNatClampNeg (.int x)))) else none
    | _ => none
  | _ => none
def x_last (ls : xL) (st : List Value) (h : xH) : Option (xL × List Value × xH) := match st with
  | .long x :: .int i :: .ref o :: st => match h[o]? with
    | some (.inl (t, vs)) => if 2 ≤ o ∧ t = .long ∧ ¬ i < 0 ∧ i.toNatClampNeg < vs.length then some (ls, st, h.set o (.inl (t, vs.set i.toNatClampNeg (.long x)))) else none
    | _ => none
  | _ => none
/-- a cell of class a goes into an array of that class's objects -/
def x_aast (nm : Nat → String) (ls : xL) (st : List Value) (h : xH) : Option (xL × List Value × xH) := match st with
  | .ref x :: .int i :: .ref o :: st => match h[o]?, h[x]? with
    | some (.inl (t, vs)), some (.inr (ci, _)) => if 2 ≤ o ∧ t = .object (nm ci) ∧ ¬ i < 0 ∧ i.toNatClampNeg < vs.length then some (ls, st, h.set o (.inl (t, vs.set i.toNatClampNeg (.ref x)))) else none
    | _, _ => none
  | _ => none
def x_alen (ls : xL) (st : List Value) (h : xH) : Option (xL × List Value × xH) := match st with
  | .ref o :: st => match h[o]? with
    | some (.inl (_, vs)) => some (ls, .int (Int32.ofNat vs.length) :: st, h)
    | _ => none
  | _ => none
def x_newa (ty : FieldType) (ls : xL) (st : List Value) (h : xH) : Option (xL × List Value × xH) := match st with
  | .int n :: st => if ¬ n < 0 ∧ n.toNatClampNeg ≤ 10000 then some (ls, .ref h.length :: st, h ++ [.inl (ty, List.replicate n.toNatClampNeg (defaultValue ty))]) else none
  | _ => none
def x_copy (ls : xL) (st : List Value) (h : xH) : Option (xL × List Value × xH) := match st with
  | .int n :: .int dp :: .ref d :: .int sp :: .ref s :: st => match h[s]?, h[d]? with
    | some (.inl (t, vs)), some (.inl (t', ws)) => if 2 ≤ d ∧ t = .int ∧ t' = .int ∧ sp = 0 ∧ dp = 0 ∧ ¬ n < 0 ∧ n.toNatClampNeg = vs.length ∧ ws.length = vs.length ∧ vs.all (fits .int) = true ∧ (st.map Value.category).sum ≤ 8 then some (ls, st, h.set d (.inl (t, vs))) else none
    | _, _ => none
  | _ => none
def x_obj (ls : xL) (st : List Value) (h : xH) : Option (xL × List Value × xH) := match st with
  | .ref _ :: st => if (st.map Value.category).sum ≤ 8 then some (ls, st, h) else none
  | _ => none
/-- Math's own: max, min, abs, min of longs -/
def x_math (a : Nat) (ls : xL) (st : List Value) (h : xH) : Option (xL × List Value × xH) :=
  if a = 1002 then (match st with
    | .int y :: .int x :: st => if (st.map Value.category).sum ≤ 8 then some (ls, .int (if x < y then y else x) :: st, h) else none
    | _ => none)
  else if a = 1003 then (match st with
    | .int y :: .int x :: st => if (st.map Value.category).sum ≤ 8 then some (ls, .int (if y < x then y else x) :: st, h) else none
    | _ => none)
  else if a = 1004 then (match st with
    | .int x :: st => if (st.map Value.category).sum ≤ 8 then some (ls, .int (if 0 ≤ x then x else 0 - x) :: st, h) else none
    | _ => none)
  else if a = 1005 then (match st with
    | .long y :: .long x :: st => if (st.map Value.category).sum ≤ 8 then some (ls, .long (if y < x then y else x) :: st, h) else none
    | _ => none)
  else none
/-- the classes of objects, their fields' types and numbers: nm, tf, fn -/
def x_op (nm : Nat → String) (tf : Nat → Nat → FieldType) (fn : Nat → Nat) (i : xI) (ls : xL) (st : List Value) (h : xH) : Option (xL × List Value × xH) :=
  match i.1 with
  | .iconst n => some (ls, .int (Int32.ofInt n) :: st, h)
  | .bipush n => some (ls, .int (Int8.ofInt n).toInt32 :: st, h)
  | .sipush n => some (ls, .int (Int16.ofInt n).toInt32 :: st, h)
  | .lconst n => some (ls, .long (Int64.ofNat (n : Nat)) :: st, h)
  | .ldc2_w _ => some (ls, .long (Int64.ofNat i.2.2.1) :: st, h)
  | .iload_n k => x_ldi ls k st h
  | .iload k => x_ldi ls k st h
  | .lload_n k => x_ldl ls k st h
  | .lload k => x_ldl ls k st h
  | .aload_n k => x_lda ls k st h
  | .aload k => x_lda ls k st h
  | .istore_n k => x_sti ls k st h
  | .istore k => x_sti ls k st h
  | .lstore_n k => x_stl ls k st h
  | .lstore k => x_stl ls k st h
  | .astore_n k => x_sta ls k st h
  | .astore k => x_sta ls k st h
  | .iinc k n => x_inc ls k n st h
  | .iadd => x_ii (fun x y => x + y) ls st h
  | .isub => x_ii (fun x y => x - y) ls st h
  | .imul => x_ii (fun x y => x * y) ls st h
  | .iand => x_ii (fun x y => x &&& y) ls st h
  | .ior => x_ii (fun x y => x ||| y) ls st h
  | .ishl => x_ii (fun x y => x <<< (y &&& 31)) ls st h
  | .ishr => x_ii (fun x y => x >>> (y &&& 31)) ls st h
  | .idiv => x_iz (fun x y => x / y) ls st h
  | .irem => x_iz (fun x y => x - x / y * y) ls st h
  | .ladd => x_ll (fun x y => x + y) ls st h
  | .lmul => x_ll (fun x y => x * y) ls st h
  | .land => x_ll (fun x y => x &&& y) ls st h
  | .lshl => x_li (fun x y => x <<< (y.toInt64 &&& 63)) ls st h
  | .lshr => x_li (fun x y => x >>> (y.toInt64 &&& 63)) ls st h
  | .i2l => match st with
    | .int x :: st => some (ls, .long x.toInt64 :: st, h)
    | _ => none
  | .l2i => match st with
    | .long x :: st => some (ls, .int x.toInt32 :: st, h)
    | _ => none
  | .lcmp => match st with
    | .long y :: .long x :: st => some (ls, .int (lg_cmp x y) :: st, h)
    | _ => none
  | .dup => match st with
    | v :: st => if v.category = 1 then some (ls, v :: v :: st, h) else none
    | _ => none
  | .dup2 => match st with
    | v :: w :: st => if v.category = 1 ∧ w.category = 1 then some (ls, v :: w :: v :: w :: st, h) else none
    | _ => none
  | .pop => match st with
    | v :: st => if v.category = 1 then some (ls, st, h) else none
    | _ => none
  | .getfield _ => x_getf i.2.2.1 i.2.2.2 ls st h
  | .putfield _ => x_putf tf i.2.2.1 i.2.2.2 ls st h
  | .getstatic _ => some (ls, .ref 1 :: st, h)
  | .iaload => x_ald .int ls st h
  | .laload => x_ald .long ls st h
  | .aaload => x_aald ls st h
  | .iastore => x_iast ls st h
  | .lastore => x_last ls st h
  | .aastore => x_aast nm ls st h
  | .arraylength => x_alen ls st h
  | .newarray t => x_newa (newarray.typeOf t) ls st h
  | .anewarray _ => x_newa (.object (nm i.2.2.1)) ls st h
  | .new _ => some (ls, .ref h.length :: st, h ++ [.inr (i.2.2.1, (List.range (fn i.2.2.1)).map (fun k => defaultValue (tf i.2.2.1 k)))])
  | .invokestatic _ => if i.2.2.1 = 1001 then x_copy ls st h else x_math i.2.2.1 ls st h
  | .invokespecial _ => x_obj ls st h
  | _ => none
/-- jumps, calls, ends -/
def x_ctl (i : xI) : Bool := match i.1 with
  | .goto _ => true
  | .ifCond _ _ => true
  | .if_icmp _ _ => true
  | .tableswitch _ _ _ _ => true
  | .lookupswitch _ _ => true
  | .ireturn => true
  | .lreturn => true
  | .return_ => true
  | .invokevirtual _ => true
  | .invokestatic _ => decide (i.2.2.1 < 1000)
  | .invokespecial _ => decide (i.2.2.1 < 1000)
  | _ => false
def x_args (vs : List Value) : xL := vs.flatMap fun v => match v with
  | .long _ => [some v, none]
  | .double _ => [some v, none]
  | _ => [some v]
def x_entry (n : Nat) (vs : List Value) : xL := x_args vs ++ List.replicate (n - (x_args vs).length) none
def x_recv (K : xM) (vs : List Value) (h : xH) : Prop := match xm_k K with
  | 0 => True
  | 1 => match vs with
    | .ref o :: _ => (match h[o]? with
      | some (.inr (ci, _)) => ci = xm_ci K
      | _ => False)
    | _ => False
  | _ => match vs with
    | .ref _ :: _ => True
    | _ => False
/-- a call of method a: answer r, the heap h1 behind it -/
def x_calX (Pg : List xM) (X : xR) (a : Nat) (vs : List Value) (h : xH) (r : Option Value) (h1 : xH) : Prop := match Pg[a]? with
  | some K => x_recv K vs h ∧ (x_args vs).length ≤ xm_L K ∧ X a 0 (x_entry (xm_L K) vs) [] h r h1
  | none => False
def x_call (Pg : List xM) (X : xR) (k : Nat → xL → List Value → xH → Prop) (i : xI) (pc : Nat) (ls : xL) (st : List Value) (h : xH) : Prop :=
  i.2.2.2 ≤ st.length ∧ ((st.drop i.2.2.2).map Value.category).sum ≤ 8 ∧ ∃ (r : Option Value) (h1 : xH), x_calX Pg X i.2.2.1 (st.take i.2.2.2).reverse h r h1 ∧ k (pc + i.2.1) ls (r.toList ++ st.drop i.2.2.2) h1
def x_one (nm : Nat → String) (tf : Nat → Nat → FieldType) (fn : Nat → Nat) (Pg : List xM) (X : xR) (j : Nat) (rt : Option FieldType) (r : Option Value) (h' : xH) (k : Nat → xL → List Value → xH → Prop) (i : xI) (pc : Nat) (ls : xL) (st : List Value) (h : xH) : Prop :=
  if x_ctl i = false then (match x_op nm tf fn i ls st h with
    | some q => k (pc + i.2.1) q.1 q.2.1 q.2.2
    | none => False)
  else match i.1 with
  | .goto _ => X j i.2.2.1 ls st h r h'
  | .ifCond c _ => (match st with
    | .int x :: st => (x_c c x 0 → X j i.2.2.1 ls st h r h') ∧ (¬ x_c c x 0 → k (pc + i.2.1) ls st h)
    | _ => False)
  | .if_icmp c _ => (match st with
    | .int y :: .int x :: st => (x_c c x y → X j i.2.2.1 ls st h r h') ∧ (¬ x_c c x y → k (pc + i.2.1) ls st h)
    | _ => False)
  | .tableswitch d lo hi offs => (match st with
    | .int x :: st => (x.toInt < lo ∨ hi < x.toInt → X j ((pc : Int) + d).toNat ls st h r h') ∧ (¬ (x.toInt < lo ∨ hi < x.toInt) → ∃ off, offs[(x.toInt - lo).toNat]? = some off ∧ X j ((pc : Int) + off).toNat ls st h r h')
    | _ => False)
  | .lookupswitch d ps => (match st with
    | .int x :: st => X j ((pc : Int) + Op.lookupswitch.offset ps.toList d x.toInt).toNat ls st h r h'
    | _ => False)
  | .ireturn => (match st with
    | [.int v] => (rt = some .int ∨ rt = some .boolean ∧ v &&& 1 = v) ∧ r = some (.int v) ∧ h' = h
    | _ => False)
  | .lreturn => (match st with
    | [.long v] => rt = some .long ∧ r = some (.long v) ∧ h' = h
    | _ => False)
  | .return_ => st = [] ∧ rt = none ∧ r = none ∧ h' = h
  | .invokevirtual _ => x_call Pg X k i pc ls st h
  | .invokestatic _ => x_call Pg X k i pc ls st h
  | .invokespecial _ => x_call Pg X k i pc ls st h
  | _ => False
def x_ev (nm : Nat → String) (tf : Nat → Nat → FieldType) (fn : Nat → Nat) (Pg : List xM) (X : xR) (j : Nat) (rt : Option FieldType) (r : Option Value) (h' : xH) : List xI → Nat → xL → List Value → xH → Prop
  | [] => fun pc ls st h => X j pc ls st h r h'
  | i :: is => fun pc ls st h => x_one nm tf fn Pg X j rt r h' (x_ev nm tf fn Pg X j rt r h' is) i pc ls st h
def x_find (B : xB) (pc : Nat) : Option (List xI) := (B.find? (fun q => q.1 == pc)).map (fun q => q.2)
def x_blk (nm : Nat → String) (tf : Nat → Nat → FieldType) (fn : Nat → Nat) (Pg : List xM) (X : xR) : xR := fun j pc ls st h r h' => ∃ (M : xM) (is : List xI), Pg[j]? = some M ∧ x_find (xm_bl M) pc = some is ∧ x_ev nm tf fn Pg X j (xm_rt M) r h' is pc ls st h
/-- the least relation that is closed under the steps -/
def x_Ev (nm : Nat → String) (tf : Nat → Nat → FieldType) (fn : Nat → Nat) (Pg : List xM) : xR := fun j pc ls st h r h' => ∀ X : xR, (∀ j pc ls st h r h', x_blk nm tf fn Pg X j pc ls st h r h' → X j pc ls st h r h') → X j pc ls st h r h'
section XM
variable {nm : Nat → String} {tf : Nat → Nat → FieldType} {fn : Nat → Nat} {Pg : List xM} {X Y : xR} {j : Nat} {rt : Option FieldType} {r : Option Value} {h' : xH}
theorem x_calX_mono (hXY : ∀ j pc ls st h r h', X j pc ls st h r h' → Y j pc ls st h r h') {a : Nat} {vs : List Value} {h h1 : xH} (H : x_calX Pg X a vs h r h1) : x_calX Pg Y a vs h r h1 := by
  unfold x_calX at H ⊢
  split at H
  · rename_i K hK
    exact ⟨H.1, H.2.1, hXY _ _ _ _ _ _ _ H.2.2⟩
  · exact H
theorem x_call_mono (hXY : ∀ j pc ls st h r h', X j pc ls st h r h' → Y j pc ls st h r h') {k k' : Nat → xL → List Value → xH → Prop} (hk : ∀ pc ls st h, k pc ls st h → k' pc ls st h) {i : xI} {pc : Nat} {ls : xL} {st : List Value} {h : xH} (H : x_call Pg X k i pc ls st h) : x_call Pg Y k' i pc ls st h := by
  obtain ⟨h1, h2, r1, hh, h3, h4⟩ := H
  exact ⟨h1, h2, r1, hh, x_calX_mono hXY h3, hk _ _ _ _ h4⟩
theorem x_one_mono (hXY : ∀ j pc ls st h r h', X j pc ls st h r h' → Y j pc ls st h r h') {k k' : Nat → xL → List Value → xH → Prop} (hk : ∀ pc ls st h, k pc ls st h → k' pc ls st h) {i : xI} {pc : Nat} {ls : xL} {st : List Value} {h : xH} (H : x_one nm tf fn Pg X j rt r h' k i pc ls st h) : x_one nm tf fn Pg Y j rt r h' k' i pc ls st h := by
  obtain ⟨ins, n, a, b⟩ := i
  unfold x_one at H ⊢
  by_cases hc : x_ctl (ins, n, a, b) = false
  · rw [if_pos hc] at H ⊢
    split at H
    · rename_i q hq
      exact hk _ _ _ _ H
    · exact H
  · rw [if_neg hc] at H ⊢
    dsimp only at H ⊢
    split at H
    · exact hXY _ _ _ _ _ _ _ H
    · split at H
      · exact ⟨fun c => hXY _ _ _ _ _ _ _ (H.1 c), fun c => hk _ _ _ _ (H.2 c)⟩
      · exact H
    · split at H
      · exact ⟨fun c => hXY _ _ _ _ _ _ _ (H.1 c), fun c => hk _ _ _ _ (H.2 c)⟩
      · exact H
    · split at H
      · exact ⟨fun c => hXY _ _ _ _ _ _ _ (H.1 c), fun c => (H.2 c).elim fun o ho => ⟨o, ho.1, hXY _ _ _ _ _ _ _ ho.2⟩⟩
      · exact H
    · split at H
      · exact hXY _ _ _ _ _ _ _ H
      · exact H
    · exact H
    · exact H
    · exact H
    · exact x_call_mono hXY hk H
    · exact x_call_mono hXY hk H
    · exact x_call_mono hXY hk H
    · exact H.elim
theorem x_ev_mono (hXY : ∀ j pc ls st h r h', X j pc ls st h r h' → Y j pc ls st h r h') : ∀ (is : List xI) (pc : Nat) (ls : xL) (st : List Value) (h : xH), x_ev nm tf fn Pg X j rt r h' is pc ls st h → x_ev nm tf fn Pg Y j rt r h' is pc ls st h
  | [], _, _, _, _, H => hXY _ _ _ _ _ _ _ H
  | i :: is, pc, ls, st, h, H => x_one_mono hXY (fun pc ls st h => x_ev_mono hXY is pc ls st h) H
theorem x_blk_mono (hXY : ∀ j pc ls st h r h', X j pc ls st h r h' → Y j pc ls st h r h') {pc : Nat} {ls : xL} {st : List Value} {h : xH} (H : x_blk nm tf fn Pg X j pc ls st h r h') : x_blk nm tf fn Pg Y j pc ls st h r h' := by
  obtain ⟨M, is, h1, h2, h3⟩ := H
  exact ⟨M, is, h1, h2, x_ev_mono hXY _ _ _ _ _ h3⟩
theorem x_Ev_in {pc : Nat} {ls : xL} {st : List Value} {h : xH} (H : x_blk nm tf fn Pg (x_Ev nm tf fn Pg) j pc ls st h r h') : x_Ev nm tf fn Pg j pc ls st h r h' := by
  intro X hX
  exact hX _ _ _ _ _ _ _ (x_blk_mono (fun j pc ls st h r h' HE => HE X hX) H)
theorem x_Ev_to {M : xM} {is : List xI} {pc : Nat} {ls : xL} {st : List Value} {h : xH} (hM : Pg[j]? = some M) (hf : x_find (xm_bl M) pc = some is) (H : x_ev nm tf fn Pg (x_Ev nm tf fn Pg) j (xm_rt M) r h' is pc ls st h) : x_Ev nm tf fn Pg j pc ls st h r h' := x_Ev_in ⟨M, is, hM, hf, H⟩
end XM
end
section
/-! the words that travel with a state, and the links of the instructions: by program (wip/whole/gen03.py) -/
def x_mv (w : Jvm.Cond) : Bool := goodWord w || (match w with
  | .methodLinkNest _ _ _ _ => true
  | .arrayOver (.object _) => true
  | _ => false)
def x_TB : List Jvm.Cond := lw_tbl.filter x_mv
def x_has (pos : Nat) (w : Jvm.Cond) : Bool := decide (lw_tbl[pos]? = some w) && x_mv w
theorem x_has_in {pos : Nat} {w : Jvm.Cond} (h : x_has pos w = true) : w ∈ x_TB := by
  simp only [x_has, Bool.and_eq_true, decide_eq_true_eq] at h
  exact List.mem_filter.mpr ⟨List.mem_of_getElem? h.1, h.2⟩
def x_on (k : Nat) : String := match k with
  | 0 => "PathReader$Chart"
  | 1 => "PathReader$Grammar"
  | 2 => "PathReader$Script"
  | 3 => "PathReader$Sentence"
  | 4 => "PathReader$Shelf"
  | 5 => "PathReader$State"
  | 6 => "PathReader"
  | 7 => "PathReaderModel"
  | 8 => "PathReader$Row"
  | 9 => "PathReaderLaw"
  | _ => "java/lang/Math"
def x_nm (k : Nat) : String := match vwCl[k]? with
  | some q => q.1
  | none => ""
def x_fn (k : Nat) : Nat := match vwCl[k]? with
  | some q => q.2.2
  | none => 0
def x_tf (k : Nat) : Nat → FieldType := match k with
  | 0 => tyX0
  | 1 => tyX1
  | 2 => tyX3
  | 3 => tyX4
  | 4 => tyX5
  | 5 => tyX6
  | 6 => tyX7
  | _ => tyX8
def x_sC : String := "PathReader"
def x_sN : String := "MOST_OF_SETTING"
def x_sD : String := "[I"
def xLFp : List (Nat × Nat × Nat × Nat × Nat) := [(1, 9, 1, 0, 99), (1, 15, 1, 1, 100), (5, 94, 1, 1, 101), (0, 120, 1, 1, 102), (6, 247, 1, 1, 103), (1, 18, 1, 2, 104), (1, 21, 1, 3, 105), (1, 24, 1, 4, 106), (5, 48, 1, 4, 107), (0, 117, 1, 4, 108), (6, 218, 1, 4, 109), (1, 27, 1, 5, 110), (6, 215, 1, 5, 111), (3, 9, 3, 0, 132), (5, 44, 3, 0, 133), (0, 96, 3, 0, 134), (6, 141, 3, 0, 135), (3, 15, 3, 1, 136), (0, 123, 3, 1, 137), (3, 18, 3, 2, 138), (6, 155, 3, 2, 139), (3, 21, 3, 3, 140), (6, 123, 3, 3, 141), (3, 24, 3, 4, 142), (6, 152, 3, 4, 143), (3, 27, 3, 5, 144), (5, 36, 3, 5, 145), (0, 56, 3, 5, 146), (6, 126, 3, 5, 147), (5, 12, 5, 0, 161), (6, 44, 5, 0, 162), (0, 92, 5, 0, 163), (5, 21, 5, 1, 164), (0, 50, 5, 1, 165), (6, 113, 5, 1, 166), (4, 11, 4, 0, 181), (4, 17, 4, 1, 182), (4, 21, 4, 2, 183), (6, 211, 4, 2, 184), (0, 13, 0, 0, 202), (0, 17, 0, 1, 203), (0, 20, 0, 2, 204), (0, 23, 0, 3, 205), (0, 27, 0, 4, 206), (0, 32, 0, 5, 207), (0, 36, 0, 6, 208), (2, 9, 2, 0, 231), (2, 15, 2, 1, 232), (2, 18, 2, 2, 233), (2, 21, 2, 3, 234), (2, 24, 2, 4, 235), (2, 27, 2, 5, 236), (2, 31, 2, 6, 237), (2, 34, 2, 7, 238), (6, 186, 2, 7, 239), (2, 37, 2, 8, 240), (6, 199, 2, 8, 241), (6, 10, 6, 0, 261), (6, 16, 6, 1, 262), (6, 22, 6, 2, 263), (6, 29, 6, 3, 264), (6, 36, 6, 4, 265), (6, 40, 6, 5, 266), (7, 7, 7, 0, 705), (7, 13, 7, 1, 706), (7, 16, 7, 2, 707), (7, 58, 7, 3, 708), (7, 19, 7, 4, 709), (7, 22, 7, 5, 710), (7, 205, 7, 6, 711), (7, 25, 7, 7, 712), (7, 28, 7, 8, 713), (7, 31, 7, 9, 714), (7, 34, 7, 10, 715), (7, 37, 7, 11, 716), (7, 40, 7, 12, 717), (7, 43, 7, 13, 718), (7, 139, 7, 14, 719), (7, 133, 7, 15, 720), (7, 136, 7, 16, 721), (7, 142, 7, 17, 722), (7, 46, 7, 18, 723), (7, 49, 7, 19, 724), (7, 52, 7, 20, 725), (7, 223, 7, 21, 726), (7, 208, 7, 22, 727), (7, 214, 7, 23, 728), (7, 262, 7, 24, 729)]
def xLSp : List (Nat × Nat × Nat) := [(6, 79, 357)]
def xLCp : List (Nat × Nat × Nat × Nat) := [(9, 7, 6, 79), (6, 7, 5, 87), (5, 9, 1, 93), (5, 18, 3, 126), (6, 19, 4, 172), (4, 9, 5, 178), (6, 26, 0, 192), (6, 33, 2, 225), (9, 10, 7, 679)]
def xLJp : List (Nat × Nat × Nat × Nat) := [(0, 30, 288230376151711744, 198), (0, 44, 16777215, 482), (6, 221, 2605, 663), (6, 223, 31, 664), (7, 266, 2605, 1057), (7, 260, 31, 1062)]
def xLOp : List (Nat × Nat × Nat) := [(6, 1, 84), (5, 3, 92), (1, 3, 98), (3, 3, 131), (4, 3, 177), (0, 7, 197), (2, 3, 230), (7, 1, 684)]
def xLYp : List (Nat × Nat × Nat) := [(1, 31, 313), (3, 31, 320)]
def x_okF (q : Nat × Nat × Nat × Nat × Nat) : Bool := match vwCl[q.2.2.1]? with
  | some r => decide (q.2.2.2.1 < r.2.2) && x_has q.2.2.2.2 (.fieldLink (x_on q.1) q.2.1 (r.2.1 q.2.2.2.1).1 (r.2.1 q.2.2.2.1).2.1 (r.2.1 q.2.2.2.1).2.2.1)
  | none => false
theorem xLF_ok : xLFp.all x_okF = true := by decide +kernel
theorem xLS_ok : xLSp.all (fun q => x_has q.2.2 (.fieldLink (x_on q.1) q.2.1 x_sC x_sN x_sD)) = true := by decide +kernel
def x_okC (q : Nat × Nat × Nat × Nat) : Bool := match vwCl[q.2.2.1]? with
  | some r => x_has q.2.2.2 (.classLink (x_on q.1) q.2.1 r.1)
  | none => false
theorem xLC_ok : xLCp.all x_okC = true := by decide +kernel
theorem xLJ_ok : xLJp.all (fun q => x_has q.2.2.2 (.constantLong (x_on q.1) q.2.1 (Int64.ofNat q.2.2.1))) = true := by decide +kernel
theorem xLO_ok : xLOp.all (fun q => x_has q.2.2 (.methodLink (x_on q.1) q.2.1 objectInit)) = true := by decide +kernel
theorem xLY_ok : xLYp.all (fun q => x_has q.2.2 (.methodLink (x_on q.1) q.2.1 arraycopyName)) = true := by decide +kernel
def xLVp : List (Nat × Nat × Nat × List Nat) := [(0, 193, 73, [209, 211, 213, 215, 217, 219, 221]), (1, 94, 70, [112, 114, 116, 118, 120, 122]), (2, 226, 74, [242, 244, 246, 248, 250, 252, 254, 256, 258]), (3, 127, 71, [148, 150, 152, 154, 156, 158]), (4, 173, 72, [185, 187, 189]), (5, 88, 69, [167, 169]), (6, 80, 68, [267, 269, 271, 273, 275, 277]), (7, 680, 75, [730, 732, 734, 736, 738, 740, 742, 744, 746, 748, 750, 752, 754, 756, 758, 760, 762, 764, 766, 768, 770, 772, 774, 776, 778])]
def x_okV (q : Nat × Nat × Nat × List Nat) : Bool := match vwCl[q.1]? with
  | some r => x_has q.2.1 (.instantiable r.1 r.2.2) && x_has q.2.2.1 (.initialized r.1) && decide (q.2.2.2.length = r.2.2) && (List.range r.2.2).all (fun k => x_has (q.2.2.2.getD k 0) (u_lay r.1 r.2.1 k) && decide (parseFieldDescriptor (r.2.1 k).2.2.1 = some (x_tf q.1 k)))
  | none => false
theorem xLV_ok : xLVp.all x_okV = true := by decide +kernel
theorem xLV_nums : xLVp.map (fun q => q.1) = List.range vwCl.length := by decide +kernel
theorem x_nmd : ∀ (ci : Nat) (r : vw_C), vwCl[ci]? = some r → ∀ a, a < r.2.2 → ∀ b, b < r.2.2 → a ≠ b → (r.2.1 a).2.1 ≠ (r.2.1 b).2.1 := by
  intro ci r h
  match ci, h with
  | 0, h => cases h; exact nmX0
  | 1, h => cases h; exact nmX1
  | 2, h => cases h; exact nmX3
  | 3, h => cases h; exact nmX4
  | 4, h => cases h; exact nmX5
  | 5, h => cases h; exact nmX6
  | 6, h => cases h; exact nmX7
  | 7, h => cases h; exact nmX8
  | n + 8, h => simp at h
theorem xW_obj : Jvm.Cond.instanceMethod objectInit ∈ x_TB ∧ Jvm.Cond.code objectInit ⟨#[0xb1]⟩ 1 none ∈ x_TB := ⟨x_has_in (pos := 85) (by decide +kernel), x_has_in (pos := 86) (by decide +kernel)⟩
theorem xW_cpy : Jvm.Cond.native arraycopyName ∈ x_TB ∧ Jvm.Cond.static arraycopyName ∈ x_TB ∧ Jvm.Cond.initialized "java/lang/System" ∈ x_TB := ⟨x_has_in (pos := 315) (by decide +kernel), x_has_in (pos := 314) (by decide +kernel), x_has_in (pos := 76) (by decide +kernel)⟩
theorem xW_arr : Jvm.Cond.arrayClass .int ∈ x_TB ∧ Jvm.Cond.arrayClass .long ∈ x_TB ∧ Jvm.Cond.arrayOver (.object (x_nm 5)) ∈ x_TB := ⟨x_has_in (pos := 125) (by decide +kernel), x_has_in (pos := 224) (by decide +kernel), x_has_in (pos := 179) (by decide +kernel)⟩
def xLTp : List (Nat × Nat × Nat × Nat) := [(4, 29, 1003, 321), (0, 108, 1004, 434), (0, 139, 1005, 452), (8, 18, 1002, 535)]
def x_mnm (a : Nat) : MethodName := if a = 1002 then Lib.Math.max.name else if a = 1003 then Lib.Math.min.name else if a = 1004 then Lib.Math.abs.name else Lib.MathLoose.min_long.x
theorem xLT_ok : xLTp.all (fun q => x_has q.2.2.2 (.methodLink (x_on q.1) q.2.1 (x_mnm q.2.2.1))) = true := by decide +kernel
theorem xW_mth : Jvm.Cond.initialized "java/lang/Math" ∈ x_TB ∧ Jvm.Cond.static Lib.Math.max.name ∈ x_TB ∧ Jvm.Cond.code Lib.Math.max.name Lib.Math.max.code 2 (some .int) ∈ x_TB ∧ Jvm.Cond.static Lib.Math.min.name ∈ x_TB ∧ Jvm.Cond.code Lib.Math.min.name Lib.Math.min.code 2 (some .int) ∈ x_TB ∧ Jvm.Cond.static Lib.Math.abs.name ∈ x_TB ∧ Jvm.Cond.code Lib.Math.abs.name Lib.Math.abs.code 1 (some .int) ∈ x_TB ∧ Jvm.Cond.static Lib.MathLoose.min_long.x ∈ x_TB ∧ Jvm.Cond.code Lib.MathLoose.min_long.x Lib.MathLoose.min_long.code 4 (some .long) ∈ x_TB := ⟨x_has_in (pos := 77) (by decide +kernel), x_has_in (pos := 536) (by decide +kernel), x_has_in (pos := 537) (by decide +kernel), x_has_in (pos := 322) (by decide +kernel), x_has_in (pos := 323) (by decide +kernel), x_has_in (pos := 435) (by decide +kernel), x_has_in (pos := 436) (by decide +kernel), x_has_in (pos := 453) (by decide +kernel), x_has_in (pos := 454) (by decide +kernel)⟩
def x_ao : Nat := 5
end
section
/-! how our heap, locals and values lie in the real machine's -/
def x_ad (b q base : Nat) : Nat → Nat
  | 0 => b
  | 1 => q
  | k + 2 => base + k
def x_cv (ad : Nat → Nat) : Value → Value
  | .ref k => .ref (ad k)
  | v => v
theorem x_cv_cat (ad : Nat → Nat) (v : Value) : (x_cv ad v).category = v.category := by cases v <;> rfl
/-- an array holds these values, and says that it is so long -/
def x_cel (ad : Nat → Nat) (vs : List Value) (cell : Cell) : Prop := vs.length ≤ cell.slots.size ∧ cell.slots.size.toInt32 = Int32.ofNat vs.length ∧ ∀ (j : Nat) (v : Value), vs[j]? = some v → cell.slots[j]? = some (x_cv ad v)
def x_at (D : va_G) (ad : Nat → Nat) (U : State) (H : Heap) (a : Nat) (e : xE) : Prop := match e with
  | .inl (ty, vs) => ∃ cell : Cell, H[a]? = some cell ∧ U.isArrayOf cell ty ∧ cell.vm ≠ .unknown ∧ x_cel ad vs cell ∧ ∀ C, ty = .object C → va_RA U cell.cls ty
  | .inr (ci, fs) => ∃ r : vw_C, vwCl[ci]? = some r ∧ fs.length = r.2.2 ∧ t_OB a (D.1 ci) r.2.2 (D.2 ci) H (vp_V (fs.map (x_cv ad)))
def x_K (D : va_G) (U : State) : Prop := ∀ (ci : Nat) (q : vw_C), vwCl[ci]? = some q → u_Kn U q.1 q.2.1 q.2.2 (D.1 ci) (D.2 ci)
def x_GW (U : State) : Prop := ∀ w ∈ x_TB, w.before #[] U = true
def x_Rel (D : va_G) (b q base : Nat) (h : xH) (U : State) (H : Heap) : Prop :=
  b < base ∧ q < base ∧ 2 ≤ h.length ∧ H.size + 2 = base + h.length ∧ x_K D U ∧ va_Z x_sC x_sN x_sD (.ref q) (fun a => base ≤ a) U H ∧ ∀ (k : Nat) (e : xE), h[k]? = some e → x_at D (x_ad b q base) U H (x_ad b q base k) e
def x_lv (ad : Nat → Nat) (L : Nat) (ls : xL) (lsr : Array Slot) : Prop := lsr.size = L ∧ lv_wf lsr ∧ ∀ (k : Nat) (v : Value), ls[k]? = some (some v) → lsr[k]? = some (.val (x_cv ad v))
def x_size (e : xE) : Nat := match e with
  | .inl (_, vs) => vs.length
  | .inr (_, fs) => fs.length
def x_sz (h : xH) : Nat := (h.map x_size).sum
theorem x_GW.at {s U : State} (h : x_GW s) (hW : s.WarmedH U.vm) {w : Jvm.Cond} (hw : w ∈ x_TB) (a' : Array Value) : w.before a' U = true := by
  have h1 := h w hw
  have h2 := (List.mem_filter.mp hw).2
  unfold x_mv at h2
  rw [Bool.or_eq_true] at h2
  rcases h2 with h2 | h2
  · exact word_at hW (good_of_word h2) h1
  · split at h2
    · exact va_Nw.use rfl (va_Nw.warmM hW h1)
    · exact va_AO.use (va_AO.moved hW.alike h1)
    · cases h2
theorem x_GW.use {s : State} (h : x_GW s) {w : Jvm.Cond} (hw : w ∈ x_TB) (a' : Array Value) : w.before a' s = true := h.at (State.WarmedH.refl s) hw a'
theorem x_GW.warm {s U : State} (h : x_GW s) (hW : s.WarmedH U.vm) : x_GW U := fun _ hw => h.at hW hw _
theorem x_K.moved {D : va_G} {u U : State} (hvm : u.vm.Alike U.vm) (h : x_K D u) : x_K D U := fun ci q hq => u_Kn_moved hvm (h ci q hq)
theorem x_at.moved {D : va_G} {ad : Nat → Nat} {u U : State} {H : Heap} {a : Nat} {e : xE} (hvm : u.vm.Alike U.vm) (h : x_at D ad u H a e) : x_at D ad U H a e := by
  cases e with
  | inl x =>
    obtain ⟨cell, h1, h2, h3, h4, h5⟩ := h
    exact ⟨cell, h1, State.isArrayOf_alike hvm h2, h3, h4, fun C hC => (h5 C hC).moved hvm⟩
  | inr x => exact h
theorem x_Rel.moved {D : va_G} {b q base : Nat} {h : xH} {u U : State} {H : Heap} (hvm : u.vm.Alike U.vm) (hr : x_Rel D b q base h u H) : x_Rel D b q base h U H := by
  obtain ⟨h1, h2, h3, h4, h5, h6, h7⟩ := hr
  exact ⟨h1, h2, h3, h4, h5.moved hvm, h6.moved hvm, fun k e hk => (h7 k e hk).moved hvm⟩
theorem x_at.kept {D : va_G} {ad : Nat → Nat} {U : State} {H H1 : Heap} {a : Nat} {e : xE} (hq : H1[a]? = H[a]?) (h : x_at D ad U H a e) : x_at D ad U H1 a e := by
  cases e with
  | inl x =>
    obtain ⟨cell, h1, h2⟩ := h
    exact ⟨cell, hq.trans h1, h2⟩
  | inr x =>
    obtain ⟨r, h1, h2, h3⟩ := h
    exact ⟨r, h1, h2, h3.kept hq⟩
theorem x_ad_ge {b q base k : Nat} (hk : 2 ≤ k) : base ≤ x_ad b q base k := by
  match k, hk with
  | k + 2, _ => exact Nat.le_add_right _ _
theorem x_ad_ne {b q base j k : Nat} (hb : b < base) (hq : q < base) (hk : 2 ≤ k) (hjk : j ≠ k) : x_ad b q base j ≠ x_ad b q base k := by
  match k, hk with
  | k + 2, _ =>
    match j with
    | 0 => show b ≠ base + k; omega
    | 1 => show q ≠ base + k; omega
    | j + 2 => show base + j ≠ base + k; omega
theorem x_Rel.lt {D : va_G} {b q base : Nat} {h : xH} {U : State} {H : Heap} (hr : x_Rel D b q base h U H) {k : Nat} {e : xE} (hk : h[k]? = some e) : x_ad b q base k < H.size := by
  have h1 := hr.2.2.2.2.2.2 k e hk
  cases e with
  | inl x =>
    obtain ⟨cell, h1, -⟩ := h1
    exact (Array.getElem?_eq_some_iff.mp h1).1
  | inr x =>
    obtain ⟨r, -, -, cell, h1, -⟩ := h1
    exact (Array.getElem?_eq_some_iff.mp h1).1
theorem x_Rel.set {D : va_G} {b q base : Nat} {h : xH} {U : State} {H H1 : Heap} (hr : x_Rel D b q base h U H) {k : Nat} {e0 e : xE} (hk : h[k]? = some e0) (h2 : 2 ≤ k) (he : x_at D (x_ad b q base) U H1 (x_ad b q base k) e) (hz : H1.size = H.size) (oq : ∀ z, z ≠ x_ad b q base k → H1[z]? = H[z]?) : x_Rel D b q base (h.set k e) U H1 := by
  obtain ⟨hb, hq, hl, hs, hK, hZ, hc⟩ := hr
  have hkl := (List.getElem?_eq_some_iff.mp hk).1
  refine ⟨hb, hq, by rw [List.length_set]; exact hl, by rw [List.length_set, hz]; exact hs, hK, hZ.kept (fun a _ ha => oq a (fun z => ha (by rw [z]; exact x_ad_ge h2))), fun j x hj => ?_⟩
  by_cases hjk : j = k
  · subst hjk
    rw [List.getElem?_set_self hkl] at hj
    cases hj
    exact he
  · rw [List.getElem?_set_ne (Ne.symm hjk)] at hj
    exact (hc j x hj).kept (oq _ (x_ad_ne hb hq h2 hjk))
theorem x_ad_len {b q base : Nat} {h : xH} {H : Heap} (hl : 2 ≤ h.length) (hs : H.size + 2 = base + h.length) : x_ad b q base h.length = H.size := by
  match hn : h.length, hl with
  | k + 2, _ =>
    show base + k = H.size
    omega
theorem x_Rel.push {D : va_G} {b q base : Nat} {h : xH} {U : State} {H H1 : Heap} (hr : x_Rel D b q base h U H) {e : xE} (he : x_at D (x_ad b q base) U H1 H.size e) (hz : H1.size = H.size + 1) (oq : ∀ z, z < H.size → H1[z]? = H[z]?) : x_Rel D b q base (h ++ [e]) U H1 := by
  have hlt := fun (k : Nat) (e : xE) (hk : h[k]? = some e) => hr.lt hk
  obtain ⟨hb, hq, hl, hs, hK, hZ, hc⟩ := hr
  refine ⟨hb, hq, by simp; omega, by simp; omega, hK, hZ.kept (fun a ha _ => oq a ha), fun j x hj => ?_⟩
  by_cases hjl : j < h.length
  · rw [List.getElem?_append_left hjl] at hj
    exact (hc j x hj).kept (oq _ (hlt j x hj))
  · rw [List.getElem?_append_right (by omega)] at hj
    have hz2 : j - h.length < 1 := (List.getElem?_eq_some_iff.mp hj).1
    have hj0 : j = h.length := by omega
    subst hj0
    rw [Nat.sub_self] at hj
    cases hj
    rw [x_ad_len hl hs]
    exact he
theorem x_sz_set {h : xH} {k : Nat} {e0 e : xE} (hk : h[k]? = some e0) (hs : x_size e = x_size e0) : x_sz (h.set k e) = x_sz h := by
  unfold x_sz
  rw [List.map_set]
  congr 1
  apply List.ext_getElem?
  intro i
  by_cases hi : i = k
  · subst hi
    have hl := (List.getElem?_eq_some_iff.mp hk).1
    rw [List.getElem?_set_self (by simpa using hl), List.getElem?_map, hk, hs]
    rfl
  · rw [List.getElem?_set_ne (Ne.symm hi)]
theorem x_sz_push (h : xH) (e : xE) : x_sz (h ++ [e]) = x_sz h + x_size e := by
  unfold x_sz
  simp
/-! locals -/
def x_al (ad : Nat → Nat) (ls : xL) : List (Nat × Value) := (List.range ls.length).filterMap (fun k => (ls[k]?.bind id).map (fun v => (k, x_cv ad v)))
theorem x_al_mem {ad : Nat → Nat} {ls : xL} {k : Nat} {v : Value} (h : ls[k]? = some (some v)) : (k, x_cv ad v) ∈ x_al ad ls := by
  refine List.mem_filterMap.mpr ⟨k, List.mem_range.mpr (List.getElem?_eq_some_iff.mp h).1, ?_⟩
  rw [h]
  rfl
theorem x_lv.has {ad : Nat → Nat} {L : Nat} {ls : xL} {lsr : Array Slot} (h : x_lv ad L ls lsr) : lv_has lsr L (x_al ad ls) := by
  refine ⟨h.1, h.2.1, fun q hq => ?_⟩
  obtain ⟨k, -, hk⟩ := List.mem_filterMap.mp hq
  cases hz : ls[k]? with
  | none => rw [hz] at hk; simp at hk
  | some o =>
    cases o with
    | none => rw [hz] at hk; simp at hk
    | some v =>
      rw [hz] at hk
      simp at hk
      rw [← hk]
      exact h.2.2 k v hz
theorem x_put_len (ls : xL) (i : Nat) (v : Value) : (x_put ls i v).length = ls.length := by
  unfold x_put
  split
  · simp
  · split <;> simp
theorem x_put_at {ls : xL} {i : Nat} {v : Value} {k : Nat} {w : Value} (h : (x_put ls i v)[k]? = some (some w)) : (k = i ∧ w = v) ∨ (k ≠ i ∧ ls[k]? = some (some w) ∧ ¬ (k + 1 = i ∧ w.category = 2)) := by
  unfold x_put at h
  split at h
  · by_cases hk : k = 0
    · subst hk
      have hl : 0 < ls.length := by
        have := (List.getElem?_eq_some_iff.mp h).1
        simpa using this
      rw [List.getElem?_set_self hl] at h
      exact Or.inl ⟨rfl, by cases h; rfl⟩
    · rw [List.getElem?_set_ne (Ne.symm hk)] at h
      exact Or.inr ⟨hk, h, fun z => by omega⟩
  · rename_i i
    have key : ∀ ls2 : xL, (∀ z : Nat, z ≠ i → ls2[z]? = ls[z]?) → (ls2[i]? = some none ∨ (ls2[i]? = ls[i]? ∧ ∀ w, ls[i]? = some (some w) → ¬ w.category = 2)) → (ls2.set (i + 1) (some v))[k]? = some (some w) → (k = i + 1 ∧ w = v) ∨ (k ≠ i + 1 ∧ ls[k]? = some (some w) ∧ ¬ (k + 1 = i + 1 ∧ w.category = 2)) := by
      intro ls2 h1 h2 h3
      by_cases hk : k = i + 1
      · subst hk
        have hl : i + 1 < ls2.length := by
          have := (List.getElem?_eq_some_iff.mp h3).1
          simpa using this
        rw [List.getElem?_set_self hl] at h3
        exact Or.inl ⟨rfl, by cases h3; rfl⟩
      · rw [List.getElem?_set_ne (Ne.symm hk)] at h3
        by_cases hki : k = i
        · subst hki
          rcases h2 with h2 | ⟨h2, h4⟩
          · rw [h2] at h3; cases h3
          · rw [h2] at h3
            exact Or.inr ⟨hk, h3, fun z => h4 w h3 z.2⟩
        · rw [h1 k hki] at h3
          exact Or.inr ⟨hk, h3, fun z => by omega⟩
    split at h
    · rename_i x hx
      have hl := (List.getElem?_eq_some_iff.mp hx).1
      exact key _ (fun z hz => List.getElem?_set_ne (Ne.symm hz)) (Or.inl (List.getElem?_set_self hl)) h
    · rename_i x hx
      have hl := (List.getElem?_eq_some_iff.mp hx).1
      exact key _ (fun z hz => List.getElem?_set_ne (Ne.symm hz)) (Or.inl (List.getElem?_set_self hl)) h
    · rename_i n1 n2
      refine key _ (fun z _ => rfl) (Or.inr ⟨rfl, fun u hu => ?_⟩) h
      cases u with
      | long x => exact absurd hu (n1 x)
      | double x => exact absurd hu (n2 x)
      | _ => simp [Value.category]
theorem x_lv.put {ad : Nat → Nat} {L : Nat} {ls : xL} {lsr : Array Slot} {i : Nat} {v : Value} (h : lv_has lsr L ((i, x_cv ad v) :: (x_al ad ls).filter (fun q => !(q.1 == i) && !(q.1 + 1 == i && q.2.category == 2)))) : x_lv ad L (x_put ls i v) lsr := by
  refine ⟨h.1, h.2.1, fun k w hk => ?_⟩
  rcases x_put_at hk with ⟨rfl, rfl⟩ | ⟨h1, h2, h3⟩
  · exact h.2.2 _ List.mem_cons_self
  · refine h.2.2 _ (List.mem_cons_of_mem _ (List.mem_filter.mpr ⟨x_al_mem h2, ?_⟩))
    simp only [x_cv_cat, Bool.and_eq_true, Bool.not_eq_true', beq_eq_false_iff_ne, ne_eq, Bool.and_eq_false_iff]
    refine ⟨h1, ?_⟩
    by_cases hz : k + 1 = i
    · exact Or.inr (fun z => h3 ⟨hz, z⟩)
    · exact Or.inl hz
theorem x_lv.put2 {ad : Nat → Nat} {L : Nat} {ls : xL} {lsr : Array Slot} {i : Nat} {v : Value} (h : lv_has lsr L ((i, x_cv ad v) :: (x_al ad ls).filter (fun q => !(q.1 == i) && (!(q.1 == i + 1) && !(q.1 + 1 == i && q.2.category == 2))))) : x_lv ad L (x_put2 ls i v) lsr := by
  refine ⟨h.1, h.2.1, fun k w hk => ?_⟩
  unfold x_put2 at hk
  by_cases hki : k = i + 1
  · subst hki
    by_cases hl : i + 1 < (x_put ls i v).length
    · rw [List.getElem?_set_self hl] at hk; cases hk
    · rw [List.getElem?_eq_none (by simpa using hl)] at hk; cases hk
  · rw [List.getElem?_set_ne (Ne.symm hki)] at hk
    rcases x_put_at hk with ⟨rfl, rfl⟩ | ⟨h1, h2, h3⟩
    · exact h.2.2 _ List.mem_cons_self
    · refine h.2.2 _ (List.mem_cons_of_mem _ (List.mem_filter.mpr ⟨x_al_mem h2, ?_⟩))
      simp only [x_cv_cat, Bool.and_eq_true, Bool.not_eq_true', beq_eq_false_iff_ne, ne_eq, Bool.and_eq_false_iff]
      refine ⟨h1, hki, ?_⟩
      by_cases hz : k + 1 = i
      · exact Or.inr (fun z => h3 ⟨hz, z⟩)
      · exact Or.inl hz
theorem x_args_at (ad : Nat → Nat) : ∀ (vs : List Value) (i k : Nat) (v : Value), (x_args vs)[k]? = some (some v) → (i + k, x_cv ad v) ∈ lv_args i (vs.map (x_cv ad))
  | [], i, k, v, h => by simp [x_args] at h
  | w :: vs, i, k, v, h => by
    have ih := x_args_at ad vs
    have hcat := x_cv_cat ad w
    show (i + k, x_cv ad v) ∈ (i, x_cv ad w) :: lv_args (if (x_cv ad w).category = 2 then i + 2 else i + 1) (vs.map (x_cv ad))
    rw [hcat]
    have one : ∀ (hc : ¬ w.category = 2), x_args (w :: vs) = some w :: x_args vs → (i + k, x_cv ad v) ∈ (i, x_cv ad w) :: lv_args (if w.category = 2 then i + 2 else i + 1) (vs.map (x_cv ad)) := by
      intro hc he
      rw [he] at h
      rw [if_neg hc]
      cases k with
      | zero => cases h; exact List.mem_cons_self
      | succ k =>
        rw [List.getElem?_cons_succ] at h
        have := ih (i + 1) k v h
        rw [show i + 1 + k = i + (k + 1) by omega] at this
        exact List.mem_cons_of_mem _ this
    have two : ∀ (hc : w.category = 2), x_args (w :: vs) = some w :: none :: x_args vs → (i + k, x_cv ad v) ∈ (i, x_cv ad w) :: lv_args (if w.category = 2 then i + 2 else i + 1) (vs.map (x_cv ad)) := by
      intro hc he
      rw [he] at h
      rw [if_pos hc]
      match k, h with
      | 0, h => cases h; exact List.mem_cons_self
      | 1, h => cases h
      | k + 2, h =>
        rw [List.getElem?_cons_succ, List.getElem?_cons_succ] at h
        have := ih (i + 2) k v h
        rw [show i + 2 + k = i + (k + 2) by omega] at this
        exact List.mem_cons_of_mem _ this
    cases w with
    | long x => exact two rfl rfl
    | double x => exact two rfl rfl
    | int x => exact one (fun z => by simp [Value.category] at z) rfl
    | float x => exact one (fun z => by simp [Value.category] at z) rfl
    | null => exact one (fun z => by simp [Value.category] at z) rfl
    | ref x => exact one (fun z => by simp [Value.category] at z) rfl
    | retAddr x => exact one (fun z => by simp [Value.category] at z) rfl
theorem x_args_len (ad : Nat → Nat) : ∀ vs : List Value, (x_args vs).length = (lg_sl (vs.map (x_cv ad))).length
  | [] => rfl
  | w :: vs => by
    have ih := x_args_len ad vs
    unfold x_args lg_sl at ih ⊢
    cases w <;> simp [x_cv, Value.category] at ih ⊢ <;> omega
theorem x_lv_entry {ad : Nat → Nat} {L : Nat} {vs : List Value} (h : (x_args vs).length ≤ L) : x_lv ad L (x_entry L vs) ((lg_sl (vs.map (x_cv ad)) ++ List.replicate (L - (lg_sl (vs.map (x_cv ad))).length) Slot.unset).toArray) := by
  rw [x_args_len ad] at h
  have h1 := lv_entry (vs.map (x_cv ad)) (n := L) h
  refine ⟨h1.1, h1.2.1, fun k v hk => ?_⟩
  unfold x_entry at hk
  by_cases hl : k < (x_args vs).length
  · rw [List.getElem?_append_left hl] at hk
    have := x_args_at ad vs 0 k v hk
    rw [Nat.zero_add] at this
    exact h1.2.2 _ this
  · rw [List.getElem?_append_right (by omega)] at hk
    have := List.mem_of_getElem? hk
    have := List.eq_of_mem_replicate this
    cases this
theorem x_entry_len {L : Nat} {vs : List Value} (h : (x_args vs).length ≤ L) : (x_entry L vs).length = L := by
  unfold x_entry
  simp
  omega
end
section
/-! one instruction of ours is one of the real machine's -/
/-- the real machine, at that place, with any heap and locals that hold ours, comes to Qf -/
def x_Wn (p : Program) (l : Launch) (e : Env) (R : Room) (s : State) (m : MethodId) (args : Array Value) (below : List Frame) (meth : Method) (c : Code) (Qf : State → Prop) (D : va_G) (b q base L mc ms n' z' : Nat) (pc : Nat) (ls : xL) (st : List Value) (h : xH) : Prop :=
  ∀ (H : Heap) (locs : List Loc) (cells slots : Nat) (lsr : Array Slot), cells + (n' - h.length) ≤ mc → slots + (z' - x_sz h) ≤ ms → x_Rel D b q base h s H → x_lv (x_ad b q base) L ls lsr → (∀ z ∈ locs, base ≤ z.base) → W p l e R s m args below meth c H locs cells slots Qf (F0 m pc lsr (st.map (x_cv (x_ad b q base))))
abbrev x_Cx (p : Program) (s : State) (m : MethodId) (c : Code) (R : Room) (mc ms : Nat) (cc : ByteArray) (own : String) (L : Nat) : Prop :=
  p.tables.exec = Jvm.exec ∧ c.code = cc ∧ c.maxLocals = L ∧ s.vm.findClass own = some m.cls ∧ x_GW s ∧ mc ≤ R.cells ∧ ms ≤ R.slots
section XO
variable {p : Program} {l : Launch} {e : Env} {R : Room} {s : State} {m : MethodId} {args : Array Value} {below : List Frame} {meth : Method} {c : Code} {Qf : State → Prop} {D : va_G} {b q base L mc ms n' z' : Nat} {cc : ByteArray} {own : String}
variable {pc pc' : Nat} {ls ls2 : xL} {st st2 : List Value} {h h2 : xH}
theorem x_Wn_s (k : x_Wn p l e R s m args below meth c Qf D b q base L mc ms n' z' pc' ls st2 h)
    (f : ∀ (H : Heap) (locs : List Loc) (cells slots : Nat) (lsr : Array Slot), x_Rel D b q base h s H → x_lv (x_ad b q base) L ls lsr → W p l e R s m args below meth c H locs cells slots Qf (F0 m pc' lsr (st2.map (x_cv (x_ad b q base)))) → W p l e R s m args below meth c H locs cells slots Qf (F0 m pc lsr (st.map (x_cv (x_ad b q base))))) :
    x_Wn p l e R s m args below meth c Qf D b q base L mc ms n' z' pc ls st h := fun H locs cells slots lsr h1 h2 h3 h4 h5 => f H locs cells slots lsr h3 h4 (k H locs cells slots lsr h1 h2 h3 h4 h5)
theorem x_inb {i : Int32} {n : Nat} (h0 : ¬ i < 0) (h1 : i.toNatClampNeg < n) : ¬ (i < 0 ∨ n ≤ i.toNatClampNeg) := fun z => z.elim h0 (fun y => Nat.not_le.mpr h1 y)
theorem x_s_iload (C : x_Cx p s m c R mc ms cc own L) {i n : Nat} {ins : Instr} (hd : decode cc pc = .ok (ins, n)) (hi : (∃ k : Fin 4, (k : Nat) = i ∧ ins = .iload_n k ∧ n = 1) ∨ (ins = .iload i ∧ n = 2)) (ho : x_ldi ls i st h = some (ls2, st2, h2)) (k : x_Wn p l e R s m args below meth c Qf D b q base L mc ms n' z' (pc + n) ls2 st2 h2) : x_Wn p l e R s m args below meth c Qf D b q base L mc ms n' z' pc ls st h := by
  unfold x_ldi at ho
  split at ho
  · rename_i x hx
    cases ho
    refine x_Wn_s k fun H locs cells slots lsr hr hl kk => ?_
    rcases hi with ⟨k4, hk, rfl, rfl⟩ | ⟨rfl, rfl⟩
    · exact lv_iload_n C.1 C.2.1 hd hk (hl.2.2 i _ hx) kk
    · exact lv_iload C.1 C.2.1 hd (hl.2.2 i _ hx) kk
  · cases ho
theorem x_s_lload (C : x_Cx p s m c R mc ms cc own L) {i n : Nat} {ins : Instr} (hd : decode cc pc = .ok (ins, n)) (hi : (∃ k : Fin 4, (k : Nat) = i ∧ ins = .lload_n k ∧ n = 1) ∨ (ins = .lload i ∧ n = 2)) (ho : x_ldl ls i st h = some (ls2, st2, h2)) (k : x_Wn p l e R s m args below meth c Qf D b q base L mc ms n' z' (pc + n) ls2 st2 h2) : x_Wn p l e R s m args below meth c Qf D b q base L mc ms n' z' pc ls st h := by
  unfold x_ldl at ho
  split at ho
  · rename_i x hx
    cases ho
    refine x_Wn_s k fun H locs cells slots lsr hr hl kk => ?_
    rcases hi with ⟨k4, hk, rfl, rfl⟩ | ⟨rfl, rfl⟩
    · exact lv_lload_n C.1 C.2.1 hd hk (hl.2.2 i _ hx) kk
    · exact lv_lload C.1 C.2.1 hd (hl.2.2 i _ hx) kk
  · cases ho
theorem x_s_aload (C : x_Cx p s m c R mc ms cc own L) {i n : Nat} {ins : Instr} (hd : decode cc pc = .ok (ins, n)) (hi : (∃ k : Fin 4, (k : Nat) = i ∧ ins = .aload_n k ∧ n = 1) ∨ (ins = .aload i ∧ n = 2)) (ho : x_lda ls i st h = some (ls2, st2, h2)) (k : x_Wn p l e R s m args below meth c Qf D b q base L mc ms n' z' (pc + n) ls2 st2 h2) : x_Wn p l e R s m args below meth c Qf D b q base L mc ms n' z' pc ls st h := by
  unfold x_lda at ho
  split at ho
  · rename_i x hx
    cases ho
    refine x_Wn_s k fun H locs cells slots lsr hr hl kk => ?_
    rcases hi with ⟨k4, hk, rfl, rfl⟩ | ⟨rfl, rfl⟩
    · exact lv_aload_n C.1 C.2.1 hd hk (hl.2.2 i _ hx) kk
    · exact lv_aload C.1 C.2.1 hd (hl.2.2 i _ hx) kk
  · cases ho
theorem x_s_istore (C : x_Cx p s m c R mc ms cc own L) (hL : ls.length = L) {i n : Nat} {ins : Instr} (hd : decode cc pc = .ok (ins, n)) (hi : (∃ k : Fin 4, (k : Nat) = i ∧ ins = .istore_n k ∧ n = 1) ∨ (ins = .istore i ∧ n = 2)) (ho : x_sti ls i st h = some (ls2, st2, h2)) (k : x_Wn p l e R s m args below meth c Qf D b q base L mc ms n' z' (pc + n) ls2 st2 h2) : x_Wn p l e R s m args below meth c Qf D b q base L mc ms n' z' pc ls st h := by
  unfold x_sti at ho
  split at ho
  · rename_i x st
    split at ho
    · rename_i hlt
      cases ho
      intro H locs cells slots lsr h1 h2 h3 h4 h5
      rcases hi with ⟨k4, hk, rfl, rfl⟩ | ⟨rfl, rfl⟩
      · exact lv_istore_n C.1 C.2.1 hd hk h4.has (hL ▸ hlt) rfl fun ls' h' => k H locs cells slots ls' h1 h2 h3 (x_lv.put (v := .int x) h') h5
      · exact lv_istore C.1 C.2.1 hd h4.has (hL ▸ hlt) rfl fun ls' h' => k H locs cells slots ls' h1 h2 h3 (x_lv.put (v := .int x) h') h5
    · cases ho
  · cases ho
theorem x_s_astore (C : x_Cx p s m c R mc ms cc own L) (hL : ls.length = L) {i n : Nat} {ins : Instr} (hd : decode cc pc = .ok (ins, n)) (hi : (∃ k : Fin 4, (k : Nat) = i ∧ ins = .astore_n k ∧ n = 1) ∨ (ins = .astore i ∧ n = 2)) (ho : x_sta ls i st h = some (ls2, st2, h2)) (k : x_Wn p l e R s m args below meth c Qf D b q base L mc ms n' z' (pc + n) ls2 st2 h2) : x_Wn p l e R s m args below meth c Qf D b q base L mc ms n' z' pc ls st h := by
  unfold x_sta at ho
  split at ho
  · rename_i x st
    split at ho
    · rename_i hlt
      cases ho
      intro H locs cells slots lsr h1 h2 h3 h4 h5
      rcases hi with ⟨k4, hk, rfl, rfl⟩ | ⟨rfl, rfl⟩
      · exact lv_astore_n C.1 C.2.1 hd hk h4.has (hL ▸ hlt) rfl fun ls' h' => k H locs cells slots ls' h1 h2 h3 (x_lv.put (v := .ref x) h') h5
      · exact lv_astore C.1 C.2.1 hd h4.has (hL ▸ hlt) rfl fun ls' h' => k H locs cells slots ls' h1 h2 h3 (x_lv.put (v := .ref x) h') h5
    · cases ho
  · cases ho
theorem x_s_lstore (C : x_Cx p s m c R mc ms cc own L) (hL : ls.length = L) {i n : Nat} {ins : Instr} (hd : decode cc pc = .ok (ins, n)) (hi : (∃ k : Fin 4, (k : Nat) = i ∧ ins = .lstore_n k ∧ n = 1) ∨ (ins = .lstore i ∧ n = 2)) (ho : x_stl ls i st h = some (ls2, st2, h2)) (k : x_Wn p l e R s m args below meth c Qf D b q base L mc ms n' z' (pc + n) ls2 st2 h2) : x_Wn p l e R s m args below meth c Qf D b q base L mc ms n' z' pc ls st h := by
  unfold x_stl at ho
  split at ho
  · rename_i x st
    split at ho
    · rename_i hlt
      cases ho
      intro H locs cells slots lsr h1 h2 h3 h4 h5
      rcases hi with ⟨k4, hk, rfl, rfl⟩ | ⟨rfl, rfl⟩
      · exact lv_lstore_n C.1 C.2.1 hd hk h4.has (hL ▸ hlt) rfl fun ls' h' => k H locs cells slots ls' h1 h2 h3 (x_lv.put2 (v := .long x) h') h5
      · exact lv_lstore C.1 C.2.1 hd h4.has (hL ▸ hlt) rfl fun ls' h' => k H locs cells slots ls' h1 h2 h3 (x_lv.put2 (v := .long x) h') h5
    · cases ho
  · cases ho
theorem x_s_iinc (C : x_Cx p s m c R mc ms cc own L) (hL : ls.length = L) {i : Nat} {n : Int} (hd : decode cc pc = .ok (.iinc i n, 3)) (ho : x_inc ls i n st h = some (ls2, st2, h2)) (k : x_Wn p l e R s m args below meth c Qf D b q base L mc ms n' z' (pc + 3) ls2 st2 h2) : x_Wn p l e R s m args below meth c Qf D b q base L mc ms n' z' pc ls st h := by
  unfold x_inc at ho
  split at ho
  · rename_i x hx
    cases ho
    intro H locs cells slots lsr h1 h2 h3 h4 h5
    obtain ⟨kk, hk⟩ := List.getElem?_of_mem (x_al_mem (ad := x_ad b q base) hx)
    exact lv_iinc C.1 C.2.1 hd h4.has hk rfl (hL ▸ (List.getElem?_eq_some_iff.mp hx).1) rfl fun ls' h' => k H locs cells slots ls' h1 h2 h3 (x_lv.put (v := .int (x + Int32.ofInt n)) h') h5
  · cases ho
theorem x_s_getf (C : x_Cx p s m c R mc ms cc own L) {a k0 idx : Nat} {r : vw_C} (hc : vwCl[a]? = some r) (hk0 : k0 < r.2.2) (hlink : Jvm.Cond.fieldLink own idx (r.2.1 k0).1 (r.2.1 k0).2.1 (r.2.1 k0).2.2.1 ∈ x_TB) (hin : ∀ w ∈ u_ws r.1 r.2.1 r.2.2, w ∈ x_TB) (hd : decode cc pc = .ok (.getfield idx, 3)) (ho : x_getf a k0 ls st h = some (ls2, st2, h2)) (k : x_Wn p l e R s m args below meth c Qf D b q base L mc ms n' z' (pc + 3) ls2 st2 h2) : x_Wn p l e R s m args below meth c Qf D b q base L mc ms n' z' pc ls st h := by
  unfold x_getf at ho
  split at ho
  · rename_i o st
    split at ho
    · rename_i ci fs hh
      split at ho
      · rename_i hci
        subst hci
        split at ho
        · rename_i v hv
          cases ho
          refine x_Wn_s k fun H locs cells slots lsr hr hl kk => ?_
          obtain ⟨r', h1, h2, cell, q1, q2, q3, q4⟩ := hr.2.2.2.2.2.2 o _ hh
          cases hc.symm.trans h1
          obtain ⟨hS, hfc, kC, hkC, hkind⟩ := hr.2.2.2.2.1 _ _ hc
          obtain ⟨cf, kf, fi, f, hi, hsl⟩ := hS k0 hk0
          refine W.getf C.1 C.2.1 C.2.2.2.1 (C.2.2.2.2.1.use hlink _) hi (u_facts hfc hkC (u_lays (args := args) (fun w hw => C.2.2.2.2.1.use hw args) hin hk0) hi).1 q1 (by rw [q3]; exact fun h => by cases h) (v := x_cv (x_ad b q base) v) ?_ rfl rfl hd kk
          rw [hsl, q4 k0 hk0]
          simp [vp_V, hv]
        · cases ho
      · cases ho
    · cases ho
  · cases ho
theorem x_s_ald {ty : FieldType} (C : x_Cx p s m c R mc ms cc own L) (hd : (ty = .int ∧ decode cc pc = .ok (.iaload, 1)) ∨ (ty = .long ∧ decode cc pc = .ok (.laload, 1))) (ho : x_ald ty ls st h = some (ls2, st2, h2)) (k : x_Wn p l e R s m args below meth c Qf D b q base L mc ms n' z' (pc + 1) ls2 st2 h2) : x_Wn p l e R s m args below meth c Qf D b q base L mc ms n' z' pc ls st h := by
  unfold x_ald at ho
  split at ho
  · rename_i i o st
    split at ho
    · rename_i t vs hh
      split at ho
      · rename_i hci
        obtain ⟨rfl, hi0⟩ := hci
        split at ho
        · rename_i v hv
          cases ho
          refine x_Wn_s k fun H locs cells slots lsr hr hl kk => ?_
          obtain ⟨cell, q1, q2, q3, q4, -⟩ := hr.2.2.2.2.2.2 o _ hh
          have hlt : i.toNatClampNeg < vs.length := (List.getElem?_eq_some_iff.mp hv).1
          have hvv := q4.2.2 _ _ hv
          rcases hd with ⟨rfl, hd⟩ | ⟨rfl, hd⟩
          · exact W.iald C.1 C.2.1 q1 q2 q3 (x_inb hi0 (Nat.lt_of_lt_of_le hlt q4.1)) hvv rfl rfl hd kk
          · exact W.lald C.1 C.2.1 q1 q2 q3 (x_inb hi0 (Nat.lt_of_lt_of_le hlt q4.1)) hvv rfl rfl hd kk
        · cases ho
      · cases ho
    · cases ho
  · cases ho
theorem x_s_aald (C : x_Cx p s m c R mc ms cc own L) (hd : decode cc pc = .ok (.aaload, 1)) (ho : x_aald ls st h = some (ls2, st2, h2)) (k : x_Wn p l e R s m args below meth c Qf D b q base L mc ms n' z' (pc + 1) ls2 st2 h2) : x_Wn p l e R s m args below meth c Qf D b q base L mc ms n' z' pc ls st h := by
  unfold x_aald at ho
  split at ho
  · rename_i i o st
    split at ho
    · rename_i t vs hh
      split at ho
      · rename_i hci
        obtain ⟨ht, hi0⟩ := hci
        split at ho
        · rename_i v hv
          cases ho
          refine x_Wn_s k fun H locs cells slots lsr hr hl kk => ?_
          obtain ⟨cell, q1, q2, q3, q4, -⟩ := hr.2.2.2.2.2.2 o _ hh
          have hlt : i.toNatClampNeg < vs.length := (List.getElem?_eq_some_iff.mp hv).1
          have hvv := q4.2.2 _ _ hv
          exact W.aald C.1 C.2.1 q1 q2 ht q3 (x_inb hi0 (Nat.lt_of_lt_of_le hlt q4.1)) hvv rfl rfl hd kk
        · cases ho
      · cases ho
    · cases ho
  · cases ho
theorem x_s_alen (C : x_Cx p s m c R mc ms cc own L) (hd : decode cc pc = .ok (.arraylength, 1)) (ho : x_alen ls st h = some (ls2, st2, h2)) (k : x_Wn p l e R s m args below meth c Qf D b q base L mc ms n' z' (pc + 1) ls2 st2 h2) : x_Wn p l e R s m args below meth c Qf D b q base L mc ms n' z' pc ls st h := by
  unfold x_alen at ho
  split at ho
  · rename_i o st
    split at ho
    · rename_i t vs hh
      cases ho
      refine x_Wn_s k fun H locs cells slots lsr hr hl kk => ?_
      obtain ⟨cell, q1, q2, q3, q4, -⟩ := hr.2.2.2.2.2.2 o _ hh
      exact W.alen C.1 C.2.1 q1 q2 q4.2.1 rfl rfl hd kk
    · cases ho
  · cases ho
/-- a store into an array: the cell behind it -/
theorem x_at_store {ad : Nat → Nat} {H1 : Heap} {a : Nat} {t : FieldType} {vs : List Value} {cell : Cell} {i : Nat} {v : Value} (e1 : H1[a]? = some (cell.setSlot i (x_cv ad v))) (q2 : s.isArrayOf cell t) (q3 : cell.vm ≠ .unknown) (q4 : x_cel ad vs cell) (q5 : ∀ C, t = .object C → va_RA s cell.cls t) : x_at D ad s H1 a (.inl (t, vs.set i v)) := by
  refine ⟨_, e1, q2, q3, ⟨?_, ?_, ?_⟩, q5⟩
  · rw [k2_slotsz, List.length_set]; exact q4.1
  · rw [k2_slotsz, List.length_set]; exact q4.2.1
  · intro j w hj
    show (cell.slots.setIfInBounds i (x_cv ad v))[j]? = some (x_cv ad w)
    by_cases hji : j = i
    · subst hji
      have hl : j < vs.length := by
        have := (List.getElem?_eq_some_iff.mp hj).1
        simpa using this
      rw [List.getElem?_set_self hl] at hj
      cases hj
      rw [Array.getElem?_setIfInBounds_self_of_lt (Nat.lt_of_lt_of_le hl q4.1)]
    · rw [List.getElem?_set_ne (Ne.symm hji)] at hj
      rw [Array.getElem?_setIfInBounds_ne (Ne.symm hji)]
      exact q4.2.2 j w hj
theorem x_s_iast (C : x_Cx p s m c R mc ms cc own L) (hd : decode cc pc = .ok (.iastore, 1)) (ho : x_iast ls st h = some (ls2, st2, h2)) (k : x_Wn p l e R s m args below meth c Qf D b q base L mc ms n' z' (pc + 1) ls2 st2 h2) : x_Wn p l e R s m args below meth c Qf D b q base L mc ms n' z' pc ls st h := by
  unfold x_iast at ho
  split at ho
  · rename_i x i o st
    split at ho
    · rename_i t vs hh
      split at ho
      · rename_i hci
        obtain ⟨ho2, rfl, hi0, hlt⟩ := hci
        cases ho
        intro H locs cells slots lsr h1 h2 hr hl h5
        obtain ⟨cell, q1, q2, q3, q4, q5⟩ := hr.2.2.2.2.2.2 o _ hh
        refine W.iast C.1 C.2.1 q1 q2 q3 (x_inb hi0 (Nat.lt_of_lt_of_le hlt q4.1)) rfl rfl hd fun H1 e1 e2 e3 => ?_
        refine k H1 _ cells slots lsr (by rw [List.length_set]; exact h1) (by rw [x_sz_set hh (by simp [x_size])]; exact h2) (hr.set hh ho2 (x_at_store (v := .int x) e1 q2 q3 q4 q5) e2 e3) hl ?_
        intro z hz
        rcases List.mem_append.mp hz with hz | hz
        · exact h5 z hz
        · rw [List.mem_singleton.mp hz]; exact x_ad_ge ho2
      · cases ho
    · cases ho
  · cases ho
theorem x_s_last (C : x_Cx p s m c R mc ms cc own L) (hd : decode cc pc = .ok (.lastore, 1)) (ho : x_last ls st h = some (ls2, st2, h2)) (k : x_Wn p l e R s m args below meth c Qf D b q base L mc ms n' z' (pc + 1) ls2 st2 h2) : x_Wn p l e R s m args below meth c Qf D b q base L mc ms n' z' pc ls st h := by
  unfold x_last at ho
  split at ho
  · rename_i x i o st
    split at ho
    · rename_i t vs hh
      split at ho
      · rename_i hci
        obtain ⟨ho2, rfl, hi0, hlt⟩ := hci
        cases ho
        intro H locs cells slots lsr h1 h2 hr hl h5
        obtain ⟨cell, q1, q2, q3, q4, q5⟩ := hr.2.2.2.2.2.2 o _ hh
        refine W.last C.1 C.2.1 q1 q2 q3 (x_inb hi0 (Nat.lt_of_lt_of_le hlt q4.1)) rfl rfl hd fun H1 e1 e2 e3 => ?_
        refine k H1 _ cells slots lsr (by rw [List.length_set]; exact h1) (by rw [x_sz_set hh (by simp [x_size])]; exact h2) (hr.set hh ho2 (x_at_store (v := .long x) e1 q2 q3 q4 q5) e2 e3) hl ?_
        intro z hz
        rcases List.mem_append.mp hz with hz | hz
        · exact h5 z hz
        · rw [List.mem_singleton.mp hz]; exact x_ad_ge ho2
      · cases ho
    · cases ho
  · cases ho
theorem x_nm_of {ci : Nat} {r : vw_C} (hc : vwCl[ci]? = some r) : x_nm ci = r.1 := by
  unfold x_nm
  rw [hc]
theorem x_s_aast (C : x_Cx p s m c R mc ms cc own L) (hd : decode cc pc = .ok (.aastore, 1)) (ho : x_aast x_nm ls st h = some (ls2, st2, h2)) (k : x_Wn p l e R s m args below meth c Qf D b q base L mc ms n' z' (pc + 1) ls2 st2 h2) : x_Wn p l e R s m args below meth c Qf D b q base L mc ms n' z' pc ls st h := by
  unfold x_aast at ho
  split at ho
  · rename_i x i o st
    split at ho
    · rename_i t vs ci fs hh hx
      split at ho
      · rename_i hci
        obtain ⟨ho2, ht, hi0, hlt⟩ := hci
        cases ho
        intro H locs cells slots lsr h1 h2 hr hl h5
        obtain ⟨cell, q1, q2, q3, q4, q5⟩ := hr.2.2.2.2.2.2 o _ hh
        obtain ⟨r, hc, -, cellV, g1, g2, g3, -⟩ := hr.2.2.2.2.2.2 x _ hx
        have hra := q5 _ ht
        rw [ht, x_nm_of hc] at hra
        obtain ⟨kA, comp, k1, k2, k3, -⟩ := hra
        have hcls := (hr.2.2.2.2.1 ci r hc).2
        have hcomp : comp = D.1 ci := Option.some.inj (k3.symm.trans hcls.1)
        subst hcomp
        obtain ⟨kC, hkC, -⟩ := hcls.2
        refine W.aast C.1 C.2.1 q1 q2.1 q3 k1 k2 rfl hkC ⟨hi0, Nat.lt_of_lt_of_le hlt q4.1⟩ g1 (fun z hz => by rw [g3] at hz; cases hz) (by rw [g2]; exact hkC) (by rw [g2]; exact va_assign hcls) rfl rfl hd fun H1 e1 e2 e3 => ?_
        refine k H1 _ cells slots lsr (by rw [List.length_set]; exact h1) (by rw [x_sz_set hh (by simp [x_size])]; exact h2) (hr.set hh ho2 (x_at_store (v := .ref x) e1 q2 q3 q4 q5) e2 e3) hl ?_
        intro z hz
        rcases List.mem_append.mp hz with hz | hz
        · exact h5 z hz
        · rw [List.mem_singleton.mp hz]; exact x_ad_ge ho2
      · cases ho
    · cases ho
  · cases ho
end XO
end
section
/-! fields written, cells made, rows copied -/
theorem x_clF {ci : Nat} {r : vw_C} (hc : vwCl[ci]? = some r) : Jvm.Cond.instantiable r.1 r.2.2 ∈ x_TB ∧ Jvm.Cond.initialized r.1 ∈ x_TB ∧ (∀ w ∈ u_ws r.1 r.2.1 r.2.2, w ∈ x_TB) ∧ ∀ k, k < r.2.2 → parseFieldDescriptor (r.2.1 k).2.2.1 = some (x_tf ci k) := by
  have hl := (List.getElem?_eq_some_iff.mp hc).1
  have h1 : ci ∈ xLVp.map (fun q => q.1) := by rw [xLV_nums]; exact List.mem_range.mpr hl
  obtain ⟨q, hq, hqc⟩ := List.mem_map.mp h1
  have h2 := List.all_eq_true.mp xLV_ok q hq
  unfold x_okV at h2
  rw [hqc, hc] at h2
  simp only [Bool.and_eq_true, List.all_eq_true, List.mem_range, decide_eq_true_eq] at h2
  refine ⟨x_has_in h2.1.1.1, x_has_in h2.1.1.2, fun w hw => ?_, fun k hk => (h2.2 k hk).2⟩
  obtain ⟨k, hk, hkw⟩ := List.mem_map.mp hw
  rw [← hkw]
  exact x_has_in (h2.2 k (List.mem_range.mp hk)).1
theorem x_narrow_cv (ad : Nat → Nat) {ty : FieldType} {v : Value} (h : x_fit ty v = true) : narrow ty (x_cv ad v) = x_cv ad v ∧ fits ty (x_cv ad v) = true := by
  unfold x_fit at h
  simp only [Bool.and_eq_true, decide_eq_true_eq] at h
  cases v with
  | ref k =>
    refine ⟨?_, ?_⟩
    · cases ty <;> rfl
    · cases ty <;> first | rfl | (have := h.2; simp [fits] at this)
  | _ => exact h
section XO2
variable {p : Program} {l : Launch} {e : Env} {R : Room} {s : State} {m : MethodId} {args : Array Value} {below : List Frame} {meth : Method} {c : Code} {Qf : State → Prop} {D : va_G} {b q base L mc ms n' z' : Nat} {cc : ByteArray} {own : String}
variable {pc pc' : Nat} {ls ls2 : xL} {st st2 : List Value} {h h2 : xH}
theorem x_apart (hG : x_GW s) (hK : x_K D s) {ci : Nat} {r : vw_C} (hc : vwCl[ci]? = some r) : ∀ x y, x < r.2.2 → y < r.2.2 → x ≠ y → (D.2 ci) x ≠ (D.2 ci) y := by
  intro x y hx hy hne
  obtain ⟨hS, -⟩ := hK ci _ hc
  obtain ⟨-, -, hin, hty⟩ := x_clF hc
  have hts : ∀ w ∈ x_TB, w.before #[] s = true := hG
  obtain ⟨_, _, _, fa, hia, ea⟩ := hS x hx
  obtain ⟨_, _, _, fb, hib, eb⟩ := hS y hy
  rw [← ea, ← eb]
  refine u_apart (u_lays hts hin hx) (u_lays hts hin hy) hia hib ?_
  rw [(State.fieldFound?_type hia (hty x hx)).1, (State.fieldFound?_type hib (hty y hy)).1]
  exact x_nmd ci r hc x hx y hy hne
theorem x_s_putf (C : x_Cx p s m c R mc ms cc own L) {a k0 idx : Nat} {r : vw_C} (hc : vwCl[a]? = some r) (hk0 : k0 < r.2.2) (hlink : Jvm.Cond.fieldLink own idx (r.2.1 k0).1 (r.2.1 k0).2.1 (r.2.1 k0).2.2.1 ∈ x_TB) (hfin : (r.2.1 k0).2.2.2 = false ∨ (meth.name = "<init>" ∧ (r.2.1 k0).1 = own)) (hd : decode cc pc = .ok (.putfield idx, 3)) (ho : x_putf x_tf a k0 ls st h = some (ls2, st2, h2)) (k : x_Wn p l e R s m args below meth c Qf D b q base L mc ms n' z' (pc + 3) ls2 st2 h2) : x_Wn p l e R s m args below meth c Qf D b q base L mc ms n' z' pc ls st h := by
  unfold x_putf at ho
  split at ho
  · rename_i v o st
    split at ho
    · rename_i ho2
      split at ho
      · rename_i ci fs hh
        split at ho
        · rename_i hci
          obtain ⟨rfl, hkl, hfit⟩ := hci
          cases ho
          intro H locs cells slots lsr h1 h2 hr hl h5
          obtain ⟨-, -, hin, hty⟩ := x_clF hc
          have hts : ∀ w ∈ x_TB, w.before args s = true := fun w hw => C.2.2.2.2.1.use hw args
          have hap := x_apart C.2.2.2.2.1 hr.2.2.2.2.1 hc
          obtain ⟨r', h1', hlen, cell, q1, q2, q3, q4⟩ := hr.2.2.2.2.2.2 o _ hh
          cases hc.symm.trans h1'
          obtain ⟨hS, hfc, kC, hkC, hkind⟩ := hr.2.2.2.2.1 _ _ hc
          obtain ⟨cf, kf, fi, f, hi, hsl⟩ := hS k0 hk0
          have hlay := hts _ (hin _ (u_in_lay hk0))
          have hst := (u_facts hfc hkC (u_lays hts hin hk0) hi).1
          obtain ⟨hn, hft⟩ := x_narrow_cv (x_ad b q base) hfit
          have key : ∀ H' : Heap, H'[x_ad b q base o]? = some (cell.setSlot f.slot (x_cv (x_ad b q base) v)) → H'.size = H.size → (∀ z, z ≠ x_ad b q base o → H'[z]? = H[z]?) → W p l e R s m args below meth c H' (locs ++ [⟨x_ad b q base o, f.slot⟩]) cells slots Qf (F0 m (pc + 3) lsr (st2.map (x_cv (x_ad b q base)))) := by
            intro H' e1 e2 e3
            rw [hsl] at e1
            refine k H' _ cells slots lsr (by rw [List.length_set]; exact h1) (by rw [x_sz_set hh (by simp [x_size])]; exact h2) (hr.set hh ho2 ⟨r, hc, by rw [List.length_set]; exact hlen, ?_⟩ e2 e3) hl ?_
            · rw [List.map_set]
              exact t_OB.to (V := updV (vp_V (fs.map (x_cv (x_ad b q base)))) k0 (x_cv (x_ad b q base) v)) ⟨_, e1, q2, q3, t_set q4 hap hk0 _⟩ (fun j _ => vp_updV_set (by simpa using hkl) _ j)
            · intro z hz
              rcases List.mem_append.mp hz with hz | hz
              · exact h5 z hz
              · rw [List.mem_singleton.mp hz]; exact x_ad_ge ho2
          by_cases hff : (r.2.1 k0).2.2.2 = true
          · unfold u_lay at hlay
            rw [if_pos hff] at hlay
            rcases hfin with hfin | ⟨hin2, hdecl⟩
            · rw [hfin] at hff; cases hff
            have hcf : m.cls = cf := by
              obtain ⟨_, _, c', _, _, _, -, -, hf', -, -, -, hown2, -⟩ := Cond.laysFinal_spec hlay
              have e1 : c' = cf := by have := hi.symm.trans hf'; simp at this; exact this.1.symm
              rw [hdecl] at hown2
              rw [← e1]; exact Option.some.inj (C.2.2.2.1.symm.trans hown2)
            have h6 := u_fits hfc hkC hkind (Or.inr hlay) hi (hty k0 hk0) hn hft
            exact W.putFinK C.1 C.2.1 C.2.2.2.1 (hts _ hlink) hi hst hcf hin2 (by rw [q2]; exact h6) q1 q3 (by rw [hsl]; exact k2_hasslot (q4 k0 hk0)) rfl rfl hd key
          · unfold u_lay at hlay
            rw [if_neg hff] at hlay
            have h6 := u_store hfc hkC hkind hlay hi (hty k0 hk0) hn hft
            exact W.putK C.1 C.2.1 (f := f) ⟨C.2.2.2.1, hts _ hlink, ⟨_, _, _, hi⟩, hst⟩ (by rw [q2]; exact h6) q1 q3 (by rw [hsl]; exact k2_hasslot (q4 k0 hk0)) rfl rfl hd key
        · cases ho
      · cases ho
    · cases ho
  · cases ho
theorem x_s_new (C : x_Cx p s m c R mc ms cc own L) {a idx : Nat} {r : vw_C} (hc : vwCl[a]? = some r) (hlink : Jvm.Cond.classLink own idx r.1 ∈ x_TB) (hn' : h.length + 1 ≤ n') (hz' : x_sz h + x_fn a ≤ z') (hd : decode cc pc = .ok (.new idx, 3)) (k : x_Wn p l e R s m args below meth c Qf D b q base L mc ms n' z' (pc + 3) ls (.ref h.length :: st) (h ++ [.inr (a, (List.range (x_fn a)).map (fun k => defaultValue (x_tf a k)))])) : x_Wn p l e R s m args below meth c Qf D b q base L mc ms n' z' pc ls st h := by
  intro H locs cells slots lsr h1 h2 hr hl h5
  obtain ⟨hins, hini, hin, hty⟩ := x_clF hc
  have hfn : x_fn a = r.2.2 := by unfold x_fn; rw [hc]
  rw [hfn] at hz' k
  have hts : ∀ w ∈ x_TB, w.before args s = true := fun w hw => C.2.2.2.2.1.use hw args
  have hKn := hr.2.2.2.2.1 _ _ hc
  have hmc := C.2.2.2.2.2.1
  have hms := C.2.2.2.2.2.2
  refine W.newcK C.1 C.2.1 C.2.2.2.1 (hts _ hlink) (hts _ hins) (hts _ hini) rfl hd (by omega) (by omega) hKn.2.1 rfl fun H1 kC hkC e1 z1 o1 => ?_
  have hsz := x_sz_push h (.inr (a, (List.range r.2.2).map (fun k => defaultValue (x_tf a k))))
  have hsz1 : x_size (.inr (a, (List.range r.2.2).map (fun k => defaultValue (x_tf a k)))) = r.2.2 := by simp [x_size]
  have hlen : (h ++ [(.inr (a, (List.range r.2.2).map (fun k => defaultValue (x_tf a k))) : xE)]).length = h.length + 1 := by simp
  have := k H1 locs (cells + 1) (slots + r.2.2) lsr (by rw [hlen]; omega) (by rw [hsz, hsz1]; omega) (hr.push ⟨r, hc, by simp, (u_born (x_tf a) hts hin hKn hkC e1 hty).to (fun j hj => ?_)⟩ z1 o1) hl h5
  · have e2 : x_cv (x_ad b q base) (.ref h.length) = .ref H.size := by
      show Value.ref (x_ad b q base h.length) = _
      rw [x_ad_len hr.2.2.1 hr.2.2.2.1]
    rw [List.map_cons, e2] at this
    exact this
  · simp only [vp_V, List.map_map, List.getD_eq_getElem?_getD, List.getElem?_map, List.getElem?_range hj, Option.map_some, Option.getD_some, Function.comp]
    cases x_tf a j <;> rfl
theorem x_cv_default (ad : Nat → Nat) (ty : FieldType) : x_cv ad (defaultValue ty) = defaultValue ty := by cases ty <;> rfl
theorem x_s_newa (C : x_Cx p s m c R mc ms cc own L) {t : ArrayType} (hw : Jvm.Cond.arrayClass (newarray.typeOf t) ∈ x_TB) (ht : t = .int ∨ t = .long) (hn' : h2.length ≤ n') (hz' : x_sz h2 ≤ z') (hd : decode cc pc = .ok (.newarray t, 2)) (ho : x_newa (newarray.typeOf t) ls st h = some (ls2, st2, h2)) (k : x_Wn p l e R s m args below meth c Qf D b q base L mc ms n' z' (pc + 2) ls2 st2 h2) : x_Wn p l e R s m args below meth c Qf D b q base L mc ms n' z' pc ls st h := by
  unfold x_newa at ho
  split at ho
  · rename_i n st
    split at ho
    · rename_i hci
      obtain ⟨hn0, hn1⟩ := hci
      cases ho
      intro H locs cells slots lsr h1 h2 hr hl h5
      have hmc := C.2.2.2.2.2.1
      have hms := C.2.2.2.2.2.2
      rw [x_sz_push] at hz'
      rw [List.length_append] at hn'
      have hsz1 : x_size (.inl (newarray.typeOf t, List.replicate n.toNatClampNeg (defaultValue (newarray.typeOf t))) : xE) = n.toNatClampNeg := by simp [x_size]
      rw [hsz1] at hz'
      simp only [List.length_cons, List.length_nil] at hn'
      refine W.newaK C.1 C.2.1 (C.2.2.2.2.1.use hw _) rfl hd rfl hn0 rfl (by rcases ht with rfl | rfl <;> simp only [newarray.typeOf, componentBytes] <;> omega) (by omega) (by omega) rfl fun H1 cA e1 z1 o1 hA => ?_
      have := k H1 locs (cells + 1) (slots + n.toNatClampNeg) lsr (by simp only [List.length_append, List.length_cons, List.length_nil]; omega) (by rw [x_sz_push, hsz1]; omega) (hr.push ⟨_, e1, hA _ _, (fun z => by cases z), ?_, ?_⟩ z1 o1) hl h5
      · have e2 : x_cv (x_ad b q base) (.ref h.length) = .ref H.size := by
          show Value.ref (x_ad b q base h.length) = _
          rw [x_ad_len hr.2.2.1 hr.2.2.2.1]
        rw [List.map_cons, e2] at this
        exact this
      · refine ⟨by rw [arrV_size, List.length_replicate]; exact Nat.le_refl _, by rw [arrV_size, List.length_replicate], fun j v hj => ?_⟩
        have hl := (List.getElem?_eq_some_iff.mp hj).1
        rw [List.length_replicate] at hl
        rw [List.getElem?_replicate, if_pos hl] at hj
        cases hj
        rw [arrV_read _ _ hl, x_cv_default]
      · intro Cn hC
        rcases ht with rfl | rfl <;> cases hC
    · cases ho
  · cases ho
theorem x_s_anew (C : x_Cx p s m c R mc ms cc own L) {Cn : String} {idx : Nat} (hlink : Jvm.Cond.classLink own idx Cn ∈ x_TB) (hover : Jvm.Cond.arrayOver (.object Cn) ∈ x_TB) (hn' : h2.length ≤ n') (hz' : x_sz h2 ≤ z') (hd : decode cc pc = .ok (.anewarray idx, 3)) (ho : x_newa (.object Cn) ls st h = some (ls2, st2, h2)) (k : x_Wn p l e R s m args below meth c Qf D b q base L mc ms n' z' (pc + 3) ls2 st2 h2) : x_Wn p l e R s m args below meth c Qf D b q base L mc ms n' z' pc ls st h := by
  unfold x_newa at ho
  split at ho
  · rename_i n st
    split at ho
    · rename_i hci
      obtain ⟨hn0, hn1⟩ := hci
      cases ho
      intro H locs cells slots lsr h1 h2 hr hl h5
      have hmc := C.2.2.2.2.2.1
      have hms := C.2.2.2.2.2.2
      rw [x_sz_push] at hz'
      rw [List.length_append] at hn'
      have hsz1 : x_size (.inl (.object Cn, List.replicate n.toNatClampNeg (defaultValue (.object Cn))) : xE) = n.toNatClampNeg := by simp [x_size]
      rw [hsz1] at hz'
      simp only [List.length_cons, List.length_nil] at hn'
      refine W.anew C.1 C.2.1 C.2.2.2.1 (C.2.2.2.2.1.use hlink _) (C.2.2.2.2.1.use hover _) rfl hd rfl hn0 (by omega) (by omega) (by omega) fun cA kA comp f1 f2 f3 f4 => ?_
      have := k (H.push ({ cls := cA, slots := Array.replicate n.toNatClampNeg .null, vm := .none } : Cell)) locs (cells + 1) (slots + n.toNatClampNeg) lsr (by simp only [List.length_append, List.length_cons, List.length_nil]; omega) (by rw [x_sz_push, hsz1]; omega) (hr.push ⟨_, Array.getElem?_push_size, ⟨(fun k hk => by cases hk), kA, f2, comp, f3⟩, (fun z => by cases z), ?_, ?_⟩ (by rw [Array.size_push]) (fun z hz => by rw [Array.getElem?_push, if_neg (Nat.ne_of_lt hz)])) hl h5
      · have e2 : x_cv (x_ad b q base) (.ref h.length) = .ref H.size := by
          show Value.ref (x_ad b q base h.length) = _
          rw [x_ad_len hr.2.2.1 hr.2.2.2.1]
        rw [List.map_cons, e2] at this
        exact this
      · refine ⟨by simp, by simp, fun j v hj => ?_⟩
        have hl := (List.getElem?_eq_some_iff.mp hj).1
        rw [List.length_replicate] at hl
        rw [List.getElem?_replicate, if_pos hl] at hj
        cases hj
        simp [hl, defaultValue, x_cv]
      · intro C2 hC
        cases hC
        exact ⟨kA, comp, f2, f3, f4, f1⟩
    · cases ho
  · cases ho
theorem x_s_obj (C : x_Cx p s m c R mc ms cc own L) {idx : Nat} (hlink : Jvm.Cond.methodLink own idx objectInit ∈ x_TB) (hfr : 1 ≤ R.frames) (hlo : 20 ≤ R.locals) (hd : decode cc pc = .ok (.invokespecial idx, 3)) (ho : x_obj ls st h = some (ls2, st2, h2)) (k : x_Wn p l e R s m args below meth c Qf D b q base L mc ms n' z' (pc + 3) ls2 st2 h2) : x_Wn p l e R s m args below meth c Qf D b q base L mc ms n' z' pc ls st h := by
  unfold x_obj at ho
  split at ho
  · rename_i o st
    split at ho
    · rename_i hs
      cases ho
      refine x_Wn_s k fun H locs cells slots lsr hr hl kk => ?_
      have hcat : ((st2.map (x_cv (x_ad b q base))).map fun v => v.category).sum = (st2.map Value.category).sum := by
        rw [List.map_map]
        congr 1
        exact List.map_congr_left (fun v _ => x_cv_cat _ v)
      exact W.objInit C.1 C.2.1 C.2.2.2.1 (C.2.2.2.2.1.use hlink _) (C.2.2.2.2.1.use xW_obj.1 _) (C.2.2.2.2.1.use xW_obj.2 _) rfl (by rw [C.2.2.1]; exact hl.1) rfl hd hfr (by rw [hcat]; show 2 * 0 + _ + 12 ≤ _; omega) kk
    · cases ho
  · cases ho
theorem x_s_copy (C : x_Cx p s m c R mc ms cc own L) {idx : Nat} (hlink : Jvm.Cond.methodLink own idx arraycopyName ∈ x_TB) (hfr : 1 ≤ R.frames) (hlo : 26 ≤ R.locals) (hd : decode cc pc = .ok (.invokestatic idx, 3)) (ho : x_copy ls st h = some (ls2, st2, h2)) (k : x_Wn p l e R s m args below meth c Qf D b q base L mc ms n' z' (pc + 3) ls2 st2 h2) : x_Wn p l e R s m args below meth c Qf D b q base L mc ms n' z' pc ls st h := by
  unfold x_copy at ho
  split at ho
  · rename_i n dp d sp sr st
    split at ho
    · rename_i t vs t' ws hs hdd
      split at ho
      · rename_i hci
        obtain ⟨hd2, rfl, rfl, rfl, rfl, hn0, hnv, hwv, hfit, hst⟩ := hci
        cases ho
        intro H locs cells slots lsr h1 h2 hr hl h5
        have hcat : ((st2.map (x_cv (x_ad b q base))).map fun v => v.category).sum = (st2.map Value.category).sum := by
          rw [List.map_map]
          congr 1
          exact List.map_congr_left (fun v _ => x_cv_cat _ v)
        obtain ⟨cs, a1, a2, a3, a4, -⟩ := hr.2.2.2.2.2.2 sr _ hs
        obtain ⟨cd, b1, b2, b3, b4, b5⟩ := hr.2.2.2.2.2.2 d _ hdd
        have szs := a4.1
        have szd := b4.1
        rw [hwv] at szd
        obtain ⟨ao, ks, hks, sC, hsk⟩ := a2
        obtain ⟨bo, kd, hkd, dC, hdk⟩ := b2
        have hG := C.2.2.2.2.1
        have nn : n.toInt = (n.toNatClampNeg : Int) := (toNatClampNeg_of_not_neg32 n hn0).symm
        have hz0 : (0 : Int32).toInt = 0 := rfl
        have hz1 : (0 : Int32).toNatClampNeg = 0 := rfl
        intro T hT X
        obtain ⟨vm', X', step⟩ := X.arraycopy C.1 C.2.2.2.1 (hG.use hlink _) (hG.use xW_cpy.1 _) (hG.use xW_cpy.2.1 _) (hG.use xW_cpy.2.2 _) (src := x_ad b q base sr) (dst := x_ad b q base d) (cs := cs) (cd := cd) (srcPos := 0) (destPos := 0) (n := n) (by rw [hT]; exact a1) (by rw [hT]; exact b1) ao bo a3 b3 hks hkd hsk hdk (by simp [refKind]) (by decide) (by decide) hn0
          (by rw [hz0, nn]; omega) (by rw [hz0, nn]; omega)
          (fun vm₁ _ i hi => by
            have hi2 : i < vs.length := by omega
            have e1 : cs.slots.getD ((0 : Int32).toNatClampNeg + i) .null = x_cv (x_ad b q base) vs[i] := by
              rw [hz1, Nat.zero_add, Array.getD_eq_getD_getElem?, a4.2.2 i _ (List.getElem?_eq_getElem hi2)]
              rfl
            have e2 : fits .int vs[i] = true := List.all_eq_true.mp hfit _ (List.getElem_mem hi2)
            rw [e1]
            cases hv : vs[i] <;> rw [hv] at e2 <;> first | exact ⟨rfl, trivial⟩ | simp [fits] at e2)
          (g := F0 m pc lsr (.int n :: .int 0 :: .ref (x_ad b q base d) :: .int 0 :: .ref (x_ad b q base sr) :: st2.map (x_cv (x_ad b q base)))) rfl (by rw [C.2.2.1]; exact hl.1) (rest := st2.map (x_cv (x_ad b q base))) rfl (by rw [C.2.1]; exact hd) hfr (by rw [hcat]; show 2 * 0 + _ + (7 + 11) ≤ _; omega)
        have hheap : ((T.setVm vm').setCell (x_ad b q base d) (copied cs cd 0 0 n)).heap = H.setIfInBounds (x_ad b q base d) (copied cs cd 0 0 n) := by rw [← hT]; rfl
        have hlt : x_ad b q base d < H.size := (Array.getElem?_eq_some_iff.mp b1).1
        have hcp : copied cs cd 0 0 n = cd.storeRun 0 (cs.stretch 0 n.toNatClampNeg) := rfl
        have hfacts := Cell.storeRun_facts cd 0 (cs.stretch 0 n.toNatClampNeg)
        have hsl : x_cel (x_ad b q base) vs (cd.storeRun 0 (cs.stretch 0 n.toNatClampNeg)) := by
          refine ⟨by rw [hfacts.2.2.1]; exact szd, by rw [hfacts.2.2.1, b4.2.1, hwv], fun i v hi => ?_⟩
          have hl := (List.getElem?_eq_some_iff.mp hi).1
          rw [Cell.storeRun_get _ _ _ _ (by rw [Cell.stretch_length]; omega), Cell.stretch_length, if_pos (by omega)]
          unfold Cell.stretch
          rw [List.getElem?_map, List.getElem?_range (by omega)]
          simp only [Nat.sub_zero, Nat.zero_add, Option.map_some]
          rw [Array.getD_eq_getD_getElem?, a4.2.2 i v hi]
          rfl
        obtain ⟨t, x1, x2⟩ := k (H.setIfInBounds (x_ad b q base d) (copied cs cd 0 0 n)) _ cells slots lsr (by rw [List.length_set]; exact h1) (by rw [x_sz_set hdd (by simp [x_size, hwv])]; exact h2)
          (hr.set hdd hd2 ⟨copied cs cd 0 0 n, by simp [Array.getElem?_setIfInBounds, hlt], ⟨by rw [hcp, hfacts.2.1]; exact bo, by rw [hcp, hfacts.1]; exact ⟨kd, hkd, dC, hdk⟩⟩, by rw [hcp, hfacts.2.1]; exact b3, by rw [hcp]; exact hsl, fun _ z => by cases z⟩ (by simp) (fun z hz => by simp [Array.getElem?_setIfInBounds, Ne.symm hz])) hl (by
            intro z hz
            rcases List.mem_append.mp hz with hz | hz
            · exact h5 z hz
            · obtain ⟨y, -, hy⟩ := List.mem_map.mp hz
              rw [← hy]
              exact x_ad_ge hd2) _ hheap X'
        exact ⟨t, step t x1, x2⟩
      · cases ho
    · cases ho
  · cases ho
theorem x_s_math (C : x_Cx p s m c R mc ms cc own L) {a idx : Nat} (hlink : Jvm.Cond.methodLink own idx (x_mnm a) ∈ x_TB) (hfr : 1 ≤ R.frames) (hlo : 30 ≤ R.locals) (hd : decode cc pc = .ok (.invokestatic idx, 3)) (ho : x_math a ls st h = some (ls2, st2, h2)) (k : x_Wn p l e R s m args below meth c Qf D b q base L mc ms n' z' (pc + 3) ls2 st2 h2) : x_Wn p l e R s m args below meth c Qf D b q base L mc ms n' z' pc ls st h := by
  have hcat : ∀ st : List Value, ((st.map (x_cv (x_ad b q base))).map fun v => v.category).sum = (st.map Value.category).sum := by
    intro st
    rw [List.map_map]
    congr 1
    exact List.map_congr_left (fun v _ => x_cv_cat _ v)
  have hG := C.2.2.2.2.1
  have hmc := C.2.2.2.2.2.1
  have hms := C.2.2.2.2.2.2
  have hini : (Jvm.Cond.initialized "java/lang/Math").before args s = true := hG.use xW_mth.1 _
  obtain ⟨-, m1, m2, m3, m4, m5, m6, m7, m8⟩ := xW_mth
  unfold x_math at ho
  split at ho
  · rename_i ha
    subst ha
    split at ho
    · split at ho
      · rename_i hs
        cases ho
        intro H locs cells slots lsr u1 u2 u3 u4 u5
        exact va_mmax C.1 C.2.1 (by rw [C.2.2.1]; exact u4.1.symm) C.2.2.2.1 (hG.use hlink _) (hG.use m1 _) hini (hG.use m2 _) hfr (by rw [hcat]; omega) (by omega) (by omega) hd (k H locs cells slots lsr u1 u2 u3 u4 u5)
      · cases ho
    · cases ho
  · split at ho
    · rename_i ha
      subst ha
      split at ho
      · split at ho
        · rename_i hs
          cases ho
          intro H locs cells slots lsr u1 u2 u3 u4 u5
          exact va_mmin C.1 C.2.1 (by rw [C.2.2.1]; exact u4.1.symm) C.2.2.2.1 (hG.use hlink _) (hG.use m3 _) hini (hG.use m4 _) hfr (by rw [hcat]; omega) (by omega) (by omega) hd (k H locs cells slots lsr u1 u2 u3 u4 u5)
        · cases ho
      · cases ho
    · split at ho
      · rename_i ha
        subst ha
        split at ho
        · split at ho
          · rename_i hs
            cases ho
            intro H locs cells slots lsr u1 u2 u3 u4 u5
            exact va_mabs C.1 C.2.1 (by rw [C.2.2.1]; exact u4.1.symm) C.2.2.2.1 (hG.use hlink _) (hG.use m5 _) hini (hG.use m6 _) hfr (by rw [hcat]; omega) (by omega) (by omega) hd (k H locs cells slots lsr u1 u2 u3 u4 u5)
          · cases ho
        · cases ho
      · split at ho
        · rename_i ha
          subst ha
          split at ho
          · split at ho
            · rename_i hs
              cases ho
              intro H locs cells slots lsr u1 u2 u3 u4 u5
              exact va_mmin_long C.1 C.2.1 (by rw [C.2.2.1]; exact u4.1.symm) C.2.2.2.1 (hG.use hlink _) (hG.use m7 _) hini (hG.use m8 _) hfr (by rw [hcat]; omega) (by omega) (by omega) hd (k H locs cells slots lsr u1 u2 u3 u4 u5)
            · cases ho
          · cases ho
        · cases ho
end XO2
end
section
/-! what our machine does, the real one does -/
def x_len (i : Instr) : Nat := match i with
  | .tableswitch _ _ _ _ => 0
  | .lookupswitch _ _ => 0
  | .bipush _ => 2
  | .sipush _ => 3
  | .ldc2_w _ => 3
  | .iload _ => 2
  | .lload _ => 2
  | .aload _ => 2
  | .istore _ => 2
  | .lstore _ => 2
  | .astore _ => 2
  | .iinc _ _ => 3
  | .goto _ => 3
  | .ifCond _ _ => 3
  | .if_icmp _ _ => 3
  | .getfield _ => 3
  | .putfield _ => 3
  | .getstatic _ => 3
  | .newarray _ => 2
  | .anewarray _ => 3
  | .new _ => 3
  | .invokevirtual _ => 3
  | .invokestatic _ => 3
  | .invokespecial _ => 3
  | _ => 1
def x_okT (pc : Nat) (off : Int) (t : Nat) : Bool := decide ((pc : Int) + off = (t : Int))
def x_okL1 (o idx a b : Nat) : Bool := xLFp.any (fun q => decide (q.1 = o) && decide (q.2.1 = idx) && decide (q.2.2.1 = a) && decide (q.2.2.2.1 = b))
def x_okCall (Pg : List xM) (LM : List (Nat × Nat × Nat)) (M : xM) (kd idx a b : Nat) : Bool := decide ((xm_o M, idx, a) ∈ LM) && (match Pg[a]? with
  | some K => decide (xm_fr K + 1 ≤ xm_fr M) && decide (8 + (xm_L K + 11) + xm_lo K ≤ xm_lo M) && decide (xm_k K = kd) && decide (b = xm_np K + (if kd = 0 then 0 else 1))
  | none => false)
def x_okI (Pg : List xM) (LM : List (Nat × Nat × Nat)) (M : xM) (pc : Nat) (i : xI) : Bool :=
  decide (decode (xm_cc M) pc = .ok (i.1, i.2.1)) && decide (x_len i.1 = 0 ∨ i.2.1 = x_len i.1) && (match i.1 with
  | .goto off => x_okT pc off i.2.2.1
  | .ifCond _ off => x_okT pc off i.2.2.1
  | .if_icmp _ off => x_okT pc off i.2.2.1
  | .tableswitch d _ _ offs => decide (0 ≤ (pc : Int) + d) && offs.toList.all (fun o => decide (0 ≤ (pc : Int) + o))
  | .lookupswitch d ps => (ps.toList.zip (ps.toList.drop 1)).all (fun (a, next) => a.1 < next.1) && decide (0 ≤ (pc : Int) + d) && ps.toList.all (fun o => decide (0 ≤ (pc : Int) + o.2))
  | .getfield idx => x_okL1 (xm_o M) idx i.2.2.1 i.2.2.2
  | .putfield idx => x_okL1 (xm_o M) idx i.2.2.1 i.2.2.2 && (match vwCl[i.2.2.1]? with
    | some r => !(r.2.1 i.2.2.2).2.2.2 || (decide ((xm_y M).name = "<init>") && decide ((r.2.1 i.2.2.2).1 = x_on (xm_o M)))
    | none => false)
  | .getstatic idx => xLSp.any (fun q => decide (q.1 = xm_o M) && decide (q.2.1 = idx))
  | .ldc2_w idx => xLJp.any (fun q => decide (q.1 = xm_o M) && decide (q.2.1 = idx) && decide (q.2.2.1 = i.2.2.1))
  | .new idx => xLCp.any (fun q => decide (q.1 = xm_o M) && decide (q.2.1 = idx) && decide (q.2.2.1 = i.2.2.1))
  | .anewarray idx => xLCp.any (fun q => decide (q.1 = xm_o M) && decide (q.2.1 = idx) && decide (q.2.2.1 = i.2.2.1)) && decide (i.2.2.1 = x_ao)
  | .newarray t => decide (t = .int) || decide (t = .long)
  | .invokevirtual idx => x_okCall Pg LM M 1 idx i.2.2.1 i.2.2.2
  | .invokestatic idx => if i.2.2.1 < 1000 then x_okCall Pg LM M 0 idx i.2.2.1 i.2.2.2 else if i.2.2.1 = 1001 then xLYp.any (fun q => decide (q.1 = xm_o M) && decide (q.2.1 = idx)) && decide (1 ≤ xm_fr M) && decide (26 ≤ xm_lo M) else xLTp.any (fun q => decide (q.1 = xm_o M) && decide (q.2.1 = idx) && decide (q.2.2.1 = i.2.2.1)) && decide (1 ≤ xm_fr M) && decide (30 ≤ xm_lo M)
  | .invokespecial idx => if i.2.2.1 < 1000 then x_okCall Pg LM M 2 idx i.2.2.1 i.2.2.2 else xLOp.any (fun q => decide (q.1 = xm_o M) && decide (q.2.1 = idx)) && decide (1 ≤ xm_fr M) && decide (20 ≤ xm_lo M)
  | _ => true)
def x_okB (Pg : List xM) (LM : List (Nat × Nat × Nat)) (M : xM) : Nat → List xI → Bool
  | _, [] => true
  | pc, i :: is => x_okI Pg LM M pc i && x_okB Pg LM M (pc + i.2.1) is
def x_MOK (K : xM) : Prop :=
  plainName (xm_y K).cls = true ∧ Jvm.Cond.code (xm_y K) (xm_cc K) (xm_L K) (xm_rt K) ∈ x_TB ∧ Jvm.Cond.initialized (xm_y K).cls ∈ x_TB ∧ ((xm_y K).cls ≠ "java/lang/invoke/MethodHandle" ∧ (xm_y K).cls ≠ "java/lang/invoke/VarHandle" ∧ (parseMethodDescriptor (xm_y K).desc).map (fun d => d.parameters.length) = some (xm_np K)) ∧ (xm_y K).cls = x_on (xm_o K) ∧
  ((xm_k K = 0 ∧ Jvm.Cond.static (xm_y K) ∈ x_TB) ∨ (xm_k K = 1 ∧ Jvm.Cond.instanceMethod (xm_y K) ∈ x_TB ∧ Jvm.Cond.selects (xm_y K).cls (xm_y K) (xm_y K) ∈ x_TB ∧ ∃ (T : u_T) (N : Nat), vwCl[xm_ci K]? = some ((xm_y K).cls, T, N)) ∨ (xm_k K = 2 ∧ (xm_y K).name = "<init>" ∧ Jvm.Cond.instanceMethod (xm_y K) ∈ x_TB ∧ xm_rt K = none))
def x_Link (o idx : Nat) (K : xM) : Prop := Jvm.Cond.methodLink (x_on o) idx (xm_y K) ∈ x_TB ∨ ∃ host, Jvm.Cond.methodLinkNest (x_on o) idx (xm_y K) host ∈ x_TB
def x_rok (ins : Instr) (rt : Option FieldType) (r : Option Value) : Prop :=
  (ins = .ireturn ∧ ∃ v, r = some (.int v) ∧ (rt = some .int ∨ rt = some .boolean ∧ v &&& 1 = v)) ∨ (ins = .lreturn ∧ rt = some .long ∧ ∃ v, r = some (.long v)) ∨ (ins = .return_ ∧ rt = none ∧ r = none)
def x_End (p : Program) (l : Launch) (e : Env) (R : Room) (s : State) (m : MethodId) (args : Array Value) (below : List Frame) (meth : Method) (c : Code) (Qf : State → Prop) (D : va_G) (b q base mc ms : Nat) (M : xM) (r : Option Value) (h' : xH) : Prop :=
  ∀ (H : Heap) (locs : List Loc) (cells slots pc : Nat) (lsr : Array Slot) (ins : Instr), cells ≤ mc → slots ≤ ms → x_Rel D b q base h' s H → (∀ z ∈ locs, base ≤ z.base) → decode (xm_cc M) pc = .ok (ins, 1) → x_rok ins (xm_rt M) r → W p l e R s m args below meth c H locs cells slots Qf (F0 m pc lsr (r.toList.map (x_cv (x_ad b q base))))
def x_Sim (Pg : List xM) (l : Launch) (D : va_G) (b q base : Nat) : xR := fun j pc ls st h r h' =>
  h.length ≤ h'.length ∧ x_sz h ≤ x_sz h' ∧ ∀ M : xM, Pg[j]? = some M → ls.length = xm_L M → ∀ (p : Program) (e : Env) (R : Room) (s : State) (m : MethodId) (args : Array Value) (below : List Frame) (meth : Method) (c : Code) (Qf : State → Prop) (mc ms : Nat), x_Cx p s m c R mc ms (xm_cc M) (x_on (xm_o M)) (xm_L M) → meth.name = (xm_y M).name → R.frames = xm_fr M → R.locals = xm_lo M → x_End p l e R s m args below meth c Qf D b q base mc ms M r h' → x_Wn p l e R s m args below meth c Qf D b q base (xm_L M) mc ms h'.length (x_sz h') pc ls st h
section XO3
variable {p : Program} {l : Launch} {e : Env} {R : Room} {s : State} {m : MethodId} {args : Array Value} {below : List Frame} {meth : Method} {c : Code} {Qf : State → Prop} {D : va_G} {b q base L mc ms n' z' : Nat} {cc : ByteArray} {own : String}
variable {pc pc' : Nat} {ls ls2 : xL} {st st2 : List Value} {h h2 : xH}
theorem x_s_ii {f : Int32 → Int32 → Int32} (row : ∀ (x y : Int32) (rest : List Value) (H : Heap) (locs : List Loc) (cells slots : Nat) (lsr : Array Slot), W p l e R s m args below meth c H locs cells slots Qf (F0 m (pc + 1) lsr (.int (f x y) :: rest)) → W p l e R s m args below meth c H locs cells slots Qf (F0 m pc lsr (.int y :: .int x :: rest))) (ho : x_ii f ls st h = some (ls2, st2, h2)) (k : x_Wn p l e R s m args below meth c Qf D b q base L mc ms n' z' (pc + 1) ls2 st2 h2) : x_Wn p l e R s m args below meth c Qf D b q base L mc ms n' z' pc ls st h := by
  unfold x_ii at ho
  split at ho
  · cases ho
    exact x_Wn_s k fun H locs cells slots lsr hr hl kk => row _ _ _ H locs cells slots lsr kk
  · cases ho
theorem x_s_iz {f : Int32 → Int32 → Int32} (row : ∀ (x y : Int32) (rest : List Value) (H : Heap) (locs : List Loc) (cells slots : Nat) (lsr : Array Slot), ¬ y = 0 → W p l e R s m args below meth c H locs cells slots Qf (F0 m (pc + 1) lsr (.int (f x y) :: rest)) → W p l e R s m args below meth c H locs cells slots Qf (F0 m pc lsr (.int y :: .int x :: rest))) (ho : x_iz f ls st h = some (ls2, st2, h2)) (k : x_Wn p l e R s m args below meth c Qf D b q base L mc ms n' z' (pc + 1) ls2 st2 h2) : x_Wn p l e R s m args below meth c Qf D b q base L mc ms n' z' pc ls st h := by
  unfold x_iz at ho
  split at ho
  · split at ho
    · cases ho
    · rename_i hy
      cases ho
      exact x_Wn_s k fun H locs cells slots lsr hr hl kk => row _ _ _ H locs cells slots lsr hy kk
  · cases ho
theorem x_s_ll {f : Int64 → Int64 → Int64} (row : ∀ (x y : Int64) (rest : List Value) (H : Heap) (locs : List Loc) (cells slots : Nat) (lsr : Array Slot), W p l e R s m args below meth c H locs cells slots Qf (F0 m (pc + 1) lsr (.long (f x y) :: rest)) → W p l e R s m args below meth c H locs cells slots Qf (F0 m pc lsr (.long y :: .long x :: rest))) (ho : x_ll f ls st h = some (ls2, st2, h2)) (k : x_Wn p l e R s m args below meth c Qf D b q base L mc ms n' z' (pc + 1) ls2 st2 h2) : x_Wn p l e R s m args below meth c Qf D b q base L mc ms n' z' pc ls st h := by
  unfold x_ll at ho
  split at ho
  · cases ho
    exact x_Wn_s k fun H locs cells slots lsr hr hl kk => row _ _ _ H locs cells slots lsr kk
  · cases ho
theorem x_s_li {f : Int64 → Int32 → Int64} (row : ∀ (x : Int64) (y : Int32) (rest : List Value) (H : Heap) (locs : List Loc) (cells slots : Nat) (lsr : Array Slot), W p l e R s m args below meth c H locs cells slots Qf (F0 m (pc + 1) lsr (.long (f x y) :: rest)) → W p l e R s m args below meth c H locs cells slots Qf (F0 m pc lsr (.int y :: .long x :: rest))) (ho : x_li f ls st h = some (ls2, st2, h2)) (k : x_Wn p l e R s m args below meth c Qf D b q base L mc ms n' z' (pc + 1) ls2 st2 h2) : x_Wn p l e R s m args below meth c Qf D b q base L mc ms n' z' pc ls st h := by
  unfold x_li at ho
  split at ho
  · cases ho
    exact x_Wn_s k fun H locs cells slots lsr hr hl kk => row _ _ _ H locs cells slots lsr kk
  · cases ho
theorem x_okL1_in {o idx a b : Nat} (h : x_okL1 o idx a b = true) : ∃ r : vw_C, vwCl[a]? = some r ∧ b < r.2.2 ∧ Jvm.Cond.fieldLink (x_on o) idx (r.2.1 b).1 (r.2.1 b).2.1 (r.2.1 b).2.2.1 ∈ x_TB := by
  unfold x_okL1 at h
  obtain ⟨z, hz, h⟩ := List.any_eq_true.mp h
  simp only [Bool.and_eq_true, decide_eq_true_eq] at h
  obtain ⟨⟨⟨rfl, rfl⟩, rfl⟩, rfl⟩ := h
  have h2 := List.all_eq_true.mp xLF_ok z hz
  unfold x_okF at h2
  split at h2
  · rename_i r hr
    simp only [Bool.and_eq_true, decide_eq_true_eq] at h2
    exact ⟨r, hr, h2.1, x_has_in h2.2⟩
  · cases h2
theorem x_okC1_in {o idx a : Nat} (h : xLCp.any (fun q => decide (q.1 = o) && decide (q.2.1 = idx) && decide (q.2.2.1 = a)) = true) : ∃ r : vw_C, vwCl[a]? = some r ∧ Jvm.Cond.classLink (x_on o) idx r.1 ∈ x_TB := by
  obtain ⟨z, hz, h⟩ := List.any_eq_true.mp h
  simp only [Bool.and_eq_true, decide_eq_true_eq] at h
  obtain ⟨⟨rfl, rfl⟩, rfl⟩ := h
  have h2 := List.all_eq_true.mp xLC_ok z hz
  unfold x_okC at h2
  split at h2
  · rename_i r hr
    exact ⟨r, hr, x_has_in h2⟩
  · cases h2
end XO3
end
section
section XO4
variable {p : Program} {l : Launch} {e : Env} {R : Room} {s : State} {m : MethodId} {args : Array Value} {below : List Frame} {meth : Method} {c : Code} {Qf : State → Prop} {D : va_G} {b q base mc ms n' z' : Nat}
variable {Pg : List xM} {LM : List (Nat × Nat × Nat)} {M : xM} {pc : Nat} {ls ls2 : xL} {st st2 : List Value} {h h2 : xH}
set_option maxHeartbeats 4000000 in
theorem x_op_sim {ins : Instr} {n a b0 : Nat} (C : x_Cx p s m c R mc ms (xm_cc M) (x_on (xm_o M)) (xm_L M)) (hmn : meth.name = (xm_y M).name) (hfr : R.frames = xm_fr M) (hlo : R.locals = xm_lo M) (hok : x_okI Pg LM M pc (ins, n, a, b0) = true) (hL : ls.length = xm_L M) (hnc : x_ctl (ins, n, a, b0) = false) (ho : x_op x_nm x_tf x_fn (ins, n, a, b0) ls st h = some (ls2, st2, h2)) (hn' : h2.length ≤ n') (hz' : x_sz h2 ≤ z') (k : x_Wn p l e R s m args below meth c Qf D b q base (xm_L M) mc ms n' z' (pc + n) ls2 st2 h2) : x_Wn p l e R s m args below meth c Qf D b q base (xm_L M) mc ms n' z' pc ls st h := by
  unfold x_okI at hok
  simp only [Bool.and_eq_true, decide_eq_true_eq] at hok
  obtain ⟨⟨hd, hn⟩, hx⟩ := hok
  unfold x_op at ho
  dsimp only at ho hx
  split at ho
  · obtain rfl := hn.resolve_left (by simp [x_len])
    cases ho
    exact x_Wn_s k fun H locs cells slots lsr hr hl kk => lv_iconst C.1 C.2.1 hd rfl kk
  · obtain rfl := hn.resolve_left (by simp [x_len])
    cases ho
    exact x_Wn_s k fun H locs cells slots lsr hr hl kk => lv_bipush C.1 C.2.1 hd rfl kk
  · obtain rfl := hn.resolve_left (by simp [x_len])
    cases ho
    exact x_Wn_s k fun H locs cells slots lsr hr hl kk => lv_sipush C.1 C.2.1 hd rfl kk
  · obtain rfl := hn.resolve_left (by simp [x_len])
    cases ho
    exact x_Wn_s k fun H locs cells slots lsr hr hl kk => lv_lconst C.1 C.2.1 hd rfl kk
  · obtain rfl := hn.resolve_left (by simp [x_len])
    cases ho
    obtain ⟨z, hz, hx⟩ := List.any_eq_true.mp hx
    simp only [Bool.and_eq_true, decide_eq_true_eq] at hx
    obtain ⟨⟨hx1, rfl⟩, rfl⟩ := hx
    have h2 := x_has_in (List.all_eq_true.mp xLJ_ok z hz)
    rw [hx1] at h2
    exact x_Wn_s k fun H locs cells slots lsr hr hl kk => lv_ldc2 C.1 C.2.1 C.2.2.2.1 (C.2.2.2.2.1.use h2 _) hd kk
  · obtain rfl := hn.resolve_left (by simp [x_len])
    exact x_s_iload C hd (Or.inl ⟨_, rfl, rfl, rfl⟩) ho k
  · obtain rfl := hn.resolve_left (by simp [x_len])
    exact x_s_iload C hd (Or.inr ⟨rfl, rfl⟩) ho k
  · obtain rfl := hn.resolve_left (by simp [x_len])
    exact x_s_lload C hd (Or.inl ⟨_, rfl, rfl, rfl⟩) ho k
  · obtain rfl := hn.resolve_left (by simp [x_len])
    exact x_s_lload C hd (Or.inr ⟨rfl, rfl⟩) ho k
  · obtain rfl := hn.resolve_left (by simp [x_len])
    exact x_s_aload C hd (Or.inl ⟨_, rfl, rfl, rfl⟩) ho k
  · obtain rfl := hn.resolve_left (by simp [x_len])
    exact x_s_aload C hd (Or.inr ⟨rfl, rfl⟩) ho k
  · obtain rfl := hn.resolve_left (by simp [x_len])
    exact x_s_istore C hL hd (Or.inl ⟨_, rfl, rfl, rfl⟩) ho k
  · obtain rfl := hn.resolve_left (by simp [x_len])
    exact x_s_istore C hL hd (Or.inr ⟨rfl, rfl⟩) ho k
  · obtain rfl := hn.resolve_left (by simp [x_len])
    exact x_s_lstore C hL hd (Or.inl ⟨_, rfl, rfl, rfl⟩) ho k
  · obtain rfl := hn.resolve_left (by simp [x_len])
    exact x_s_lstore C hL hd (Or.inr ⟨rfl, rfl⟩) ho k
  · obtain rfl := hn.resolve_left (by simp [x_len])
    exact x_s_astore C hL hd (Or.inl ⟨_, rfl, rfl, rfl⟩) ho k
  · obtain rfl := hn.resolve_left (by simp [x_len])
    exact x_s_astore C hL hd (Or.inr ⟨rfl, rfl⟩) ho k
  · obtain rfl := hn.resolve_left (by simp [x_len])
    exact x_s_iinc C hL hd ho k
  · obtain rfl := hn.resolve_left (by simp [x_len])
    exact x_s_ii (fun x y rest H locs cells slots lsr kk => lv_iadd C.1 C.2.1 hd kk) ho k
  · obtain rfl := hn.resolve_left (by simp [x_len])
    exact x_s_ii (fun x y rest H locs cells slots lsr kk => lv_isub C.1 C.2.1 hd kk) ho k
  · obtain rfl := hn.resolve_left (by simp [x_len])
    exact x_s_ii (fun x y rest H locs cells slots lsr kk => lv_imul C.1 C.2.1 hd kk) ho k
  · obtain rfl := hn.resolve_left (by simp [x_len])
    exact x_s_ii (fun x y rest H locs cells slots lsr kk => lv_iand C.1 C.2.1 hd kk) ho k
  · obtain rfl := hn.resolve_left (by simp [x_len])
    exact x_s_ii (fun x y rest H locs cells slots lsr kk => lv_ior C.1 C.2.1 hd kk) ho k
  · obtain rfl := hn.resolve_left (by simp [x_len])
    exact x_s_ii (fun x y rest H locs cells slots lsr kk => lv_ishl C.1 C.2.1 hd kk) ho k
  · obtain rfl := hn.resolve_left (by simp [x_len])
    exact x_s_ii (fun x y rest H locs cells slots lsr kk => lv_ishr C.1 C.2.1 hd kk) ho k
  · obtain rfl := hn.resolve_left (by simp [x_len])
    exact x_s_iz (fun x y rest H locs cells slots lsr hy kk => lv_idiv C.1 C.2.1 hd hy kk) ho k
  · obtain rfl := hn.resolve_left (by simp [x_len])
    exact x_s_iz (fun x y rest H locs cells slots lsr hy kk => lv_irem C.1 C.2.1 hd hy kk) ho k
  · obtain rfl := hn.resolve_left (by simp [x_len])
    exact x_s_ll (fun x y rest H locs cells slots lsr kk => lv_ladd C.1 C.2.1 hd kk) ho k
  · obtain rfl := hn.resolve_left (by simp [x_len])
    exact x_s_ll (fun x y rest H locs cells slots lsr kk => lv_lmul C.1 C.2.1 hd kk) ho k
  · obtain rfl := hn.resolve_left (by simp [x_len])
    exact x_s_ll (fun x y rest H locs cells slots lsr kk => lv_land C.1 C.2.1 hd kk) ho k
  · obtain rfl := hn.resolve_left (by simp [x_len])
    exact x_s_li (fun x y rest H locs cells slots lsr kk => lv_lshl C.1 C.2.1 hd rfl kk) ho k
  · obtain rfl := hn.resolve_left (by simp [x_len])
    exact x_s_li (fun x y rest H locs cells slots lsr kk => lv_lshr C.1 C.2.1 hd rfl kk) ho k
  · obtain rfl := hn.resolve_left (by simp [x_len])
    split at ho
    · cases ho
      exact x_Wn_s k fun H locs cells slots lsr hr hl kk => lv_i2l C.1 C.2.1 hd rfl kk
    · cases ho
  · obtain rfl := hn.resolve_left (by simp [x_len])
    split at ho
    · cases ho
      exact x_Wn_s k fun H locs cells slots lsr hr hl kk => lv_l2i C.1 C.2.1 hd rfl kk
    · cases ho
  · obtain rfl := hn.resolve_left (by simp [x_len])
    split at ho
    · cases ho
      exact x_Wn_s k fun H locs cells slots lsr hr hl kk => W.lcmp C.1 C.2.1 hd kk
    · cases ho
  · obtain rfl := hn.resolve_left (by simp [x_len])
    split at ho
    · split at ho
      · rename_i hv
        cases ho
        exact x_Wn_s k fun H locs cells slots lsr hr hl kk => lv_dup C.1 C.2.1 hd ((x_cv_cat _ _).trans hv) kk
      · cases ho
    · cases ho
  · obtain rfl := hn.resolve_left (by simp [x_len])
    split at ho
    · split at ho
      · rename_i hv
        cases ho
        exact x_Wn_s k fun H locs cells slots lsr hr hl kk => lv_dup2_11 C.1 C.2.1 hd ((x_cv_cat _ _).trans hv.1) ((x_cv_cat _ _).trans hv.2) kk
      · cases ho
    · cases ho
  · obtain rfl := hn.resolve_left (by simp [x_len])
    split at ho
    · split at ho
      · rename_i hv
        cases ho
        exact x_Wn_s k fun H locs cells slots lsr hr hl kk => lv_pop C.1 C.2.1 hd ((x_cv_cat _ _).trans hv) kk
      · cases ho
    · cases ho
  · obtain rfl := hn.resolve_left (by simp [x_len])
    obtain ⟨r, h1, h2, h3⟩ := x_okL1_in hx
    exact x_s_getf C h1 h2 h3 (x_clF h1).2.2.1 hd ho k
  · obtain rfl := hn.resolve_left (by simp [x_len])
    simp only [Bool.and_eq_true] at hx
    obtain ⟨r, h1, h2, h3⟩ := x_okL1_in hx.1
    have h4 := hx.2
    rw [h1] at h4
    simp only [Bool.or_eq_true, Bool.and_eq_true, decide_eq_true_eq, Bool.not_eq_true'] at h4
    exact x_s_putf C h1 h2 h3 (h4.imp id (fun z => ⟨hmn.trans z.1, z.2⟩)) hd ho k
  · obtain rfl := hn.resolve_left (by simp [x_len])
    cases ho
    obtain ⟨z, hz, hx⟩ := List.any_eq_true.mp hx
    simp only [Bool.and_eq_true, decide_eq_true_eq] at hx
    obtain ⟨hx1, rfl⟩ := hx
    have h2 := x_has_in (List.all_eq_true.mp xLS_ok z hz)
    rw [hx1] at h2
    refine x_Wn_s k fun H locs cells slots lsr hr hl kk => ?_
    obtain ⟨cf, kf, fi, f, a, cell, h1, h2', h3, h4, h5, h6, h7, h8⟩ := hr.2.2.2.2.2.1
    exact W.gets C.1 C.2.1 C.2.2.2.1 (C.2.2.2.2.1.use h2 _) h1 h2' h3 h4 h5 (fun e => by rw [e] at h6; cases h6) h7 rfl hd kk
  · obtain rfl := hn.resolve_left (by simp [x_len])
    exact x_s_ald C (Or.inl ⟨rfl, hd⟩) ho k
  · obtain rfl := hn.resolve_left (by simp [x_len])
    exact x_s_ald C (Or.inr ⟨rfl, hd⟩) ho k
  · obtain rfl := hn.resolve_left (by simp [x_len])
    exact x_s_aald C hd ho k
  · obtain rfl := hn.resolve_left (by simp [x_len])
    exact x_s_iast C hd ho k
  · obtain rfl := hn.resolve_left (by simp [x_len])
    exact x_s_last C hd ho k
  · obtain rfl := hn.resolve_left (by simp [x_len])
    exact x_s_aast C hd ho k
  · obtain rfl := hn.resolve_left (by simp [x_len])
    exact x_s_alen C hd ho k
  · obtain rfl := hn.resolve_left (by simp [x_len])
    rename_i t
    simp only [Bool.or_eq_true, decide_eq_true_eq] at hx
    exact x_s_newa C (by rcases hx with rfl | rfl; exact xW_arr.1; exact xW_arr.2.1) hx hn' hz' hd ho k
  · obtain rfl := hn.resolve_left (by simp [x_len])
    simp only [Bool.and_eq_true, decide_eq_true_eq] at hx
    obtain ⟨hx, rfl⟩ := hx
    obtain ⟨r, h1, h2⟩ := x_okC1_in hx
    rw [← x_nm_of h1] at h2
    exact x_s_anew C h2 xW_arr.2.2 hn' hz' hd ho k
  · obtain rfl := hn.resolve_left (by simp [x_len])
    obtain ⟨r, h1, h2⟩ := x_okC1_in hx
    cases ho
    have hsz := x_sz_push h (.inr (a, (List.range (x_fn a)).map (fun k => defaultValue (x_tf a k))))
    have hsz1 : x_size (.inr (a, (List.range (x_fn a)).map (fun k => defaultValue (x_tf a k)))) = x_fn a := by simp [x_size]
    exact x_s_new C h1 h2 (by simpa using hn') (by rw [hsz, hsz1] at hz'; exact hz') hd k
  · obtain rfl := hn.resolve_left (by simp [x_len])
    have ha : ¬ a < 1000 := by simpa [x_ctl] using hnc
    dsimp only at hx
    rw [if_neg ha] at hx
    split at ho
    · rename_i ha1
      rw [if_pos ha1] at hx
      simp only [Bool.and_eq_true, decide_eq_true_eq] at hx
      obtain ⟨⟨hx, h1⟩, h2⟩ := hx
      obtain ⟨z, hz, hx⟩ := List.any_eq_true.mp hx
      simp only [Bool.and_eq_true, decide_eq_true_eq] at hx
      obtain ⟨hx1, rfl⟩ := hx
      have h3 := x_has_in (List.all_eq_true.mp xLY_ok z hz)
      rw [hx1] at h3
      exact x_s_copy C h3 (hfr ▸ h1) (hlo ▸ h2) hd ho k
    · rename_i ha1
      rw [if_neg ha1] at hx
      simp only [Bool.and_eq_true, decide_eq_true_eq] at hx
      obtain ⟨⟨hx, h1⟩, h2⟩ := hx
      obtain ⟨z, hz, hx⟩ := List.any_eq_true.mp hx
      simp only [Bool.and_eq_true, decide_eq_true_eq] at hx
      obtain ⟨⟨hx1, rfl⟩, hx2⟩ := hx
      have h3 := x_has_in (List.all_eq_true.mp xLT_ok z hz)
      rw [hx1, hx2] at h3
      exact x_s_math C h3 (hfr ▸ h1) (hlo ▸ h2) hd ho k
  · obtain rfl := hn.resolve_left (by simp [x_len])
    have ha : ¬ a < 1000 := by simpa [x_ctl] using hnc
    dsimp only at hx
    rw [if_neg ha] at hx
    simp only [Bool.and_eq_true, decide_eq_true_eq] at hx
    obtain ⟨⟨hx, h1⟩, h2⟩ := hx
    obtain ⟨z, hz, hx⟩ := List.any_eq_true.mp hx
    simp only [Bool.and_eq_true, decide_eq_true_eq] at hx
    obtain ⟨hx1, rfl⟩ := hx
    have h3 := x_has_in (List.all_eq_true.mp xLO_ok z hz)
    rw [hx1] at h3
    exact x_s_obj C h3 (hfr ▸ h1) (hlo ▸ h2) hd ho k
  · cases ho
end XO4
/-! what an instruction keeps -/
theorem x_copy_len {ls ls2 : xL} {st st2 : List Value} {h h2 : xH} (ho : x_copy ls st h = some (ls2, st2, h2)) : ls2.length = ls.length ∧ h.length ≤ h2.length ∧ x_sz h ≤ x_sz h2 := by
  unfold x_copy at ho
  split at ho
  · split at ho
    · rename_i hs hh
      split at ho
      · rename_i hc
        cases ho
        exact ⟨rfl, by simp, Nat.le_of_eq (x_sz_set hh (by simp [x_size, hc.2.2.2.2.2.2.2.1])).symm⟩
      · cases ho
    · cases ho
  · cases ho
theorem x_math_len {a : Nat} {ls ls2 : xL} {st st2 : List Value} {h h2 : xH} (ho : x_math a ls st h = some (ls2, st2, h2)) : ls2.length = ls.length ∧ h.length ≤ h2.length ∧ x_sz h ≤ x_sz h2 := by
  have same : ls.length = ls.length ∧ h.length ≤ h.length ∧ x_sz h ≤ x_sz h := ⟨rfl, Nat.le_refl _, Nat.le_refl _⟩
  unfold x_math at ho
  (repeat' (split at ho)) <;> first | (cases ho; done) | (cases ho; exact same)
theorem x_op_len {i : xI} {ls ls2 : xL} {st st2 : List Value} {h h2 : xH} (ho : x_op x_nm x_tf x_fn i ls st h = some (ls2, st2, h2)) : ls2.length = ls.length ∧ h.length ≤ h2.length ∧ x_sz h ≤ x_sz h2 := by
  have same : ls.length = ls.length ∧ h.length ≤ h.length ∧ x_sz h ≤ x_sz h := ⟨rfl, Nat.le_refl _, Nat.le_refl _⟩
  unfold x_op at ho
  split at ho <;> first
    | (cases ho; done)
    | (cases ho; exact same)
    | (split at ho <;> first | exact x_copy_len ho | exact x_math_len ho)
    | (unfold x_ldi at ho; (repeat' (split at ho)) <;> first | (cases ho; done) | (cases ho; exact same))
    | (unfold x_ldl at ho; (repeat' (split at ho)) <;> first | (cases ho; done) | (cases ho; exact same))
    | (unfold x_lda at ho; (repeat' (split at ho)) <;> first | (cases ho; done) | (cases ho; exact same))
    | (unfold x_sti at ho; (repeat' (split at ho)) <;> first | (cases ho; done) | (cases ho; exact ⟨x_put_len _ _ _, same.2⟩))
    | (unfold x_sta at ho; (repeat' (split at ho)) <;> first | (cases ho; done) | (cases ho; exact ⟨x_put_len _ _ _, same.2⟩))
    | (unfold x_stl at ho; (repeat' (split at ho)) <;> first | (cases ho; done) | (cases ho; exact ⟨by rw [x_put2, List.length_set, x_put_len], same.2⟩))
    | (unfold x_inc at ho; (repeat' (split at ho)) <;> first | (cases ho; done) | (cases ho; exact ⟨x_put_len _ _ _, same.2⟩))
    | (unfold x_ii at ho; (repeat' (split at ho)) <;> first | (cases ho; done) | (cases ho; exact same))
    | (unfold x_iz at ho; (repeat' (split at ho)) <;> first | (cases ho; done) | (cases ho; exact same))
    | (unfold x_ll at ho; (repeat' (split at ho)) <;> first | (cases ho; done) | (cases ho; exact same))
    | (unfold x_li at ho; (repeat' (split at ho)) <;> first | (cases ho; done) | (cases ho; exact same))
    | (unfold x_getf at ho; (repeat' (split at ho)) <;> first | (cases ho; done) | (cases ho; exact same))
    | (unfold x_ald at ho; (repeat' (split at ho)) <;> first | (cases ho; done) | (cases ho; exact same))
    | (unfold x_aald at ho; (repeat' (split at ho)) <;> first | (cases ho; done) | (cases ho; exact same))
    | (unfold x_alen at ho; (repeat' (split at ho)) <;> first | (cases ho; done) | (cases ho; exact same))
    | (unfold x_obj at ho; (repeat' (split at ho)) <;> first | (cases ho; done) | (cases ho; exact same))
    | (unfold x_putf at ho; (repeat' (split at ho)) <;> first | (cases ho; done) | (cases ho; exact ⟨rfl, by simp, Nat.le_of_eq (x_sz_set (by assumption) (by simp [x_size])).symm⟩))
    | (unfold x_iast at ho; (repeat' (split at ho)) <;> first | (cases ho; done) | (cases ho; exact ⟨rfl, by simp, Nat.le_of_eq (x_sz_set (by assumption) (by simp [x_size])).symm⟩))
    | (unfold x_last at ho; (repeat' (split at ho)) <;> first | (cases ho; done) | (cases ho; exact ⟨rfl, by simp, Nat.le_of_eq (x_sz_set (by assumption) (by simp [x_size])).symm⟩))
    | (unfold x_aast at ho; (repeat' (split at ho)) <;> first | (cases ho; done) | (cases ho; exact ⟨rfl, by simp, Nat.le_of_eq (x_sz_set (by assumption) (by simp [x_size])).symm⟩))
    | (unfold x_newa at ho; (repeat' (split at ho)) <;> first | (cases ho; done) | (cases ho; exact ⟨rfl, by simp, by rw [x_sz_push]; omega⟩))
    | ((repeat' (split at ho)) <;> first | (cases ho; done) | (cases ho; exact same))
    | (cases ho; exact ⟨rfl, by simp, by rw [x_sz_push]; omega⟩)
end
section
section XO5
variable {Pg : List xM} {LM : List (Nat × Nat × Nat)} {l : Launch} {D : va_G} {b q base : Nat}
abbrev x_Pc (D : va_G) (b q base : Nat) (vs : List Value) (h : xH) : Array Value → State → Prop := fun a U => a = (vs.map (x_cv (x_ad b q base))).toArray ∧ x_GW U ∧ x_Rel D b q base h U U.heap
abbrev x_Qc (D : va_G) (b q base : Nat) (r : Option Value) (h' : xH) : Array Value → State → Outcome → State → Prop := fun _ _ o t => o = .returned (r.map (x_cv (x_ad b q base))) ∧ x_Rel D b q base h' t t.heap
theorem x_blind {vs : List Value} {h : xH} : FrameBlind (x_Pc D b q base vs h) := fun a U g mk hq => ⟨hq.1, hq.2.1.warm (U := U.calling g mk a) (State.WarmedH.refl U), hq.2.2.moved (U := U.calling g mk a) (Vm.Alike.refl U.vm)⟩
/-- a run of our method is a contract of the real one -/
theorem x_met {j : Nat} {K : xM} {vs : List Value} {h h' : xH} {r : Option Value} (hP : Pg[j]? = some K) (hK : x_MOK K) (hargs : (x_args vs).length ≤ xm_L K) (hs : x_Sim Pg l D b q base j 0 (x_entry (xm_L K) vs) [] h r h') :
    Met l (xm_y K) [Jvm.Cond.code (xm_y K) (xm_cc K) (xm_L K) (xm_rt K)] { frames := xm_fr K, cells := h'.length - h.length, slots := x_sz h' - x_sz h, locals := xm_lo K } (x_Pc D b q base vs h) (x_Qc D b q base r h') (h'.length - h.length) (x_sz h' - x_sz h) (fun a => base ≤ a) := by
  refine Met.ofW (cc := xm_cc K) (maxL := xm_L K) (ret := xm_rt K) hK.1 rfl ?_
  intro p e s m args below meth c s₁ B hml hv
  obtain ⟨rfl, hG, hR⟩ := hv
  have hx := B.exec
  have hb := B.bytes
  have hr := B.returns
  have hown : s.vm.findClass (xm_y K).cls = some m.cls := findClass_of_methodNamed B.named
  have hlocks := B.notSynchronized
  have hin : meth.name = (xm_y K).name := (name_of_methodNamed B.named B.method).1
  rw [lg_entry_eq]
  rw [hK.2.2.2.2.1] at hown
  refine hs.2.2 K hP (x_entry_len hargs) p e _ s m _ below meth c _ (h'.length - h.length) (x_sz h' - x_sz h) ⟨hx, hb, hml, hown, hG, Nat.le_refl _, Nat.le_refl _⟩ hin rfl rfl ?_ s.heap [] 0 0 _ (by omega) (by omega) hR (x_lv_entry hargs) (fun z hz => by cases hz)
  intro H locs cells slots pc lsr ins h1 h2 hR2 hlocs hd hrok
  refine W.widen h1 h2 ?_
  rcases hrok with ⟨rfl, v, rfl, hrt | ⟨hrt, hv1⟩⟩ | ⟨rfl, hrt, v, rfl⟩ | ⟨rfl, hrt, rfl⟩
  · exact W.iret (v := v) hx hb (by rw [hr]; exact hrt) (fun t ht hW => ⟨rfl, by rw [ht]; exact hR2.moved hW.alike⟩) hlocs hd hlocks
  · exact W.zret (v := v) (ty := .boolean) hx hb (by rw [hr]; exact hrt) (by show Value.int (v &&& 1) = _; rw [hv1]) (fun t ht hW => ⟨rfl, by rw [ht]; exact hR2.moved hW.alike⟩) hlocs hd hlocks
  · exact W.lret (v := v) hx hb (by rw [hr]; exact hrt) (fun t ht hW => ⟨rfl, by rw [ht]; exact hR2.moved hW.alike⟩) hlocs hd hlocks
  · exact W.vret hx hb (by rw [hr]; exact hrt) (fun t ht hW => ⟨rfl, by rw [ht]; exact hR2.moved hW.alike⟩) hlocs hd hlocks
variable {p : Program} {e : Env} {R : Room} {s : State} {m : MethodId} {args : Array Value} {below : List Frame} {meth : Method} {c : Code} {Qf : State → Prop} {mc ms n' z' : Nat}
variable {M K : xM} {pc : Nat} {ls : xL} {st rest vs : List Value} {h h1 : xH} {r : Option Value}
theorem x_catsum (ad : Nat → Nat) (st : List Value) : ((st.map (x_cv ad)).map fun v => v.category).sum = (st.map Value.category).sum := by
  rw [List.map_map]
  congr 1
  exact List.map_congr_left (fun v _ => x_cv_cat _ v)
/-- behind a call -/
theorem x_after {cells slots : Nat} {H : Heap} {locs : List Loc} {lsr : Array Slot} {st0 : List Value} {aa : Array Value} (hrun : va_Run p l e R s m args below meth c H locs cells slots (h1.length - h.length) (x_sz h1 - x_sz h) (F0 m pc lsr st0) (rest.map (x_cv (x_ad b q base))) (x_Qc D b q base r h1 aa) (fun a => base ≤ a))
    (hc : cells + (n' - h.length) ≤ mc) (hsl : slots + (z' - x_sz h) ≤ ms) (hl1 : h.length ≤ h1.length) (hl2 : h1.length ≤ n') (hz1 : x_sz h ≤ x_sz h1) (hz2 : x_sz h1 ≤ z') (hlv : x_lv (x_ad b q base) (xm_L M) ls lsr) (hlocs : ∀ z ∈ locs, base ≤ z.base)
    (k : x_Wn p l e R s m args below meth c Qf D b q base (xm_L M) mc ms n' z' (pc + 3) ls (r.toList ++ rest) h1) : W p l e R s m args below meth c H locs cells slots Qf (F0 m pc lsr st0) := by
  intro T hT X
  obtain ⟨v, st₀, t, T', L', h0, X', hL, e1, e2, ⟨hv, hR⟩, stp⟩ := hrun T hT X
  cases hv
  have hR' : x_Rel D b q base h1 s T'.heap := by
    rw [e1]
    exact hR.moved (by rw [← e2]; exact X'.warmed.alike.symm)
  obtain ⟨t2, a1, b1⟩ := k T'.heap (locs ++ L') (cells + (h1.length - h.length)) (slots + (x_sz h1 - x_sz h)) lsr (by omega) (by omega) hR' hlv (fun z hz => (List.mem_append.mp hz).elim (hlocs z) (hL z)) T' rfl X'
  refine ⟨t2, stp t2 ?_, b1⟩
  have e3 : (r.map (x_cv (x_ad b q base))).toList ++ rest.map (x_cv (x_ad b q base)) = (r.toList ++ rest).map (x_cv (x_ad b q base)) := by
    cases r <;> rfl
  show Steps p.tables e below (T'.setTop (F0 m (pc + 3) lsr ((r.map (x_cv (x_ad b q base))).toList ++ rest.map (x_cv (x_ad b q base))))) t2
  rw [e3]
  exact a1
theorem x_recv_v (hk : xm_k K = 1) (H : x_recv K vs h) : ∃ (o : Nat) (As fs : List Value), vs = .ref o :: As ∧ h[o]? = some (.inr (xm_ci K, fs)) := by
  unfold x_recv at H
  split at H
  · rename_i z
    rw [hk] at z
    cases z
  · split at H
    · rename_i o As
      split at H
      · rename_i ci fs hh
        subst H
        exact ⟨o, As, fs, rfl, hh⟩
      · cases H
    · cases H
  · rename_i z1 z2
    exact absurd hk z2
theorem x_recv_i (hk : xm_k K = 2) (H : x_recv K vs h) : ∃ (o : Nat) (As : List Value), vs = .ref o :: As := by
  unfold x_recv at H
  split at H
  · rename_i z
    rw [hk] at z
    cases z
  · rename_i z
    rw [hk] at z
    cases z
  · split at H
    · rename_i o As
      exact ⟨o, As, rfl⟩
    · cases H
theorem x_call_sim {a idx : Nat} {ins : Instr} (C : x_Cx p s m c R mc ms (xm_cc M) (x_on (xm_o M)) (xm_L M)) (hfr : R.frames = xm_fr M) (hlo : R.locals = xm_lo M) (hPg : Pg[a]? = some K) (hK : x_MOK K) (hlink : x_Link (xm_o M) idx K) (hroom : xm_fr K + 1 ≤ xm_fr M ∧ 8 + (xm_L K + 11) + xm_lo K ≤ xm_lo M)
    (hkind : (ins = .invokevirtual idx ∧ xm_k K = 1) ∨ (ins = .invokestatic idx ∧ xm_k K = 0) ∨ (ins = .invokespecial idx ∧ xm_k K = 2)) (hn : vs.length = xm_np K + (if xm_k K = 0 then 0 else 1)) (hd : decode (xm_cc M) pc = .ok (ins, 3)) (hst : st = vs.reverse ++ rest) (h8 : (rest.map Value.category).sum ≤ 8)
    (hrecv : x_recv K vs h) (hargs : (x_args vs).length ≤ xm_L K) (hs : x_Sim Pg l D b q base a 0 (x_entry (xm_L K) vs) [] h r h1) (hl2 : h1.length ≤ n') (hz2 : x_sz h1 ≤ z')
    (k : x_Wn p l e R s m args below meth c Qf D b q base (xm_L M) mc ms n' z' (pc + 3) ls (r.toList ++ rest) h1) : x_Wn p l e R s m args below meth c Qf D b q base (xm_L M) mc ms n' z' pc ls st h := by
  intro H locs cells slots lsr hc hsl hr hlv hlocs
  have hM := x_met hPg hK hargs hs
  have hl1 := hs.1
  have hz1 := hs.2.1
  have hG := C.2.2.2.2.1
  have hmc := C.2.2.2.2.2.1
  have hms := C.2.2.2.2.2.2
  obtain ⟨hpl, hcode, hini, ⟨hy1, hy2, hnp⟩, hyo, hkd⟩ := hK
  have hnp' : ∀ sig, parseMethodDescriptor (xm_y K).desc = some sig → xm_np K = sig.parameters.length := fun sig hsig => by
    rw [hsig] at hnp
    exact (Option.some.inj hnp).symm
  have hws : ∀ w ∈ [Jvm.Cond.code (xm_y K) (xm_cc K) (xm_L K) (xm_rt K)], ∀ (a' : Array Value) (U : State), s.WarmedH U.vm → w.before a' U = true := fun w hw a' U hW => by
    rw [List.mem_singleton.mp hw]
    exact hG.at hW hcode a'
  have S : CallFix p m c (xm_cc M) (xm_L M) s args x_TB (x_on (xm_o M)) := ⟨C.1, C.2.1, C.2.2.1, C.2.2.2.1, fun w hw => hG.use hw args⟩
  have hpre : ∀ U : State, U.heap = H → s.WarmedH U.vm → x_Pc D b q base vs h (vs.map (x_cv (x_ad b q base))).toArray U := fun U hU hW => ⟨rfl, hG.warm hW, by rw [hU]; exact hr.moved hW.alike⟩
  have hf : cells + (h1.length - h.length) ≤ R.cells ∧ slots + (x_sz h1 - x_sz h) ≤ R.slots := ⟨by omega, by omega⟩
  have hW8 : 2 * (F0 m pc lsr (st.map (x_cv (x_ad b q base)))).monitorRoom + ((rest.map (x_cv (x_ad b q base))).map fun v => v.category).sum ≤ 8 := by
    rw [x_catsum]
    show 2 * 0 + _ ≤ 8
    omega
  have hR1 : xm_fr K + 1 ≤ R.frames := by rw [hfr]; exact hroom.1
  have hR2 : 8 + (xm_L K + 11) + xm_lo K ≤ R.locals := by rw [hlo]; exact hroom.2
  rcases hkind with ⟨rfl, hk1⟩ | ⟨rfl, hk0⟩ | ⟨rfl, hk2⟩
  · rw [hk1] at hkd hn
    rcases hkd with ⟨z, -⟩ | ⟨-, hinst, hsel, T0, N0, hcl⟩ | ⟨z, -⟩
    · cases z
    · obtain ⟨o, As, fs, rfl, hh⟩ := x_recv_v hk1 hrecv
      obtain ⟨r2, hc2, -, cell, g1, g2, g3, -⟩ := hr.2.2.2.2.2.2 o _ hh
      cases hcl.symm.trans hc2
      have hcB := (hr.2.2.2.2.1 _ _ hcl).2.1
      have hstk : st.map (x_cv (x_ad b q base)) = (As.map (x_cv (x_ad b q base))).reverse ++ .ref (x_ad b q base o) :: rest.map (x_cv (x_ad b q base)) := by
        rw [hst]
        simp [x_cv]
      have hlenA : (As.map (x_cv (x_ad b q base))).length = xm_np K := by simpa using hn
      have hp : PreV s H (xm_y K).cls (x_ad b q base o) (x_Pc D b q base (.ref o :: As) h) (As.map (x_cv (x_ad b q base))) := ⟨x_blind, ⟨cell, g1, by rw [g3]; rfl, by rw [g2]; exact hcB⟩, fun U hU hW => hpre U hU hW⟩
      rcases hlink with hlink | ⟨host, hlink⟩
      · exact x_after (va_runV (n := xm_np K) S hM ⟨⟨rfl, rfl, hR1, hR2, hws, List.mem_singleton.mpr rfl, hG.use hcode _, hG.use hini _, ⟨hy1, hy2⟩, hnp', hG.use hlink _⟩, hG.use hinst _, hG.use hsel _⟩ hp rfl hlenA hlv.1 hstk hW8 hd hf) hc hsl hl1 hl2 hz1 hz2 hlv hlocs k
      · exact x_after (va_runVN (n := xm_np K) S hM ⟨⟨⟨rfl, rfl, hR1, hR2, hws, List.mem_singleton.mpr rfl⟩, hG.use hcode _, hG.use hini _, ⟨hy1, hy2⟩, hnp', hG.use hlink _⟩, hG.use hinst _, hG.use hsel _⟩ hp rfl hlenA hlv.1 hstk hW8 hd hf) hc hsl hl1 hl2 hz1 hz2 hlv hlocs k
    · cases z
  · rw [hk0] at hkd hn
    rcases hkd with ⟨-, hstat⟩ | ⟨z, -⟩ | ⟨z, -⟩
    · have hstk : st.map (x_cv (x_ad b q base)) = (vs.map (x_cv (x_ad b q base))).reverse ++ rest.map (x_cv (x_ad b q base)) := by
        rw [hst]
        simp
      have hlenA : (vs.map (x_cv (x_ad b q base))).length = xm_np K := by simpa using hn
      have hp : PreS s H (x_Pc D b q base vs h) (vs.map (x_cv (x_ad b q base))) := ⟨x_blind, hpre⟩
      rcases hlink with hlink | ⟨host, hlink⟩
      · exact x_after (va_runS (n := xm_np K) S hM ⟨⟨rfl, rfl, hR1, hR2, hws, List.mem_singleton.mpr rfl, hG.use hcode _, hG.use hini _, ⟨hy1, hy2⟩, hnp', hG.use hlink _⟩, hG.use hstat _⟩ hp rfl hlenA hlv.1 hstk hW8 hd hf) hc hsl hl1 hl2 hz1 hz2 hlv hlocs k
      · exact x_after (va_runSN (n := xm_np K) S hM ⟨⟨⟨rfl, rfl, hR1, hR2, hws, List.mem_singleton.mpr rfl⟩, hG.use hcode _, hG.use hini _, ⟨hy1, hy2⟩, hnp', hG.use hlink _⟩, hG.use hstat _, trivial⟩ hp rfl hlenA hlv.1 hstk hW8 hd hf) hc hsl hl1 hl2 hz1 hz2 hlv hlocs k
    · cases z
    · cases z
  · rw [hk2] at hkd hn
    rcases hkd with ⟨z, -⟩ | ⟨z, -⟩ | ⟨-, hname, hinst, hrt⟩
    · cases z
    · cases z
    · obtain ⟨o, As, rfl⟩ := x_recv_i hk2 hrecv
      have hstk : st.map (x_cv (x_ad b q base)) = (As.map (x_cv (x_ad b q base))).reverse ++ .ref (x_ad b q base o) :: rest.map (x_cv (x_ad b q base)) := by
        rw [hst]
        simp [x_cv]
      have hlenA : (As.map (x_cv (x_ad b q base))).length = xm_np K := by simpa using hn
      rw [hrt] at hM hws hcode
      have hp : PreS s H (x_Pc D b q base (.ref o :: As) h) (.ref (x_ad b q base o) :: As.map (x_cv (x_ad b q base))) := ⟨x_blind, fun U hU hW => hpre U hU hW⟩
      rcases hlink with hlink | ⟨host, hlink⟩
      · exact x_after (va_runI (n := xm_np K) S hM ⟨⟨rfl, rfl, hR1, hR2, hws, List.mem_singleton.mpr rfl, hG.use hcode _, hG.use hini _, ⟨hy1, hy2⟩, hnp', hG.use hlink _⟩, hname, hG.use hinst _⟩ hp rfl hlenA hlv.1 hstk hW8 hd hf) hc hsl hl1 hl2 hz1 hz2 hlv hlocs k
      · exact x_after (va_runIN (n := xm_np K) S hM ⟨⟨⟨rfl, rfl, hR1, hR2, hws, List.mem_singleton.mpr rfl⟩, hG.use hcode _, hG.use hini _, ⟨hy1, hy2⟩, hnp', hG.use hlink _⟩, hname, hG.use hinst _⟩ hp rfl hlenA hlv.1 hstk hW8 hd hf) hc hsl hl1 hl2 hz1 hz2 hlv hlocs k
end XO5
end
section
section XO6
variable {Pg : List xM} {LM : List (Nat × Nat × Nat)} {l : Launch} {D : va_G} {b q base : Nat}
def x_SimM (l : Launch) (D : va_G) (b q base : Nat) (M : xM) (pc : Nat) (ls : xL) (st : List Value) (h : xH) (r : Option Value) (h' : xH) : Prop :=
  h.length ≤ h'.length ∧ x_sz h ≤ x_sz h' ∧ (ls.length = xm_L M → ∀ (p : Program) (e : Env) (R : Room) (s : State) (m : MethodId) (args : Array Value) (below : List Frame) (meth : Method) (c : Code) (Qf : State → Prop) (mc ms : Nat), x_Cx p s m c R mc ms (xm_cc M) (x_on (xm_o M)) (xm_L M) → meth.name = (xm_y M).name → R.frames = xm_fr M → R.locals = xm_lo M → x_End p l e R s m args below meth c Qf D b q base mc ms M r h' → x_Wn p l e R s m args below meth c Qf D b q base (xm_L M) mc ms h'.length (x_sz h') pc ls st h)
theorem x_Sim_M {j : Nat} {M : xM} (hM : Pg[j]? = some M) {pc : Nat} {ls : xL} {st : List Value} {h h' : xH} {r : Option Value} (H : x_Sim Pg l D b q base j pc ls st h r h') : x_SimM l D b q base M pc ls st h r h' := ⟨H.1, H.2.1, H.2.2 M hM⟩
theorem x_icmp_W {p : Program} {e : Env} {R : Room} {s : State} {m : MethodId} {args : Array Value} {below : List Frame} {meth : Method} {c : Code} {H : Heap} {locs : List Loc} {cells slots : Nat} {Q : State → Prop} {cc : ByteArray} {pc : Nat} {ls : Array Slot} {rest : List Value} (hexec : p.tables.exec = Jvm.exec) (hb : c.code = cc) {cd : Jvm.ClassFile.Cond} {x y : Int32} {off : Int} {tgt : Nat} (hd : decode cc pc = .ok (.if_icmp cd off, 3)) (ht : (pc : Int) + off = (tgt : Int))
    (kt : x_c cd x y → W p l e R s m args below meth c H locs cells slots Q (F0 m tgt ls rest)) (kf : ¬ x_c cd x y → W p l e R s m args below meth c H locs cells slots Q (F0 m (pc + 3) ls rest)) : W p l e R s m args below meth c H locs cells slots Q (F0 m pc ls (.int y :: .int x :: rest)) := by
  cases cd with
  | eq => exact lv_icmp_eq hexec hb hd ht kt kf
  | ne => exact lv_icmp_ne hexec hb hd ht kt (fun z => kf (fun w => w z))
  | lt => exact lv_icmp_lt hexec hb hd ht kt kf
  | ge => exact lv_icmp_ge hexec hb hd ht kt kf
  | gt => exact lv_icmp_gt hexec hb hd ht kt kf
  | le => exact lv_icmp_le hexec hb hd ht kt kf
theorem x_if_W {p : Program} {e : Env} {R : Room} {s : State} {m : MethodId} {args : Array Value} {below : List Frame} {meth : Method} {c : Code} {H : Heap} {locs : List Loc} {cells slots : Nat} {Q : State → Prop} {cc : ByteArray} {pc : Nat} {ls : Array Slot} {rest : List Value} (hexec : p.tables.exec = Jvm.exec) (hb : c.code = cc) {cd : Jvm.ClassFile.Cond} {x : Int32} {off : Int} {tgt : Nat} (hd : decode cc pc = .ok (.ifCond cd off, 3)) (ht : (pc : Int) + off = (tgt : Int))
    (kt : x_c cd x 0 → W p l e R s m args below meth c H locs cells slots Q (F0 m tgt ls rest)) (kf : ¬ x_c cd x 0 → W p l e R s m args below meth c H locs cells slots Q (F0 m (pc + 3) ls rest)) : W p l e R s m args below meth c H locs cells slots Q (F0 m pc ls (.int x :: rest)) := by
  cases cd with
  | eq => exact lv_if_eq hexec hb hd ht kt kf
  | ne => exact lv_if_ne hexec hb hd ht kt (fun z => kf (fun w => w z))
  | lt => exact lv_if_lt hexec hb hd ht kt kf
  | ge => exact lv_if_ge hexec hb hd ht kt kf
  | gt => exact lv_if_gt hexec hb hd ht kt kf
  | le => exact lv_if_le hexec hb hd ht kt kf
/-- both ways of a branch: lengths from the one that is taken -/
theorem x_both {P : Prop} {A : Prop} (h1 : P → A) (h2 : ¬ P → A) : A := (Classical.em P).elim h1 h2
theorem x_lookup_in (ps : List (Int × Int)) (d x : Int) : Op.lookupswitch.offset ps d x = d ∨ ∃ o ∈ ps, Op.lookupswitch.offset ps d x = o.2 := by
  induction ps with
  | nil => exact Or.inl rfl
  | cons a t ih =>
    rw [Op.lookupswitch.offset_cons]
    by_cases hx : x = a.1
    · exact Or.inr ⟨a, List.mem_cons_self, by simp [hx]⟩
    · have hx' : ¬ a.1 = x := fun z => hx z.symm
      rcases ih with ih | ⟨o, ho, ih⟩
      · exact Or.inl (by simp [hx, hx', ih])
      · exact Or.inr ⟨o, List.mem_cons_of_mem _ ho, by simp [hx, hx', ih]⟩
theorem x_callM (HL : ∀ z ∈ LM, ∃ K, Pg[z.2.2]? = some K ∧ x_MOK K ∧ x_Link z.1 z.2.1 K) {M : xM} {r : Option Value} {h' : xH} {ins : Instr} {a b0 idx kd pc : Nat} {ls : xL} {st : List Value} {h : xH} {kn : Nat → xL → List Value → xH → Prop} (hd : decode (xm_cc M) pc = .ok (ins, 3)) (hx : x_okCall Pg LM M kd idx a b0 = true) (hkd : (ins = .invokevirtual idx ∧ kd = 1) ∨ (ins = .invokestatic idx ∧ kd = 0) ∨ (ins = .invokespecial idx ∧ kd = 2))
    (H : x_call Pg (x_Sim Pg l D b q base) kn (ins, 3, a, b0) pc ls st h) (ih : ∀ (ls : xL) (st : List Value) (h : xH), kn (pc + 3) ls st h → x_SimM l D b q base M (pc + 3) ls st h r h') : x_SimM l D b q base M pc ls st h r h' := by
  obtain ⟨h1, h2, r1, hh1, hcal, hk⟩ := H
  dsimp only at h1 h2 hcal hk
  have ih2 := ih _ _ _ hk
  unfold x_calX at hcal
  split at hcal
  · rename_i K hK
    obtain ⟨hrecv, hargs, hs⟩ := hcal
    unfold x_okCall at hx
    rw [hK] at hx
    simp only [Bool.and_eq_true, decide_eq_true_eq] at hx
    obtain ⟨hin, ⟨⟨hf1, hf2⟩, hf3⟩, hf4⟩ := hx
    obtain ⟨K', hK', hMOK, hlink⟩ := HL _ hin
    cases hK.symm.trans hK'
    refine ⟨Nat.le_trans hs.1 ih2.1, Nat.le_trans hs.2.1 ih2.2.1, fun hL p e R s m args below meth c Qf mc ms C hmn hfr hlo hE => ?_⟩
    refine x_call_sim C hfr hlo hK hMOK hlink ⟨hf1, hf2⟩ (hf3 ▸ hkd) (by rw [hf3, ← hf4]; simp; omega) hd (rest := st.drop b0) (vs := (st.take b0).reverse) (by rw [List.reverse_reverse, List.take_append_drop]) h2 hrecv hargs hs ih2.1 ih2.2.1 (ih2.2.2 hL p e R s m args below meth c Qf mc ms C hmn hfr hlo hE)
  · exact hcal.elim
set_option maxHeartbeats 4000000 in
theorem x_sim_list (HL : ∀ z ∈ LM, ∃ K, Pg[z.2.2]? = some K ∧ x_MOK K ∧ x_Link z.1 z.2.1 K) {j : Nat} {M : xM} (hM : Pg[j]? = some M) {r : Option Value} {h' : xH} : ∀ (is : List xI) (pc : Nat) (ls : xL) (st : List Value) (h : xH), x_okB Pg LM M pc is = true → x_ev x_nm x_tf x_fn Pg (x_Sim Pg l D b q base) j (xm_rt M) r h' is pc ls st h → x_SimM l D b q base M pc ls st h r h'
  | [], pc, ls, st, h, _, H => x_Sim_M hM H
  | i :: is, pc, ls, st, h, hok, H => by
    have ih := x_sim_list HL hM (r := r) (h' := h') is
    obtain ⟨ins, n, a, b0⟩ := i
    unfold x_okB at hok
    rw [Bool.and_eq_true] at hok
    obtain ⟨hok, hrest⟩ := hok
    dsimp only at hrest
    replace H : x_one x_nm x_tf x_fn Pg (x_Sim Pg l D b q base) j (xm_rt M) r h' (x_ev x_nm x_tf x_fn Pg (x_Sim Pg l D b q base) j (xm_rt M) r h' is) (ins, n, a, b0) pc ls st h := H
    unfold x_one at H
    by_cases hc : x_ctl (ins, n, a, b0) = false
    · rw [if_pos hc] at H
      split at H
      · rename_i z hz
        obtain ⟨ls2, st2, h2⟩ := z
        have ih := ih (pc + n) ls2 st2 h2 hrest H
        obtain ⟨e1, e2, e3⟩ := x_op_len hz
        refine ⟨Nat.le_trans e2 ih.1, Nat.le_trans e3 ih.2.1, fun hL p e R s m args below meth c Qf mc ms C hmn hfr hlo hE => ?_⟩
        exact x_op_sim C hmn hfr hlo hok hL hc hz ih.1 ih.2.1 (ih.2.2 (e1.trans hL) p e R s m args below meth c Qf mc ms C hmn hfr hlo hE)
      · exact H.elim
    · rw [if_neg hc] at H
      dsimp only at H
      unfold x_okI at hok
      simp only [Bool.and_eq_true, decide_eq_true_eq] at hok
      obtain ⟨⟨hd, hn⟩, hx⟩ := hok
      try dsimp only at hd hn hx
      split at H
      · obtain rfl := hn.resolve_left (by simp [x_len])
        have HX := x_Sim_M hM H
        refine ⟨HX.1, HX.2.1, fun hL p e R s m args below meth c Qf mc ms C hmn hfr hlo hE => ?_⟩
        have kk := HX.2.2 hL p e R s m args below meth c Qf mc ms C hmn hfr hlo hE
        exact x_Wn_s kk fun H locs cells slots lsr hr hl k => lv_goto C.1 C.2.1 hd (of_decide_eq_true hx) k
      · obtain rfl := hn.resolve_left (by simp [x_len])
        split at H
        · rename_i cd off x st
          refine ⟨x_both (fun z => (H.1 z).1) (fun z => (ih _ _ _ _ hrest (H.2 z)).1), x_both (fun z => (H.1 z).2.1) (fun z => (ih _ _ _ _ hrest (H.2 z)).2.1), fun hL p e R s m args below meth c Qf mc ms C hmn hfr hlo hE => ?_⟩
          intro Hh locs cells slots lsr u1 u2 u3 u4 u5
          exact x_if_W C.1 C.2.1 hd (of_decide_eq_true hx) (fun z => (x_Sim_M hM (H.1 z)).2.2 hL p e R s m args below meth c Qf mc ms C hmn hfr hlo hE Hh locs cells slots lsr u1 u2 u3 u4 u5) (fun z => (ih _ _ _ _ hrest (H.2 z)).2.2 hL p e R s m args below meth c Qf mc ms C hmn hfr hlo hE Hh locs cells slots lsr u1 u2 u3 u4 u5)
        · exact H.elim
      · obtain rfl := hn.resolve_left (by simp [x_len])
        split at H
        · rename_i cd off y x st
          refine ⟨x_both (fun z => (H.1 z).1) (fun z => (ih _ _ _ _ hrest (H.2 z)).1), x_both (fun z => (H.1 z).2.1) (fun z => (ih _ _ _ _ hrest (H.2 z)).2.1), fun hL p e R s m args below meth c Qf mc ms C hmn hfr hlo hE => ?_⟩
          intro Hh locs cells slots lsr u1 u2 u3 u4 u5
          exact x_icmp_W C.1 C.2.1 hd (of_decide_eq_true hx) (fun z => (x_Sim_M hM (H.1 z)).2.2 hL p e R s m args below meth c Qf mc ms C hmn hfr hlo hE Hh locs cells slots lsr u1 u2 u3 u4 u5) (fun z => (ih _ _ _ _ hrest (H.2 z)).2.2 hL p e R s m args below meth c Qf mc ms C hmn hfr hlo hE Hh locs cells slots lsr u1 u2 u3 u4 u5)
        · exact H.elim
      · split at H
        · rename_i d lo hi offs _ x st
          dsimp only at hx
          simp only [Bool.and_eq_true, decide_eq_true_eq, List.all_eq_true] at hx
          refine ⟨x_both (fun z => (H.1 z).1) (fun z => by obtain ⟨o, -, ho⟩ := H.2 z; exact ho.1), x_both (fun z => (H.1 z).2.1) (fun z => by obtain ⟨o, -, ho⟩ := H.2 z; exact ho.2.1), fun hL p e R s m args below meth c Qf mc ms C hmn hfr hlo hE => ?_⟩
          intro Hh locs cells slots lsr u1 u2 u3 u4 u5
          by_cases hz : x.toInt < lo ∨ hi < x.toInt
          · exact lv_tableOut C.1 C.2.1 hd hz (Int.toNat_of_nonneg hx.1).symm ((x_Sim_M hM (H.1 hz)).2.2 hL p e R s m args below meth c Qf mc ms C hmn hfr hlo hE Hh locs cells slots lsr u1 u2 u3 u4 u5)
          · obtain ⟨o, ho, HX⟩ := H.2 hz
            have ho2 : 0 ≤ (pc : Int) + o := hx.2 o (Array.mem_toList_iff.mpr (Array.mem_of_getElem? ho))
            exact lv_tableIn C.1 C.2.1 hd (fun z => hz (Or.inl z)) (fun z => hz (Or.inr z)) ho (Int.toNat_of_nonneg ho2).symm ((x_Sim_M hM HX).2.2 hL p e R s m args below meth c Qf mc ms C hmn hfr hlo hE Hh locs cells slots lsr u1 u2 u3 u4 u5)
        · exact H.elim
      · split at H
        · rename_i d ps _ x st
          dsimp only at hx
          simp only [Bool.and_eq_true, decide_eq_true_eq] at hx
          have HX := x_Sim_M hM H
          refine ⟨HX.1, HX.2.1, fun hL p e R s m args below meth c Qf mc ms C hmn hfr hlo hE => ?_⟩
          intro Hh locs cells slots lsr u1 u2 u3 u4 u5
          have hnn : 0 ≤ (pc : Int) + Op.lookupswitch.offset ps.toList d x.toInt := by
            rcases x_lookup_in ps.toList d x.toInt with z | ⟨o, ho, z⟩
            · rw [z]; exact hx.1.2
            · rw [z]; exact of_decide_eq_true (List.all_eq_true.mp hx.2 o ho)
          exact lv_lookup C.1 C.2.1 hd hx.1.1 rfl (Int.toNat_of_nonneg hnn).symm (HX.2.2 hL p e R s m args below meth c Qf mc ms C hmn hfr hlo hE Hh locs cells slots lsr u1 u2 u3 u4 u5)
        · exact H.elim
      · obtain rfl := hn.resolve_left (by simp [x_len])
        split at H
        · rename_i v
          obtain ⟨hrt, rfl, rfl⟩ := H
          refine ⟨Nat.le_refl _, Nat.le_refl _, fun hL p e R s m args below meth c Qf mc ms C hmn hfr hlo hE => ?_⟩
          intro Hh locs cells slots lsr u1 u2 u3 u4 u5
          exact hE Hh locs cells slots pc lsr .ireturn (by omega) (by omega) u3 u5 hd (Or.inl ⟨rfl, v, rfl, hrt⟩)
        · exact H.elim
      · obtain rfl := hn.resolve_left (by simp [x_len])
        split at H
        · rename_i v
          obtain ⟨hrt, rfl, rfl⟩ := H
          refine ⟨Nat.le_refl _, Nat.le_refl _, fun hL p e R s m args below meth c Qf mc ms C hmn hfr hlo hE => ?_⟩
          intro Hh locs cells slots lsr u1 u2 u3 u4 u5
          exact hE Hh locs cells slots pc lsr .lreturn (by omega) (by omega) u3 u5 hd (Or.inr (Or.inl ⟨rfl, hrt, v, rfl⟩))
        · exact H.elim
      · obtain rfl := hn.resolve_left (by simp [x_len])
        obtain ⟨rfl, hrt, rfl, rfl⟩ := H
        refine ⟨Nat.le_refl _, Nat.le_refl _, fun hL p e R s m args below meth c Qf mc ms C hmn hfr hlo hE => ?_⟩
        intro Hh locs cells slots lsr u1 u2 u3 u4 u5
        exact hE Hh locs cells slots pc lsr .return_ (by omega) (by omega) u3 u5 hd (Or.inr (Or.inr ⟨rfl, hrt, rfl⟩))
      · obtain rfl := hn.resolve_left (by simp [x_len])
        exact x_callM HL hd hx (Or.inl ⟨rfl, rfl⟩) H (fun ls st h hk => ih _ ls st h hrest hk)
      · obtain rfl := hn.resolve_left (by simp [x_len])
        have ha : a < 1000 := by simpa [x_ctl] using hc
        dsimp only at hx
        rw [if_pos ha] at hx
        exact x_callM HL hd hx (Or.inr (Or.inl ⟨rfl, rfl⟩)) H (fun ls st h hk => ih _ ls st h hrest hk)
      · obtain rfl := hn.resolve_left (by simp [x_len])
        have ha : a < 1000 := by simpa [x_ctl] using hc
        dsimp only at hx
        rw [if_pos ha] at hx
        exact x_callM HL hd hx (Or.inr (Or.inr ⟨rfl, rfl⟩)) H (fun ls st h hk => ih _ ls st h hrest hk)
      · exact H.elim
/-- OUR MACHINE IS FOLLOWED -/
theorem x_followed (HL : ∀ z ∈ LM, ∃ K, Pg[z.2.2]? = some K ∧ x_MOK K ∧ x_Link z.1 z.2.1 K) (HB : ∀ (j : Nat) (M : xM), Pg[j]? = some M → ∀ z ∈ xm_bl M, x_okB Pg LM M z.1 z.2 = true) {j pc : Nat} {ls : xL} {st : List Value} {h h' : xH} {r : Option Value} (H : x_Ev x_nm x_tf x_fn Pg j pc ls st h r h') : x_Sim Pg l D b q base j pc ls st h r h' := by
  refine H _ (fun j pc ls st h r h' HX => ?_)
  obtain ⟨M, is, hM, hf, HX⟩ := HX
  unfold x_find at hf
  cases hz : (xm_bl M).find? (fun q => q.1 == pc) with
  | none => rw [hz] at hf; cases hf
  | some z =>
    rw [hz] at hf
    cases hf
    have h1 := List.mem_of_find?_eq_some hz
    have h2 := List.find?_some hz
    have h3 : z.1 = pc := by simpa using h2
    have h4 := HB j M hM z h1
    rw [h3] at h4
    have h5 := x_sim_list HL hM _ _ _ _ _ h4 HX
    refine ⟨h5.1, h5.2.1, fun M' hM' => ?_⟩
    cases hM.symm.trans hM'
    exact h5.2.2
end XO6
end
section
/-! the program as our machine has it: by program (wip/whole/gen11.py) -/
noncomputable def xb_X1_init_0 : List xI := [(.aload_n 0, 1, 0, 0), (.invokespecial 3, 3, 1000, 0), (.aload_n 0, 1, 0, 0), (.bipush 72, 2, 0, 0), (.newarray .int, 2, 0, 0), (.putfield 9, 3, 1, 0), (.aload_n 0, 1, 0, 0), (.bipush 6, 2, 0, 0), (.newarray .int, 2, 0, 0), (.putfield 15, 3, 1, 1), (.aload_n 0, 1, 0, 0), (.bipush 24, 2, 0, 0), (.newarray .int, 2, 0, 0), (.putfield 18, 3, 1, 2), (.aload_n 0, 1, 0, 0), (.bipush 12, 2, 0, 0), (.newarray .int, 2, 0, 0), (.putfield 21, 3, 1, 3), (.aload_n 0, 1, 0, 0), (.iconst 3, 1, 0, 0), (.newarray .int, 2, 0, 0), (.dup, 1, 0, 0), (.iconst 0, 1, 0, 0), (.iconst 1, 1, 0, 0), (.iastore, 1, 0, 0), (.dup, 1, 0, 0), (.iconst 1, 1, 0, 0), (.iconst 2, 1, 0, 0), (.iastore, 1, 0, 0), (.dup, 1, 0, 0), (.iconst 2, 1, 0, 0), (.bipush 6, 2, 0, 0), (.iastore, 1, 0, 0), (.putfield 24, 3, 1, 4), (.aload_n 0, 1, 0, 0), (.iconst 0, 1, 0, 0), (.putfield 27, 3, 1, 5), (.iconst 0, 1, 0, 0), (.istore_n 1, 1, 0, 0)]
noncomputable def xb_X1_init_63 : List xI := [(.iload_n 1, 1, 0, 0), (.aload_n 0, 1, 0, 0), (.getfield 9, 3, 1, 0), (.arraylength, 1, 0, 0), (.if_icmp .ge 16, 3, 85, 0), (.aload_n 0, 1, 0, 0), (.getfield 9, 3, 1, 0), (.iload_n 1, 1, 0, 0), (.iconst (-1), 1, 0, 0), (.iastore, 1, 0, 0), (.iinc 1 1, 3, 0, 0), (.goto (-19), 3, 63, 0)]
noncomputable def xb_X1_init_85 : List xI := [(.iconst 1, 1, 0, 0), (.istore_n 1, 1, 0, 0)]
noncomputable def xb_X1_init_87 : List xI := [(.iload_n 1, 1, 0, 0), (.bipush 6, 2, 0, 0), (.if_icmp .ge 16, 3, 106, 0), (.aload_n 0, 1, 0, 0), (.getfield 15, 3, 1, 1), (.iload_n 1, 1, 0, 0), (.iconst (-1), 1, 0, 0), (.iastore, 1, 0, 0), (.iinc 1 1, 3, 0, 0), (.goto (-16), 3, 87, 0)]
noncomputable def xb_X1_init_106 : List xI := [(.return_, 1, 0, 0)]
noncomputable def xm_X1_init : xM := (⟨"PathReader$Grammar", "<init>", "()V"⟩, 1, cX1_init, 2, none, 1, 20, 2, 1, 0, [(0, xb_X1_init_0), (63, xb_X1_init_63), (85, xb_X1_init_85), (87, xb_X1_init_87), (106, xb_X1_init_106)])
noncomputable def xb_X4_init_0 : List xI := [(.aload_n 0, 1, 0, 0), (.invokespecial 3, 3, 1000, 0), (.aload_n 0, 1, 0, 0), (.bipush 7, 2, 0, 0), (.newarray .int, 2, 0, 0), (.putfield 9, 3, 3, 0), (.aload_n 0, 1, 0, 0), (.bipush 7, 2, 0, 0), (.newarray .int, 2, 0, 0), (.putfield 15, 3, 3, 1), (.aload_n 0, 1, 0, 0), (.bipush 7, 2, 0, 0), (.newarray .int, 2, 0, 0), (.putfield 18, 3, 3, 2), (.aload_n 0, 1, 0, 0), (.bipush 7, 2, 0, 0), (.newarray .int, 2, 0, 0), (.putfield 21, 3, 3, 3), (.aload_n 0, 1, 0, 0), (.bipush 7, 2, 0, 0), (.newarray .int, 2, 0, 0), (.putfield 24, 3, 3, 4), (.aload_n 0, 1, 0, 0), (.iconst 0, 1, 0, 0), (.putfield 27, 3, 3, 5), (.aload_n 0, 1, 0, 0), (.getfield 15, 3, 3, 1), (.iconst 0, 1, 0, 0), (.iconst (-1), 1, 0, 0), (.iastore, 1, 0, 0), (.aload_n 0, 1, 0, 0), (.getfield 18, 3, 3, 2), (.iconst 0, 1, 0, 0), (.iconst (-1), 1, 0, 0), (.iastore, 1, 0, 0), (.return_, 1, 0, 0)]
noncomputable def xm_X4_init : xM := (⟨"PathReader$Sentence", "<init>", "()V"⟩, 3, cX4_init, 1, none, 1, 20, 2, 3, 0, [(0, xb_X4_init_0)])
noncomputable def xb_X6_init_0 : List xI := [(.aload_n 0, 1, 0, 0), (.invokespecial 3, 3, 1000, 0), (.aload_n 0, 1, 0, 0), (.new 9, 3, 1, 0), (.dup, 1, 0, 0), (.invokespecial 11, 3, 0, 1), (.putfield 12, 3, 5, 0), (.aload_n 0, 1, 0, 0), (.new 18, 3, 3, 0), (.dup, 1, 0, 0), (.invokespecial 20, 3, 1, 1), (.putfield 21, 3, 5, 1), (.return_, 1, 0, 0)]
noncomputable def xm_X6_init : xM := (⟨"PathReader$State", "<init>", "()V"⟩, 5, cX6_init, 1, none, 2, 41, 2, 5, 0, [(0, xb_X6_init_0)])
noncomputable def xb_X5_init_0 : List xI := [(.aload_n 0, 1, 0, 0), (.invokespecial 3, 3, 1000, 0), (.aload_n 0, 1, 0, 0), (.bipush 6, 2, 0, 0), (.anewarray 9, 3, 5, 0), (.putfield 11, 3, 4, 0), (.aload_n 0, 1, 0, 0), (.iconst 0, 1, 0, 0), (.putfield 17, 3, 4, 1), (.aload_n 0, 1, 0, 0), (.iconst 0, 1, 0, 0), (.putfield 21, 3, 4, 2), (.iconst 0, 1, 0, 0), (.istore_n 1, 1, 0, 0)]
noncomputable def xb_X5_init_25 : List xI := [(.iload_n 1, 1, 0, 0), (.bipush 6, 2, 0, 0), (.if_icmp .ge 22, 3, 50, 0), (.aload_n 0, 1, 0, 0), (.getfield 11, 3, 4, 0), (.iload_n 1, 1, 0, 0), (.new 9, 3, 5, 0), (.dup, 1, 0, 0), (.invokespecial 24, 3, 2, 1), (.aastore, 1, 0, 0), (.iinc 1 1, 3, 0, 0), (.goto (-22), 3, 25, 0)]
noncomputable def xb_X5_init_50 : List xI := [(.return_, 1, 0, 0)]
noncomputable def xm_X5_init : xM := (⟨"PathReader$Shelf", "<init>", "()V"⟩, 4, cX5_init, 2, none, 3, 61, 2, 4, 0, [(0, xb_X5_init_0), (25, xb_X5_init_25), (50, xb_X5_init_50)])
noncomputable def xb_X0_spanPlace_0 : List xI := [(.iload_n 0, 1, 0, 0), (.bipush 8, 2, 0, 0), (.imul, 1, 0, 0), (.iload_n 1, 1, 0, 0), (.iadd, 1, 0, 0), (.bipush 8, 2, 0, 0), (.imul, 1, 0, 0), (.iload_n 2, 1, 0, 0), (.iadd, 1, 0, 0), (.iconst 2, 1, 0, 0), (.imul, 1, 0, 0), (.iload_n 3, 1, 0, 0), (.iadd, 1, 0, 0), (.ireturn, 1, 0, 0)]
noncomputable def xm_X0_spanPlace : xM := (⟨"PathReader$Chart", "spanPlace", "(IIII)I"⟩, 0, cX0_spanPlace, 4, (some .int), 0, 0, 0, 0, 4, [(0, xb_X0_spanPlace_0)])
noncomputable def xb_X0_init_0 : List xI := [(.aload_n 0, 1, 0, 0), (.invokespecial 7, 3, 1000, 0), (.aload_n 0, 1, 0, 0), (.sipush 256, 3, 0, 0), (.newarray .long, 2, 0, 0), (.putfield 13, 3, 0, 0), (.aload_n 0, 1, 0, 0), (.sipush 1024, 3, 0, 0), (.newarray .long, 2, 0, 0), (.putfield 17, 3, 0, 1), (.aload_n 0, 1, 0, 0), (.sipush 1024, 3, 0, 0), (.newarray .long, 2, 0, 0), (.putfield 20, 3, 0, 2), (.aload_n 0, 1, 0, 0), (.sipush 1024, 3, 0, 0), (.newarray .int, 2, 0, 0), (.putfield 23, 3, 0, 3), (.aload_n 0, 1, 0, 0), (.sipush 1024, 3, 0, 0), (.newarray .int, 2, 0, 0), (.putfield 27, 3, 0, 4), (.aload_n 0, 1, 0, 0), (.ldc2_w 30, 3, 288230376151711744, 0), (.putfield 32, 3, 0, 5), (.aload_n 0, 1, 0, 0), (.iconst 0, 1, 0, 0), (.putfield 36, 3, 0, 6), (.iconst 1, 1, 0, 0), (.istore_n 1, 1, 0, 0)]
noncomputable def xb_X0_init_63 : List xI := [(.iload_n 1, 1, 0, 0), (.bipush 8, 2, 0, 0), (.if_icmp .ge 51, 3, 117, 0), (.iconst 0, 1, 0, 0), (.istore_n 2, 1, 0, 0)]
noncomputable def xb_X0_init_71 : List xI := [(.iload_n 2, 1, 0, 0), (.bipush 8, 2, 0, 0), (.if_icmp .ge 37, 3, 111, 0), (.iconst 0, 1, 0, 0), (.istore_n 3, 1, 0, 0)]
noncomputable def xb_X0_init_79 : List xI := [(.iload_n 3, 1, 0, 0), (.iconst 2, 1, 0, 0), (.if_icmp .ge 24, 3, 105, 0), (.aload_n 0, 1, 0, 0), (.getfield 27, 3, 0, 4), (.iload_n 1, 1, 0, 0), (.iload_n 1, 1, 0, 0), (.iconst 1, 1, 0, 0), (.isub, 1, 0, 0), (.iload_n 2, 1, 0, 0), (.iload_n 3, 1, 0, 0), (.invokestatic 40, 3, 4, 4), (.iconst 1, 1, 0, 0), (.iastore, 1, 0, 0), (.iinc 3 1, 3, 0, 0), (.goto (-23), 3, 79, 0)]
noncomputable def xb_X0_init_105 : List xI := [(.iinc 2 1, 3, 0, 0), (.goto (-37), 3, 71, 0)]
noncomputable def xb_X0_init_111 : List xI := [(.iinc 1 1, 3, 0, 0), (.goto (-51), 3, 63, 0)]
noncomputable def xb_X0_init_117 : List xI := [(.return_, 1, 0, 0)]
noncomputable def xm_X0_init : xM := (⟨"PathReader$Chart", "<init>", "()V"⟩, 0, cX0_init, 4, none, 1, 23, 2, 0, 0, [(0, xb_X0_init_0), (63, xb_X0_init_63), (71, xb_X0_init_71), (79, xb_X0_init_79), (105, xb_X0_init_105), (111, xb_X0_init_111), (117, xb_X0_init_117)])
noncomputable def xb_X3_init_0 : List xI := [(.aload_n 0, 1, 0, 0), (.invokespecial 3, 3, 1000, 0), (.aload_n 0, 1, 0, 0), (.bipush 120, 2, 0, 0), (.newarray .int, 2, 0, 0), (.putfield 9, 3, 2, 0), (.aload_n 0, 1, 0, 0), (.bipush 120, 2, 0, 0), (.newarray .int, 2, 0, 0), (.putfield 15, 3, 2, 1), (.aload_n 0, 1, 0, 0), (.bipush 120, 2, 0, 0), (.newarray .int, 2, 0, 0), (.putfield 18, 3, 2, 2), (.aload_n 0, 1, 0, 0), (.bipush 120, 2, 0, 0), (.newarray .int, 2, 0, 0), (.putfield 21, 3, 2, 3), (.aload_n 0, 1, 0, 0), (.bipush 120, 2, 0, 0), (.newarray .int, 2, 0, 0), (.putfield 24, 3, 2, 4), (.aload_n 0, 1, 0, 0), (.iconst 0, 1, 0, 0), (.putfield 27, 3, 2, 5), (.aload_n 0, 1, 0, 0), (.iconst 0, 1, 0, 0), (.putfield 31, 3, 2, 6), (.aload_n 0, 1, 0, 0), (.iconst 0, 1, 0, 0), (.putfield 34, 3, 2, 7), (.aload_n 0, 1, 0, 0), (.iconst 0, 1, 0, 0), (.putfield 37, 3, 2, 8), (.return_, 1, 0, 0)]
noncomputable def xm_X3_init : xM := (⟨"PathReader$Script", "<init>", "()V"⟩, 2, cX3_init, 1, none, 1, 20, 2, 2, 0, [(0, xb_X3_init_0)])
noncomputable def xb_X7_init_0 : List xI := [(.aload_n 0, 1, 0, 0), (.invokespecial 1, 3, 1000, 0), (.aload_n 0, 1, 0, 0), (.new 7, 3, 5, 0), (.dup, 1, 0, 0), (.invokespecial 9, 3, 2, 1), (.putfield 10, 3, 6, 0), (.aload_n 0, 1, 0, 0), (.new 7, 3, 5, 0), (.dup, 1, 0, 0), (.invokespecial 9, 3, 2, 1), (.putfield 16, 3, 6, 1), (.aload_n 0, 1, 0, 0), (.new 19, 3, 4, 0), (.dup, 1, 0, 0), (.invokespecial 21, 3, 3, 1), (.putfield 22, 3, 6, 2), (.aload_n 0, 1, 0, 0), (.new 26, 3, 0, 0), (.dup, 1, 0, 0), (.invokespecial 28, 3, 5, 1), (.putfield 29, 3, 6, 3), (.aload_n 0, 1, 0, 0), (.new 33, 3, 2, 0), (.dup, 1, 0, 0), (.invokespecial 35, 3, 6, 1), (.putfield 36, 3, 6, 4), (.aload_n 0, 1, 0, 0), (.iconst 3, 1, 0, 0), (.newarray .int, 2, 0, 0), (.putfield 40, 3, 6, 5), (.return_, 1, 0, 0)]
noncomputable def xm_X7_init : xM := (⟨"PathReader", "<init>", "()V"⟩, 6, cX7_init, 1, none, 4, 82, 2, 6, 0, [(0, xb_X7_init_0)])
noncomputable def xb_X8_laysHeads_0 : List xI := [(.iload_n 1, 1, 0, 0), (.istore_n 3, 1, 0, 0), (.iload_n 2, 1, 0, 0), (.istore 4, 2, 0, 0)]
noncomputable def xb_X8_laysHeads_5 : List xI := [(.iload 4, 2, 0, 0), (.iconst 1, 1, 0, 0), (.if_icmp .lt 27, 3, 35, 0), (.aload_n 0, 1, 0, 0), (.getfield 25, 3, 7, 7), (.iload 4, 2, 0, 0), (.iload_n 3, 1, 0, 0), (.iload_n 2, 1, 0, 0), (.iconst 1, 1, 0, 0), (.iadd, 1, 0, 0), (.irem, 1, 0, 0), (.iastore, 1, 0, 0), (.iload_n 3, 1, 0, 0), (.iload_n 2, 1, 0, 0), (.iconst 1, 1, 0, 0), (.iadd, 1, 0, 0), (.idiv, 1, 0, 0), (.istore_n 3, 1, 0, 0), (.iinc 4 (-1), 3, 0, 0), (.goto (-27), 3, 5, 0)]
noncomputable def xb_X8_laysHeads_35 : List xI := [(.return_, 1, 0, 0)]
noncomputable def xm_X8_laysHeads : xM := (⟨"PathReaderModel", "laysHeads", "(II)V"⟩, 7, cX8_laysHeads, 5, none, 0, 0, 1, 7, 2, [(0, xb_X8_laysHeads_0), (5, xb_X8_laysHeads_5), (35, xb_X8_laysHeads_35)])
noncomputable def xb_X8_comesTo_0 : List xI := [(.iload_n 1, 1, 0, 0), (.istore_n 3, 1, 0, 0), (.iconst 0, 1, 0, 0), (.istore 4, 2, 0, 0)]
noncomputable def xb_X8_comesTo_5 : List xI := [(.iload 4, 2, 0, 0), (.bipush 7, 2, 0, 0), (.if_icmp .ge 25, 3, 34, 0), (.iload_n 3, 1, 0, 0), (.iload_n 2, 1, 0, 0), (.if_icmp .eq 20, 3, 34, 0), (.iload_n 3, 1, 0, 0), (.ifCond .eq 16, 3, 34, 0), (.aload_n 0, 1, 0, 0), (.getfield 25, 3, 7, 7), (.iload_n 3, 1, 0, 0), (.iaload, 1, 0, 0), (.istore_n 3, 1, 0, 0), (.iinc 4 1, 3, 0, 0), (.goto (-26), 3, 5, 0)]
noncomputable def xb_X8_comesTo_34 : List xI := [(.iload_n 3, 1, 0, 0), (.iload_n 2, 1, 0, 0), (.if_icmp .ne 7, 3, 43, 0), (.iconst 1, 1, 0, 0), (.goto 4, 3, 44, 0)]
noncomputable def xb_X8_comesTo_43 : List xI := [(.iconst 0, 1, 0, 0)]
noncomputable def xb_X8_comesTo_44 : List xI := [(.ireturn, 1, 0, 0)]
noncomputable def xm_X8_comesTo : xM := (⟨"PathReaderModel", "comesTo", "(II)Z"⟩, 7, cX8_comesTo, 5, (some .boolean), 0, 0, 1, 7, 2, [(0, xb_X8_comesTo_0), (5, xb_X8_comesTo_5), (34, xb_X8_comesTo_34), (43, xb_X8_comesTo_43), (44, xb_X8_comesTo_44)])
noncomputable def xb_X8_isBridged_0 : List xI := [(.aload_n 0, 1, 0, 0), (.getfield 25, 3, 7, 7), (.iload_n 1, 1, 0, 0), (.iaload, 1, 0, 0), (.iload_n 1, 1, 0, 0), (.if_icmp .ge 12, 3, 19, 0), (.aload_n 0, 1, 0, 0), (.getfield 25, 3, 7, 7), (.iload_n 1, 1, 0, 0), (.iaload, 1, 0, 0), (.goto 4, 3, 20, 0)]
noncomputable def xb_X8_isBridged_19 : List xI := [(.iload_n 1, 1, 0, 0)]
noncomputable def xb_X8_isBridged_20 : List xI := [(.istore_n 2, 1, 0, 0), (.aload_n 0, 1, 0, 0), (.getfield 25, 3, 7, 7), (.iload_n 1, 1, 0, 0), (.iaload, 1, 0, 0), (.iload_n 1, 1, 0, 0), (.if_icmp .ge 7, 3, 35, 0), (.iload_n 1, 1, 0, 0), (.goto 9, 3, 41, 0)]
noncomputable def xb_X8_isBridged_35 : List xI := [(.aload_n 0, 1, 0, 0), (.getfield 25, 3, 7, 7), (.iload_n 1, 1, 0, 0), (.iaload, 1, 0, 0)]
noncomputable def xb_X8_isBridged_41 : List xI := [(.istore_n 3, 1, 0, 0), (.iconst 1, 1, 0, 0), (.istore 4, 2, 0, 0), (.iload_n 2, 1, 0, 0), (.iconst 1, 1, 0, 0), (.iadd, 1, 0, 0), (.istore 5, 2, 0, 0)]
noncomputable def xb_X8_isBridged_50 : List xI := [(.iload 5, 2, 0, 0), (.iload_n 3, 1, 0, 0), (.if_icmp .ge 36, 3, 89, 0), (.iload 4, 2, 0, 0), (.ifCond .eq 22, 3, 80, 0), (.aload_n 0, 1, 0, 0), (.iload 5, 2, 0, 0), (.aload_n 0, 1, 0, 0), (.getfield 25, 3, 7, 7), (.iload_n 1, 1, 0, 0), (.iaload, 1, 0, 0), (.invokevirtual 66, 3, 9, 3), (.ifCond .eq 7, 3, 80, 0), (.iconst 1, 1, 0, 0), (.goto 4, 3, 81, 0)]
noncomputable def xb_X8_isBridged_80 : List xI := [(.iconst 0, 1, 0, 0)]
noncomputable def xb_X8_isBridged_81 : List xI := [(.istore 4, 2, 0, 0), (.iinc 5 1, 3, 0, 0), (.goto (-36), 3, 50, 0)]
noncomputable def xb_X8_isBridged_89 : List xI := [(.iload 4, 2, 0, 0), (.ireturn, 1, 0, 0)]
noncomputable def xm_X8_isBridged : xM := (⟨"PathReaderModel", "isBridged", "(I)Z"⟩, 7, cX8_isBridged, 6, (some .boolean), 1, 24, 1, 7, 1, [(0, xb_X8_isBridged_0), (19, xb_X8_isBridged_19), (20, xb_X8_isBridged_20), (35, xb_X8_isBridged_35), (41, xb_X8_isBridged_41), (50, xb_X8_isBridged_50), (80, xb_X8_isBridged_80), (81, xb_X8_isBridged_81), (89, xb_X8_isBridged_89)])
noncomputable def xb_X8_isTree_0 : List xI := [(.iconst 0, 1, 0, 0), (.istore_n 2, 1, 0, 0), (.iconst 1, 1, 0, 0), (.istore_n 3, 1, 0, 0), (.iconst 1, 1, 0, 0), (.istore 4, 2, 0, 0)]
noncomputable def xb_X8_isTree_7 : List xI := [(.iload 4, 2, 0, 0), (.iload_n 1, 1, 0, 0), (.if_icmp .gt 59, 3, 69, 0), (.iload_n 2, 1, 0, 0), (.aload_n 0, 1, 0, 0), (.getfield 25, 3, 7, 7), (.iload 4, 2, 0, 0), (.iaload, 1, 0, 0), (.ifCond .ne 7, 3, 28, 0), (.iconst 1, 1, 0, 0), (.goto 4, 3, 29, 0)]
noncomputable def xb_X8_isTree_28 : List xI := [(.iconst 0, 1, 0, 0)]
noncomputable def xb_X8_isTree_29 : List xI := [(.iadd, 1, 0, 0), (.istore_n 2, 1, 0, 0), (.iload_n 3, 1, 0, 0), (.ifCond .eq 29, 3, 61, 0), (.aload_n 0, 1, 0, 0), (.getfield 25, 3, 7, 7), (.iload 4, 2, 0, 0), (.iaload, 1, 0, 0), (.iload 4, 2, 0, 0), (.if_icmp .eq 17, 3, 61, 0), (.aload_n 0, 1, 0, 0), (.iload 4, 2, 0, 0), (.iconst 0, 1, 0, 0), (.invokevirtual 66, 3, 9, 3), (.ifCond .eq 7, 3, 61, 0), (.iconst 1, 1, 0, 0), (.goto 4, 3, 62, 0)]
noncomputable def xb_X8_isTree_61 : List xI := [(.iconst 0, 1, 0, 0)]
noncomputable def xb_X8_isTree_62 : List xI := [(.istore_n 3, 1, 0, 0), (.iinc 4 1, 3, 0, 0), (.goto (-59), 3, 7, 0)]
noncomputable def xb_X8_isTree_69 : List xI := [(.iconst 1, 1, 0, 0), (.istore 4, 2, 0, 0)]
noncomputable def xb_X8_isTree_72 : List xI := [(.iload 4, 2, 0, 0), (.iload_n 1, 1, 0, 0), (.if_icmp .gt 38, 3, 113, 0), (.iload_n 3, 1, 0, 0), (.ifCond .eq 34, 3, 113, 0), (.aload_n 0, 1, 0, 0), (.getfield 25, 3, 7, 7), (.iload 4, 2, 0, 0), (.iaload, 1, 0, 0), (.ifCond .eq 12, 3, 101, 0), (.aload_n 0, 1, 0, 0), (.iload 4, 2, 0, 0), (.invokevirtual 70, 3, 10, 2), (.ifCond .eq 7, 3, 105, 0)]
noncomputable def xb_X8_isTree_101 : List xI := [(.iconst 1, 1, 0, 0), (.goto 4, 3, 106, 0)]
noncomputable def xb_X8_isTree_105 : List xI := [(.iconst 0, 1, 0, 0)]
noncomputable def xb_X8_isTree_106 : List xI := [(.istore_n 3, 1, 0, 0), (.iinc 4 1, 3, 0, 0), (.goto (-38), 3, 72, 0)]
noncomputable def xb_X8_isTree_113 : List xI := [(.iload_n 3, 1, 0, 0), (.ifCond .eq 12, 3, 126, 0), (.iload_n 2, 1, 0, 0), (.iconst 1, 1, 0, 0), (.if_icmp .ne 7, 3, 126, 0), (.iconst 1, 1, 0, 0), (.goto 4, 3, 127, 0)]
noncomputable def xb_X8_isTree_126 : List xI := [(.iconst 0, 1, 0, 0)]
noncomputable def xb_X8_isTree_127 : List xI := [(.ireturn, 1, 0, 0)]
noncomputable def xm_X8_isTree : xM := (⟨"PathReaderModel", "isTree", "(I)Z"⟩, 7, cX8_isTree, 5, (some .boolean), 2, 49, 1, 7, 1, [(0, xb_X8_isTree_0), (7, xb_X8_isTree_7), (28, xb_X8_isTree_28), (29, xb_X8_isTree_29), (61, xb_X8_isTree_61), (62, xb_X8_isTree_62), (69, xb_X8_isTree_69), (72, xb_X8_isTree_72), (101, xb_X8_isTree_101), (105, xb_X8_isTree_105), (106, xb_X8_isTree_106), (113, xb_X8_isTree_113), (126, xb_X8_isTree_126), (127, xb_X8_isTree_127)])
noncomputable def xb_X8_laysTrees_0 : List xI := [(.iconst 0, 1, 0, 0), (.istore_n 1, 1, 0, 0), (.iconst 1, 1, 0, 0), (.istore_n 2, 1, 0, 0)]
noncomputable def xb_X8_laysTrees_4 : List xI := [(.iload_n 2, 1, 0, 0), (.bipush 6, 2, 0, 0), (.if_icmp .gt 87, 3, 94, 0), (.aload_n 0, 1, 0, 0), (.getfield 43, 3, 7, 13), (.iload_n 2, 1, 0, 0), (.iload_n 1, 1, 0, 0), (.iastore, 1, 0, 0), (.iconst 1, 1, 0, 0), (.istore_n 3, 1, 0, 0), (.iconst 0, 1, 0, 0), (.istore 4, 2, 0, 0)]
noncomputable def xb_X8_laysTrees_22 : List xI := [(.iload 4, 2, 0, 0), (.iload_n 2, 1, 0, 0), (.if_icmp .ge 15, 3, 40, 0), (.iload_n 3, 1, 0, 0), (.iload_n 2, 1, 0, 0), (.iconst 1, 1, 0, 0), (.iadd, 1, 0, 0), (.imul, 1, 0, 0), (.istore_n 3, 1, 0, 0), (.iinc 4 1, 3, 0, 0), (.goto (-15), 3, 22, 0)]
noncomputable def xb_X8_laysTrees_40 : List xI := [(.iconst 0, 1, 0, 0), (.istore 4, 2, 0, 0)]
noncomputable def xb_X8_laysTrees_43 : List xI := [(.iload 4, 2, 0, 0), (.iload_n 3, 1, 0, 0), (.if_icmp .ge 42, 3, 88, 0), (.aload_n 0, 1, 0, 0), (.iload 4, 2, 0, 0), (.iload_n 2, 1, 0, 0), (.invokevirtual 74, 3, 8, 3), (.iload_n 1, 1, 0, 0), (.sipush 911, 3, 0, 0), (.if_icmp .ge 22, 3, 82, 0), (.aload_n 0, 1, 0, 0), (.iload_n 2, 1, 0, 0), (.invokevirtual 78, 3, 11, 2), (.ifCond .eq 14, 3, 82, 0), (.aload_n 0, 1, 0, 0), (.getfield 40, 3, 7, 12), (.iload_n 1, 1, 0, 0), (.iload 4, 2, 0, 0), (.iastore, 1, 0, 0), (.iinc 1 1, 3, 0, 0)]
noncomputable def xb_X8_laysTrees_82 : List xI := [(.iinc 4 1, 3, 0, 0), (.goto (-42), 3, 43, 0)]
noncomputable def xb_X8_laysTrees_88 : List xI := [(.iinc 2 1, 3, 0, 0), (.goto (-87), 3, 4, 0)]
noncomputable def xb_X8_laysTrees_94 : List xI := [(.aload_n 0, 1, 0, 0), (.getfield 43, 3, 7, 13), (.bipush 7, 2, 0, 0), (.iload_n 1, 1, 0, 0), (.iastore, 1, 0, 0), (.return_, 1, 0, 0)]
noncomputable def xm_X8_laysTrees : xM := (⟨"PathReaderModel", "laysTrees", "()V"⟩, 7, cX8_laysTrees, 5, none, 3, 73, 1, 7, 0, [(0, xb_X8_laysTrees_0), (4, xb_X8_laysTrees_4), (22, xb_X8_laysTrees_22), (40, xb_X8_laysTrees_40), (43, xb_X8_laysTrees_43), (82, xb_X8_laysTrees_82), (88, xb_X8_laysTrees_88), (94, xb_X8_laysTrees_94)])
noncomputable def xb_X8_init_0 : List xI := [(.aload_n 0, 1, 0, 0), (.invokespecial 1, 3, 1000, 0), (.aload_n 0, 1, 0, 0), (.sipush 149, 3, 0, 0), (.newarray .int, 2, 0, 0), (.putfield 7, 3, 7, 0), (.aload_n 0, 1, 0, 0), (.sipush 149, 3, 0, 0), (.newarray .int, 2, 0, 0), (.putfield 13, 3, 7, 1), (.aload_n 0, 1, 0, 0), (.sipush 894, 3, 0, 0), (.newarray .int, 2, 0, 0), (.putfield 16, 3, 7, 2), (.aload_n 0, 1, 0, 0), (.iconst 3, 1, 0, 0), (.newarray .int, 2, 0, 0), (.putfield 19, 3, 7, 4), (.aload_n 0, 1, 0, 0), (.bipush 120, 2, 0, 0), (.newarray .int, 2, 0, 0), (.putfield 22, 3, 7, 5), (.aload_n 0, 1, 0, 0), (.bipush 7, 2, 0, 0), (.newarray .int, 2, 0, 0), (.putfield 25, 3, 7, 7), (.aload_n 0, 1, 0, 0), (.bipush 7, 2, 0, 0), (.newarray .int, 2, 0, 0), (.putfield 28, 3, 7, 8), (.aload_n 0, 1, 0, 0), (.bipush 7, 2, 0, 0), (.newarray .int, 2, 0, 0), (.putfield 31, 3, 7, 9), (.aload_n 0, 1, 0, 0), (.bipush 7, 2, 0, 0), (.newarray .int, 2, 0, 0), (.putfield 34, 3, 7, 10), (.aload_n 0, 1, 0, 0), (.bipush 7, 2, 0, 0), (.newarray .int, 2, 0, 0), (.putfield 37, 3, 7, 11), (.aload_n 0, 1, 0, 0), (.sipush 911, 3, 0, 0), (.newarray .int, 2, 0, 0), (.putfield 40, 3, 7, 12), (.aload_n 0, 1, 0, 0), (.bipush 8, 2, 0, 0), (.newarray .int, 2, 0, 0), (.putfield 43, 3, 7, 13), (.aload_n 0, 1, 0, 0), (.bipush 40, 2, 0, 0), (.newarray .int, 2, 0, 0), (.putfield 46, 3, 7, 18), (.aload_n 0, 1, 0, 0), (.bipush 41, 2, 0, 0), (.newarray .int, 2, 0, 0), (.putfield 49, 3, 7, 19), (.aload_n 0, 1, 0, 0), (.bipush 120, 2, 0, 0), (.newarray .int, 2, 0, 0), (.putfield 52, 3, 7, 20), (.iconst 0, 1, 0, 0), (.istore_n 1, 1, 0, 0)]
noncomputable def xb_X8_init_129 : List xI := [(.iload_n 1, 1, 0, 0), (.bipush 78, 2, 0, 0), (.if_icmp .ge 16, 3, 148, 0), (.aload_n 0, 1, 0, 0), (.getfield 7, 3, 7, 0), (.iload_n 1, 1, 0, 0), (.iconst (-1), 1, 0, 0), (.iastore, 1, 0, 0), (.iinc 1 1, 3, 0, 0), (.goto (-16), 3, 129, 0)]
noncomputable def xb_X8_init_148 : List xI := [(.aload_n 0, 1, 0, 0), (.getfield 7, 3, 7, 0), (.bipush 72, 2, 0, 0), (.iconst 0, 1, 0, 0), (.iastore, 1, 0, 0), (.aload_n 0, 1, 0, 0), (.getfield 7, 3, 7, 0), (.bipush 115, 2, 0, 0), (.iconst 1, 1, 0, 0), (.iastore, 1, 0, 0), (.aload_n 0, 1, 0, 0), (.getfield 7, 3, 7, 0), (.bipush 116, 2, 0, 0), (.iconst 2, 1, 0, 0), (.iastore, 1, 0, 0), (.aload_n 0, 1, 0, 0), (.getfield 7, 3, 7, 0), (.bipush 117, 2, 0, 0), (.bipush 6, 2, 0, 0), (.iastore, 1, 0, 0), (.aload_n 0, 1, 0, 0), (.invokevirtual 55, 3, 12, 1), (.return_, 1, 0, 0)]
noncomputable def xm_X8_init : xM := (⟨"PathReaderModel", "<init>", "()V"⟩, 7, cX8_init, 2, none, 4, 97, 2, 7, 0, [(0, xb_X8_init_0), (129, xb_X8_init_129), (148, xb_X8_init_148)])
noncomputable def xb_X7_isBelow_0 : List xI := [(.iload_n 0, 1, 0, 0), (.ifCond .lt 12, 3, 13, 0), (.iload_n 0, 1, 0, 0), (.iload_n 1, 1, 0, 0), (.if_icmp .ge 7, 3, 13, 0), (.iconst 1, 1, 0, 0), (.goto 4, 3, 14, 0)]
noncomputable def xb_X7_isBelow_13 : List xI := [(.iconst 0, 1, 0, 0)]
noncomputable def xb_X7_isBelow_14 : List xI := [(.ireturn, 1, 0, 0)]
noncomputable def xm_X7_isBelow : xM := (⟨"PathReader", "isBelow", "(II)Z"⟩, 6, cX7_isBelow, 2, (some .boolean), 0, 0, 0, 6, 2, [(0, xb_X7_isBelow_0), (13, xb_X7_isBelow_13), (14, xb_X7_isBelow_14)])
noncomputable def xb_X7_isRulePlace_0 : List xI := [(.iload_n 0, 1, 0, 0), (.bipush 6, 2, 0, 0), (.invokestatic 82, 3, 14, 2), (.ifCond .eq 24, 3, 30, 0), (.iload_n 1, 1, 0, 0), (.bipush 6, 2, 0, 0), (.invokestatic 82, 3, 14, 2), (.ifCond .eq 15, 3, 30, 0), (.iload_n 2, 1, 0, 0), (.iconst 2, 1, 0, 0), (.invokestatic 82, 3, 14, 2), (.ifCond .eq 7, 3, 30, 0), (.iconst 1, 1, 0, 0), (.goto 4, 3, 31, 0)]
noncomputable def xb_X7_isRulePlace_30 : List xI := [(.iconst 0, 1, 0, 0)]
noncomputable def xb_X7_isRulePlace_31 : List xI := [(.ireturn, 1, 0, 0)]
noncomputable def xm_X7_isRulePlace : xM := (⟨"PathReader", "isRulePlace", "(III)Z"⟩, 6, cX7_isRulePlace, 3, (some .boolean), 1, 21, 0, 6, 3, [(0, xb_X7_isRulePlace_0), (30, xb_X7_isRulePlace_30), (31, xb_X7_isRulePlace_31)])
noncomputable def xb_X7_isPriceOrNone_0 : List xI := [(.iload_n 0, 1, 0, 0), (.iconst (-1), 1, 0, 0), (.if_icmp .lt 13, 3, 15, 0), (.iload_n 0, 1, 0, 0), (.bipush 9, 2, 0, 0), (.if_icmp .gt 7, 3, 15, 0), (.iconst 1, 1, 0, 0), (.goto 4, 3, 16, 0)]
noncomputable def xb_X7_isPriceOrNone_15 : List xI := [(.iconst 0, 1, 0, 0)]
noncomputable def xb_X7_isPriceOrNone_16 : List xI := [(.ireturn, 1, 0, 0)]
noncomputable def xm_X7_isPriceOrNone : xM := (⟨"PathReader", "isPriceOrNone", "(I)Z"⟩, 6, cX7_isPriceOrNone, 1, (some .boolean), 0, 0, 0, 6, 1, [(0, xb_X7_isPriceOrNone_0), (15, xb_X7_isPriceOrNone_15), (16, xb_X7_isPriceOrNone_16)])
noncomputable def xb_X1_whyNoPrice_0 : List xI := [(.iload_n 1, 1, 0, 0), (.iload_n 2, 1, 0, 0), (.iload_n 3, 1, 0, 0), (.invokestatic 37, 3, 15, 3), (.ifCond .eq 15, 3, 21, 0), (.iload 4, 2, 0, 0), (.invokestatic 41, 3, 16, 1), (.ifCond .eq 7, 3, 21, 0), (.iconst 0, 1, 0, 0), (.goto 5, 3, 23, 0)]
noncomputable def xb_X1_whyNoPrice_21 : List xI := [(.bipush (-2), 2, 0, 0)]
noncomputable def xb_X1_whyNoPrice_23 : List xI := [(.ireturn, 1, 0, 0)]
noncomputable def xm_X1_whyNoPrice : xM := (⟨"PathReader$Grammar", "whyNoPrice", "(IIII)I"⟩, 1, cX1_whyNoPrice, 5, (some .int), 2, 43, 1, 1, 4, [(0, xb_X1_whyNoPrice_0), (21, xb_X1_whyNoPrice_21), (23, xb_X1_whyNoPrice_23)])
noncomputable def xb_X7_refuse_0 : List xI := [(.iload_n 1, 1, 0, 0), (.bipush (-2), 2, 0, 0), (.if_icmp .ne 16, 3, 19, 0), (.aload_n 0, 1, 0, 0), (.getfield 40, 3, 6, 5), (.iconst 0, 1, 0, 0), (.dup2, 1, 0, 0), (.iaload, 1, 0, 0), (.iconst 1, 1, 0, 0), (.iadd, 1, 0, 0), (.iastore, 1, 0, 0), (.goto 32, 3, 48, 0)]
noncomputable def xb_X7_refuse_19 : List xI := [(.iload_n 1, 1, 0, 0), (.bipush (-3), 2, 0, 0), (.if_icmp .ne 16, 3, 38, 0), (.aload_n 0, 1, 0, 0), (.getfield 40, 3, 6, 5), (.iconst 1, 1, 0, 0), (.dup2, 1, 0, 0), (.iaload, 1, 0, 0), (.iconst 1, 1, 0, 0), (.iadd, 1, 0, 0), (.iastore, 1, 0, 0), (.goto 13, 3, 48, 0)]
noncomputable def xb_X7_refuse_38 : List xI := [(.aload_n 0, 1, 0, 0), (.getfield 40, 3, 6, 5), (.iconst 2, 1, 0, 0), (.dup2, 1, 0, 0), (.iaload, 1, 0, 0), (.iconst 1, 1, 0, 0), (.iadd, 1, 0, 0), (.iastore, 1, 0, 0)]
noncomputable def xb_X7_refuse_48 : List xI := [(.iload_n 1, 1, 0, 0), (.ireturn, 1, 0, 0)]
noncomputable def xm_X7_refuse : xM := (⟨"PathReader", "refuse", "(I)I"⟩, 6, cX7_refuse, 2, (some .int), 0, 0, 1, 6, 1, [(0, xb_X7_refuse_0), (19, xb_X7_refuse_19), (38, xb_X7_refuse_38), (48, xb_X7_refuse_48)])
noncomputable def xb_X1_copyFrom_0 : List xI := [(.aload_n 1, 1, 0, 0), (.getfield 9, 3, 1, 0), (.iconst 0, 1, 0, 0), (.aload_n 0, 1, 0, 0), (.getfield 9, 3, 1, 0), (.iconst 0, 1, 0, 0), (.aload_n 0, 1, 0, 0), (.getfield 9, 3, 1, 0), (.arraylength, 1, 0, 0), (.invokestatic 31, 3, 1001, 0), (.aload_n 1, 1, 0, 0), (.getfield 15, 3, 1, 1), (.iconst 0, 1, 0, 0), (.aload_n 0, 1, 0, 0), (.getfield 15, 3, 1, 1), (.iconst 0, 1, 0, 0), (.aload_n 0, 1, 0, 0), (.getfield 15, 3, 1, 1), (.arraylength, 1, 0, 0), (.invokestatic 31, 3, 1001, 0), (.aload_n 1, 1, 0, 0), (.getfield 18, 3, 1, 2), (.iconst 0, 1, 0, 0), (.aload_n 0, 1, 0, 0), (.getfield 18, 3, 1, 2), (.iconst 0, 1, 0, 0), (.aload_n 0, 1, 0, 0), (.getfield 18, 3, 1, 2), (.arraylength, 1, 0, 0), (.invokestatic 31, 3, 1001, 0), (.aload_n 1, 1, 0, 0), (.getfield 21, 3, 1, 3), (.iconst 0, 1, 0, 0), (.aload_n 0, 1, 0, 0), (.getfield 21, 3, 1, 3), (.iconst 0, 1, 0, 0), (.aload_n 0, 1, 0, 0), (.getfield 21, 3, 1, 3), (.arraylength, 1, 0, 0), (.invokestatic 31, 3, 1001, 0), (.aload_n 1, 1, 0, 0), (.getfield 24, 3, 1, 4), (.iconst 0, 1, 0, 0), (.aload_n 0, 1, 0, 0), (.getfield 24, 3, 1, 4), (.iconst 0, 1, 0, 0), (.aload_n 0, 1, 0, 0), (.getfield 24, 3, 1, 4), (.arraylength, 1, 0, 0), (.invokestatic 31, 3, 1001, 0), (.aload_n 0, 1, 0, 0), (.aload_n 1, 1, 0, 0), (.getfield 27, 3, 1, 5), (.putfield 27, 3, 1, 5), (.return_, 1, 0, 0)]
noncomputable def xm_X1_copyFrom : xM := (⟨"PathReader$Grammar", "copyFrom", "(LPathReader$Grammar;)V"⟩, 1, cX1_copyFrom, 2, none, 1, 26, 1, 1, 1, [(0, xb_X1_copyFrom_0)])
noncomputable def xb_X4_copyFrom_0 : List xI := [(.aload_n 1, 1, 0, 0), (.getfield 9, 3, 3, 0), (.iconst 0, 1, 0, 0), (.aload_n 0, 1, 0, 0), (.getfield 9, 3, 3, 0), (.iconst 0, 1, 0, 0), (.aload_n 0, 1, 0, 0), (.getfield 9, 3, 3, 0), (.arraylength, 1, 0, 0), (.invokestatic 31, 3, 1001, 0), (.aload_n 1, 1, 0, 0), (.getfield 15, 3, 3, 1), (.iconst 0, 1, 0, 0), (.aload_n 0, 1, 0, 0), (.getfield 15, 3, 3, 1), (.iconst 0, 1, 0, 0), (.aload_n 0, 1, 0, 0), (.getfield 15, 3, 3, 1), (.arraylength, 1, 0, 0), (.invokestatic 31, 3, 1001, 0), (.aload_n 1, 1, 0, 0), (.getfield 18, 3, 3, 2), (.iconst 0, 1, 0, 0), (.aload_n 0, 1, 0, 0), (.getfield 18, 3, 3, 2), (.iconst 0, 1, 0, 0), (.aload_n 0, 1, 0, 0), (.getfield 18, 3, 3, 2), (.arraylength, 1, 0, 0), (.invokestatic 31, 3, 1001, 0), (.aload_n 1, 1, 0, 0), (.getfield 21, 3, 3, 3), (.iconst 0, 1, 0, 0), (.aload_n 0, 1, 0, 0), (.getfield 21, 3, 3, 3), (.iconst 0, 1, 0, 0), (.aload_n 0, 1, 0, 0), (.getfield 21, 3, 3, 3), (.arraylength, 1, 0, 0), (.invokestatic 31, 3, 1001, 0), (.aload_n 1, 1, 0, 0), (.getfield 24, 3, 3, 4), (.iconst 0, 1, 0, 0), (.aload_n 0, 1, 0, 0), (.getfield 24, 3, 3, 4), (.iconst 0, 1, 0, 0), (.aload_n 0, 1, 0, 0), (.getfield 24, 3, 3, 4), (.arraylength, 1, 0, 0), (.invokestatic 31, 3, 1001, 0), (.aload_n 0, 1, 0, 0), (.aload_n 1, 1, 0, 0), (.getfield 27, 3, 3, 5), (.putfield 27, 3, 3, 5), (.return_, 1, 0, 0)]
noncomputable def xm_X4_copyFrom : xM := (⟨"PathReader$Sentence", "copyFrom", "(LPathReader$Sentence;)V"⟩, 3, cX4_copyFrom, 2, none, 1, 26, 1, 3, 1, [(0, xb_X4_copyFrom_0)])
noncomputable def xb_X6_copyFrom_0 : List xI := [(.aload_n 0, 1, 0, 0), (.getfield 12, 3, 5, 0), (.aload_n 1, 1, 0, 0), (.getfield 12, 3, 5, 0), (.invokevirtual 25, 3, 19, 2), (.aload_n 0, 1, 0, 0), (.getfield 21, 3, 5, 1), (.aload_n 1, 1, 0, 0), (.getfield 21, 3, 5, 1), (.invokevirtual 29, 3, 20, 2), (.return_, 1, 0, 0)]
noncomputable def xm_X6_copyFrom : xM := (⟨"PathReader$State", "copyFrom", "(LPathReader$State;)V"⟩, 5, cX6_copyFrom, 2, none, 2, 47, 1, 5, 1, [(0, xb_X6_copyFrom_0)])
noncomputable def xb_X5_push_0 : List xI := [(.aload_n 0, 1, 0, 0), (.getfield 11, 3, 4, 0), (.aload_n 0, 1, 0, 0), (.getfield 17, 3, 4, 1), (.aaload, 1, 0, 0), (.aload_n 1, 1, 0, 0), (.invokevirtual 25, 3, 21, 2), (.aload_n 0, 1, 0, 0), (.aload_n 0, 1, 0, 0), (.getfield 17, 3, 4, 1), (.iconst 1, 1, 0, 0), (.iadd, 1, 0, 0), (.bipush 6, 2, 0, 0), (.irem, 1, 0, 0), (.putfield 17, 3, 4, 1), (.aload_n 0, 1, 0, 0), (.aload_n 0, 1, 0, 0), (.getfield 21, 3, 4, 2), (.iconst 1, 1, 0, 0), (.iadd, 1, 0, 0), (.bipush 6, 2, 0, 0), (.invokestatic 29, 3, 1003, 0), (.putfield 21, 3, 4, 2), (.return_, 1, 0, 0)]
noncomputable def xm_X5_push : xM := (⟨"PathReader$Shelf", "push", "(LPathReader$State;)V"⟩, 4, cX5_push, 2, none, 3, 68, 1, 4, 1, [(0, xb_X5_push_0)])
noncomputable def xb_X1_putPrice_0 : List xI := [(.iload_n 1, 1, 0, 0), (.bipush 6, 2, 0, 0), (.imul, 1, 0, 0), (.iload_n 2, 1, 0, 0), (.iadd, 1, 0, 0), (.iconst 2, 1, 0, 0), (.imul, 1, 0, 0), (.iload_n 3, 1, 0, 0), (.iadd, 1, 0, 0), (.istore 5, 2, 0, 0), (.aload_n 0, 1, 0, 0), (.getfield 9, 3, 1, 0), (.iload 5, 2, 0, 0), (.iaload, 1, 0, 0), (.istore 6, 2, 0, 0), (.aload_n 0, 1, 0, 0), (.getfield 9, 3, 1, 0), (.iload 5, 2, 0, 0), (.iload 4, 2, 0, 0), (.iastore, 1, 0, 0), (.iload 6, 2, 0, 0), (.ireturn, 1, 0, 0)]
noncomputable def xm_X1_putPrice : xM := (⟨"PathReader$Grammar", "putPrice", "(IIII)I"⟩, 1, cX1_putPrice, 7, (some .int), 0, 0, 1, 1, 4, [(0, xb_X1_putPrice_0)])
noncomputable def xb_X7_rules_0 : List xI := [(.aload_n 0, 1, 0, 0), (.getfield 10, 3, 6, 0), (.getfield 44, 3, 5, 0), (.iload_n 1, 1, 0, 0), (.iload_n 2, 1, 0, 0), (.iload_n 3, 1, 0, 0), (.iload 4, 2, 0, 0), (.invokevirtual 48, 3, 17, 5), (.istore 5, 2, 0, 0), (.iload 5, 2, 0, 0), (.ifCond .eq 10, 3, 29, 0), (.aload_n 0, 1, 0, 0), (.iload 5, 2, 0, 0), (.invokevirtual 54, 3, 18, 2), (.ireturn, 1, 0, 0)]
noncomputable def xb_X7_rules_29 : List xI := [(.aload_n 0, 1, 0, 0), (.getfield 22, 3, 6, 2), (.aload_n 0, 1, 0, 0), (.getfield 10, 3, 6, 0), (.invokevirtual 58, 3, 22, 2), (.aload_n 0, 1, 0, 0), (.getfield 10, 3, 6, 0), (.getfield 44, 3, 5, 0), (.iload_n 1, 1, 0, 0), (.iload_n 2, 1, 0, 0), (.iload_n 3, 1, 0, 0), (.iload 4, 2, 0, 0), (.invokevirtual 62, 3, 23, 5), (.ireturn, 1, 0, 0)]
noncomputable def xm_X7_rules : xM := (⟨"PathReader", "rules", "(IIII)I"⟩, 6, cX7_rules, 6, (some .int), 4, 89, 1, 6, 4, [(0, xb_X7_rules_0), (29, xb_X7_rules_29)])
noncomputable def xb_X8_in_0 : List xI := [(.iload_n 0, 1, 0, 0), (.iload_n 1, 1, 0, 0), (.if_icmp .lt 12, 3, 14, 0), (.iload_n 0, 1, 0, 0), (.iload_n 2, 1, 0, 0), (.if_icmp .gt 7, 3, 14, 0), (.iconst 1, 1, 0, 0), (.goto 4, 3, 15, 0)]
noncomputable def xb_X8_in_14 : List xI := [(.iconst 0, 1, 0, 0)]
noncomputable def xb_X8_in_15 : List xI := [(.ireturn, 1, 0, 0)]
noncomputable def xm_X8_in : xM := (⟨"PathReaderModel", "in", "(III)Z"⟩, 7, cX8_in, 3, (some .boolean), 0, 0, 0, 7, 3, [(0, xb_X8_in_0), (14, xb_X8_in_14), (15, xb_X8_in_15)])
noncomputable def xb_X8_isSort_0 : List xI := [(.iload_n 0, 1, 0, 0), (.iconst 0, 1, 0, 0), (.iconst 5, 1, 0, 0), (.invokestatic 81, 3, 25, 3), (.ireturn, 1, 0, 0)]
noncomputable def xm_X8_isSort : xM := (⟨"PathReaderModel", "isSort", "(I)Z"⟩, 7, cX8_isSort, 1, (some .boolean), 1, 22, 0, 7, 1, [(0, xb_X8_isSort_0)])
noncomputable def xb_X8_isRule_0 : List xI := [(.iload_n 0, 1, 0, 0), (.invokestatic 85, 3, 26, 1), (.ifCond .eq 23, 3, 27, 0), (.iload_n 1, 1, 0, 0), (.invokestatic 85, 3, 26, 1), (.ifCond .eq 16, 3, 27, 0), (.iload_n 2, 1, 0, 0), (.iconst 0, 1, 0, 0), (.iconst 1, 1, 0, 0), (.invokestatic 81, 3, 25, 3), (.ifCond .eq 7, 3, 27, 0), (.iconst 1, 1, 0, 0), (.goto 4, 3, 28, 0)]
noncomputable def xb_X8_isRule_27 : List xI := [(.iconst 0, 1, 0, 0)]
noncomputable def xb_X8_isRule_28 : List xI := [(.ireturn, 1, 0, 0)]
noncomputable def xm_X8_isRule : xM := (⟨"PathReaderModel", "isRule", "(III)Z"⟩, 7, cX8_isRule, 3, (some .boolean), 2, 42, 0, 7, 3, [(0, xb_X8_isRule_0), (27, xb_X8_isRule_27), (28, xb_X8_isRule_28)])
noncomputable def xb_X8_isPrice_0 : List xI := [(.iload_n 0, 1, 0, 0), (.iconst (-1), 1, 0, 0), (.bipush 9, 2, 0, 0), (.invokestatic 81, 3, 25, 3), (.ireturn, 1, 0, 0)]
noncomputable def xm_X8_isPrice : xM := (⟨"PathReaderModel", "isPrice", "(I)Z"⟩, 7, cX8_isPrice, 1, (some .boolean), 1, 22, 0, 7, 1, [(0, xb_X8_isPrice_0)])
noncomputable def xb_X8_bad_0 : List xI := [(.aload_n 0, 1, 0, 0), (.getfield 19, 3, 7, 4), (.iconst 0, 1, 0, 0), (.dup2, 1, 0, 0), (.iaload, 1, 0, 0), (.iconst 1, 1, 0, 0), (.iadd, 1, 0, 0), (.iastore, 1, 0, 0), (.bipush (-2), 2, 0, 0), (.ireturn, 1, 0, 0)]
noncomputable def xm_X8_bad : xM := (⟨"PathReaderModel", "bad", "()I"⟩, 7, cX8_bad, 1, (some .int), 0, 0, 1, 7, 0, [(0, xb_X8_bad_0)])
noncomputable def xb_X8_remembers_0 : List xI := [(.aload_n 0, 1, 0, 0), (.getfield 58, 3, 7, 3), (.bipush 6, 2, 0, 0), (.if_icmp .ne 44, 3, 50, 0), (.iconst 0, 1, 0, 0), (.istore_n 1, 1, 0, 0)]
noncomputable def xb_X8_remembers_11 : List xI := [(.iload_n 1, 1, 0, 0), (.sipush 745, 3, 0, 0), (.if_icmp .ge 25, 3, 40, 0), (.aload_n 0, 1, 0, 0), (.getfield 16, 3, 7, 2), (.iload_n 1, 1, 0, 0), (.aload_n 0, 1, 0, 0), (.getfield 16, 3, 7, 2), (.iload_n 1, 1, 0, 0), (.sipush 149, 3, 0, 0), (.iadd, 1, 0, 0), (.iaload, 1, 0, 0), (.iastore, 1, 0, 0), (.iinc 1 1, 3, 0, 0), (.goto (-26), 3, 11, 0)]
noncomputable def xb_X8_remembers_40 : List xI := [(.aload_n 0, 1, 0, 0), (.dup, 1, 0, 0), (.getfield 58, 3, 7, 3), (.iconst 1, 1, 0, 0), (.isub, 1, 0, 0), (.putfield 58, 3, 7, 3)]
noncomputable def xb_X8_remembers_50 : List xI := [(.iconst 0, 1, 0, 0), (.istore_n 1, 1, 0, 0)]
noncomputable def xb_X8_remembers_52 : List xI := [(.iload_n 1, 1, 0, 0), (.sipush 149, 3, 0, 0), (.if_icmp .ge 30, 3, 86, 0), (.aload_n 0, 1, 0, 0), (.getfield 16, 3, 7, 2), (.sipush 149, 3, 0, 0), (.aload_n 0, 1, 0, 0), (.getfield 58, 3, 7, 3), (.imul, 1, 0, 0), (.iload_n 1, 1, 0, 0), (.iadd, 1, 0, 0), (.aload_n 0, 1, 0, 0), (.getfield 7, 3, 7, 0), (.iload_n 1, 1, 0, 0), (.iaload, 1, 0, 0), (.iastore, 1, 0, 0), (.iinc 1 1, 3, 0, 0), (.goto (-31), 3, 52, 0)]
noncomputable def xb_X8_remembers_86 : List xI := [(.aload_n 0, 1, 0, 0), (.dup, 1, 0, 0), (.getfield 58, 3, 7, 3), (.iconst 1, 1, 0, 0), (.iadd, 1, 0, 0), (.putfield 58, 3, 7, 3), (.return_, 1, 0, 0)]
noncomputable def xm_X8_remembers : xM := (⟨"PathReaderModel", "remembers", "()V"⟩, 7, cX8_remembers, 2, none, 0, 0, 1, 7, 0, [(0, xb_X8_remembers_0), (11, xb_X8_remembers_11), (40, xb_X8_remembers_40), (50, xb_X8_remembers_50), (52, xb_X8_remembers_52), (86, xb_X8_remembers_86)])
noncomputable def xb_X8_ruleAt_0 : List xI := [(.iconst 0, 1, 0, 0), (.bipush 12, 2, 0, 0), (.iload_n 0, 1, 0, 0), (.imul, 1, 0, 0), (.iadd, 1, 0, 0), (.iconst 2, 1, 0, 0), (.iload_n 1, 1, 0, 0), (.imul, 1, 0, 0), (.iadd, 1, 0, 0), (.iload_n 2, 1, 0, 0), (.iadd, 1, 0, 0), (.ireturn, 1, 0, 0)]
noncomputable def xm_X8_ruleAt : xM := (⟨"PathReaderModel", "ruleAt", "(III)I"⟩, 7, cX8_ruleAt, 3, (some .int), 0, 0, 0, 7, 3, [(0, xb_X8_ruleAt_0)])
noncomputable def xb_X8_exchanges_0 : List xI := [(.aload_n 0, 1, 0, 0), (.getfield 7, 3, 7, 0), (.iload_n 1, 1, 0, 0), (.iaload, 1, 0, 0), (.istore_n 3, 1, 0, 0), (.aload_n 0, 1, 0, 0), (.getfield 7, 3, 7, 0), (.iload_n 1, 1, 0, 0), (.iload_n 2, 1, 0, 0), (.iastore, 1, 0, 0), (.iload_n 3, 1, 0, 0), (.ireturn, 1, 0, 0)]
noncomputable def xm_X8_exchanges : xM := (⟨"PathReaderModel", "exchanges", "(II)I"⟩, 7, cX8_exchanges, 4, (some .int), 0, 0, 1, 7, 2, [(0, xb_X8_exchanges_0)])
noncomputable def xb_X8_rules_0 : List xI := [(.iload_n 1, 1, 0, 0), (.iload_n 2, 1, 0, 0), (.iload_n 3, 1, 0, 0), (.invokestatic 88, 3, 27, 3), (.ifCond .eq 11, 3, 17, 0), (.iload 4, 2, 0, 0), (.invokestatic 91, 3, 28, 1), (.ifCond .ne 8, 3, 22, 0)]
noncomputable def xb_X8_rules_17 : List xI := [(.aload_n 0, 1, 0, 0), (.invokevirtual 94, 3, 29, 1), (.ireturn, 1, 0, 0)]
noncomputable def xb_X8_rules_22 : List xI := [(.aload_n 0, 1, 0, 0), (.invokevirtual 97, 3, 30, 1), (.aload_n 0, 1, 0, 0), (.iload_n 1, 1, 0, 0), (.iload_n 2, 1, 0, 0), (.iload_n 3, 1, 0, 0), (.invokestatic 100, 3, 31, 3), (.iload 4, 2, 0, 0), (.invokevirtual 104, 3, 32, 3), (.ireturn, 1, 0, 0)]
noncomputable def xm_X8_rules : xM := (⟨"PathReaderModel", "rules", "(IIII)I"⟩, 7, cX8_rules, 5, (some .int), 3, 64, 1, 7, 4, [(0, xb_X8_rules_0), (17, xb_X8_rules_17), (22, xb_X8_rules_22)])
noncomputable def xb_X1_whyNoRootPrice_0 : List xI := [(.iload_n 1, 1, 0, 0), (.bipush 6, 2, 0, 0), (.invokestatic 45, 3, 14, 2), (.ifCond .eq 14, 3, 20, 0), (.iload_n 2, 1, 0, 0), (.invokestatic 41, 3, 16, 1), (.ifCond .eq 7, 3, 20, 0), (.iconst 0, 1, 0, 0), (.goto 5, 3, 22, 0)]
noncomputable def xb_X1_whyNoRootPrice_20 : List xI := [(.bipush (-2), 2, 0, 0)]
noncomputable def xb_X1_whyNoRootPrice_22 : List xI := [(.ireturn, 1, 0, 0)]
noncomputable def xm_X1_whyNoRootPrice : xM := (⟨"PathReader$Grammar", "whyNoRootPrice", "(II)I"⟩, 1, cX1_whyNoRootPrice, 3, (some .int), 1, 21, 1, 1, 2, [(0, xb_X1_whyNoRootPrice_0), (20, xb_X1_whyNoRootPrice_20), (22, xb_X1_whyNoRootPrice_22)])
noncomputable def xb_X1_putRootPrice_0 : List xI := [(.aload_n 0, 1, 0, 0), (.getfield 15, 3, 1, 1), (.iload_n 1, 1, 0, 0), (.iaload, 1, 0, 0), (.istore_n 3, 1, 0, 0), (.aload_n 0, 1, 0, 0), (.getfield 15, 3, 1, 1), (.iload_n 1, 1, 0, 0), (.iload_n 2, 1, 0, 0), (.iastore, 1, 0, 0), (.iload_n 3, 1, 0, 0), (.ireturn, 1, 0, 0)]
noncomputable def xm_X1_putRootPrice : xM := (⟨"PathReader$Grammar", "putRootPrice", "(II)I"⟩, 1, cX1_putRootPrice, 4, (some .int), 0, 0, 1, 1, 2, [(0, xb_X1_putRootPrice_0)])
noncomputable def xb_X7_roots_0 : List xI := [(.aload_n 0, 1, 0, 0), (.getfield 10, 3, 6, 0), (.getfield 44, 3, 5, 0), (.iload_n 1, 1, 0, 0), (.iload_n 2, 1, 0, 0), (.invokevirtual 65, 3, 34, 3), (.istore_n 3, 1, 0, 0), (.iload_n 3, 1, 0, 0), (.ifCond .eq 9, 3, 23, 0), (.aload_n 0, 1, 0, 0), (.iload_n 3, 1, 0, 0), (.invokevirtual 54, 3, 18, 2), (.ireturn, 1, 0, 0)]
noncomputable def xb_X7_roots_23 : List xI := [(.aload_n 0, 1, 0, 0), (.getfield 22, 3, 6, 2), (.aload_n 0, 1, 0, 0), (.getfield 10, 3, 6, 0), (.invokevirtual 58, 3, 22, 2), (.aload_n 0, 1, 0, 0), (.getfield 10, 3, 6, 0), (.getfield 44, 3, 5, 0), (.iload_n 1, 1, 0, 0), (.iload_n 2, 1, 0, 0), (.invokevirtual 69, 3, 35, 3), (.ireturn, 1, 0, 0)]
noncomputable def xm_X7_roots : xM := (⟨"PathReader", "roots", "(II)I"⟩, 6, cX7_roots, 4, (some .int), 4, 89, 1, 6, 2, [(0, xb_X7_roots_0), (23, xb_X7_roots_23)])
noncomputable def xb_X8_roots_0 : List xI := [(.iload_n 1, 1, 0, 0), (.invokestatic 85, 3, 26, 1), (.ifCond .eq 10, 3, 14, 0), (.iload_n 2, 1, 0, 0), (.invokestatic 91, 3, 28, 1), (.ifCond .ne 8, 3, 19, 0)]
noncomputable def xb_X8_roots_14 : List xI := [(.aload_n 0, 1, 0, 0), (.invokevirtual 94, 3, 29, 1), (.ireturn, 1, 0, 0)]
noncomputable def xb_X8_roots_19 : List xI := [(.aload_n 0, 1, 0, 0), (.invokevirtual 97, 3, 30, 1), (.aload_n 0, 1, 0, 0), (.bipush 72, 2, 0, 0), (.iload_n 1, 1, 0, 0), (.iadd, 1, 0, 0), (.iload_n 2, 1, 0, 0), (.invokevirtual 104, 3, 32, 3), (.ireturn, 1, 0, 0)]
noncomputable def xm_X8_roots : xM := (⟨"PathReaderModel", "roots", "(II)I"⟩, 7, cX8_roots, 3, (some .int), 2, 42, 1, 7, 2, [(0, xb_X8_roots_0), (14, xb_X8_roots_14), (19, xb_X8_roots_19)])
noncomputable def xb_X1_whyNoEntry_0 : List xI := [(.iload_n 1, 1, 0, 0), (.bipush 6, 2, 0, 0), (.invokestatic 45, 3, 14, 2), (.ifCond .eq 26, 3, 32, 0), (.iload_n 2, 1, 0, 0), (.iconst (-1), 1, 0, 0), (.if_icmp .eq 12, 3, 23, 0), (.iload_n 2, 1, 0, 0), (.bipush 6, 2, 0, 0), (.invokestatic 45, 3, 14, 2), (.ifCond .eq 12, 3, 32, 0)]
noncomputable def xb_X1_whyNoEntry_23 : List xI := [(.iload_n 2, 1, 0, 0), (.iload_n 1, 1, 0, 0), (.if_icmp .eq 7, 3, 32, 0), (.iconst 1, 1, 0, 0), (.goto 4, 3, 33, 0)]
noncomputable def xb_X1_whyNoEntry_32 : List xI := [(.iconst 0, 1, 0, 0)]
noncomputable def xb_X1_whyNoEntry_33 : List xI := [(.istore 4, 2, 0, 0), (.iload_n 2, 1, 0, 0), (.iconst (-1), 1, 0, 0), (.if_icmp .ne 15, 3, 52, 0), (.iload_n 3, 1, 0, 0), (.ifCond .ne 7, 3, 48, 0), (.iconst 1, 1, 0, 0), (.goto 22, 3, 67, 0)]
noncomputable def xb_X1_whyNoEntry_48 : List xI := [(.iconst 0, 1, 0, 0), (.goto 18, 3, 67, 0)]
noncomputable def xb_X1_whyNoEntry_52 : List xI := [(.iload_n 3, 1, 0, 0), (.ifCond .lt 13, 3, 66, 0), (.iload_n 3, 1, 0, 0), (.bipush 9, 2, 0, 0), (.if_icmp .gt 7, 3, 66, 0), (.iconst 1, 1, 0, 0), (.goto 4, 3, 67, 0)]
noncomputable def xb_X1_whyNoEntry_66 : List xI := [(.iconst 0, 1, 0, 0)]
noncomputable def xb_X1_whyNoEntry_67 : List xI := [(.istore 5, 2, 0, 0), (.iload 4, 2, 0, 0), (.ifCond .eq 8, 3, 79, 0), (.iload 5, 2, 0, 0), (.ifCond .ne 6, 3, 82, 0)]
noncomputable def xb_X1_whyNoEntry_79 : List xI := [(.bipush (-2), 2, 0, 0), (.ireturn, 1, 0, 0)]
noncomputable def xb_X1_whyNoEntry_82 : List xI := [(.aload_n 0, 1, 0, 0), (.getfield 27, 3, 1, 5), (.bipush 12, 2, 0, 0), (.if_icmp .lt 8, 3, 96, 0), (.bipush (-4), 2, 0, 0), (.goto 4, 3, 97, 0)]
noncomputable def xb_X1_whyNoEntry_96 : List xI := [(.iconst 0, 1, 0, 0)]
noncomputable def xb_X1_whyNoEntry_97 : List xI := [(.ireturn, 1, 0, 0)]
noncomputable def xm_X1_whyNoEntry : xM := (⟨"PathReader$Grammar", "whyNoEntry", "(III)I"⟩, 1, cX1_whyNoEntry, 6, (some .int), 1, 21, 1, 1, 3, [(0, xb_X1_whyNoEntry_0), (23, xb_X1_whyNoEntry_23), (32, xb_X1_whyNoEntry_32), (33, xb_X1_whyNoEntry_33), (48, xb_X1_whyNoEntry_48), (52, xb_X1_whyNoEntry_52), (66, xb_X1_whyNoEntry_66), (67, xb_X1_whyNoEntry_67), (79, xb_X1_whyNoEntry_79), (82, xb_X1_whyNoEntry_82), (96, xb_X1_whyNoEntry_96), (97, xb_X1_whyNoEntry_97)])
noncomputable def xb_X1_addEntry_0 : List xI := [(.aload_n 0, 1, 0, 0), (.getfield 27, 3, 1, 5), (.istore 4, 2, 0, 0), (.aload_n 0, 1, 0, 0), (.getfield 18, 3, 1, 2), (.iload 4, 2, 0, 0), (.iconst 2, 1, 0, 0), (.imul, 1, 0, 0), (.iload_n 1, 1, 0, 0), (.iastore, 1, 0, 0), (.aload_n 0, 1, 0, 0), (.getfield 18, 3, 1, 2), (.iload 4, 2, 0, 0), (.iconst 2, 1, 0, 0), (.imul, 1, 0, 0), (.iconst 1, 1, 0, 0), (.iadd, 1, 0, 0), (.iload_n 2, 1, 0, 0), (.iastore, 1, 0, 0), (.aload_n 0, 1, 0, 0), (.getfield 21, 3, 1, 3), (.iload 4, 2, 0, 0), (.iload_n 3, 1, 0, 0), (.iastore, 1, 0, 0), (.aload_n 0, 1, 0, 0), (.dup, 1, 0, 0), (.getfield 27, 3, 1, 5), (.iconst 1, 1, 0, 0), (.iadd, 1, 0, 0), (.putfield 27, 3, 1, 5), (.iload 4, 2, 0, 0), (.ireturn, 1, 0, 0)]
noncomputable def xm_X1_addEntry : xM := (⟨"PathReader$Grammar", "addEntry", "(III)I"⟩, 1, cX1_addEntry, 5, (some .int), 0, 0, 1, 1, 3, [(0, xb_X1_addEntry_0)])
noncomputable def xb_X7_entry_0 : List xI := [(.aload_n 0, 1, 0, 0), (.getfield 10, 3, 6, 0), (.getfield 44, 3, 5, 0), (.iload_n 1, 1, 0, 0), (.iload_n 2, 1, 0, 0), (.iload_n 3, 1, 0, 0), (.invokevirtual 72, 3, 38, 4), (.istore 4, 2, 0, 0), (.iload 4, 2, 0, 0), (.ifCond .eq 10, 3, 27, 0), (.aload_n 0, 1, 0, 0), (.iload 4, 2, 0, 0), (.invokevirtual 54, 3, 18, 2), (.ireturn, 1, 0, 0)]
noncomputable def xb_X7_entry_27 : List xI := [(.aload_n 0, 1, 0, 0), (.getfield 22, 3, 6, 2), (.aload_n 0, 1, 0, 0), (.getfield 10, 3, 6, 0), (.invokevirtual 58, 3, 22, 2), (.aload_n 0, 1, 0, 0), (.getfield 10, 3, 6, 0), (.getfield 44, 3, 5, 0), (.iload_n 1, 1, 0, 0), (.iload_n 2, 1, 0, 0), (.iload_n 3, 1, 0, 0), (.invokevirtual 76, 3, 39, 4), (.ireturn, 1, 0, 0)]
noncomputable def xm_X7_entry : xM := (⟨"PathReader", "entry", "(III)I"⟩, 6, cX7_entry, 5, (some .int), 4, 89, 1, 6, 3, [(0, xb_X7_entry_0), (27, xb_X7_entry_27)])
noncomputable def xb_X8_canEnter_0 : List xI := [(.iload_n 1, 1, 0, 0), (.invokestatic 85, 3, 26, 1), (.ifCond .eq 12, 3, 16, 0), (.iload_n 1, 1, 0, 0), (.iload_n 0, 1, 0, 0), (.if_icmp .eq 7, 3, 16, 0), (.iconst 1, 1, 0, 0), (.goto 4, 3, 17, 0)]
noncomputable def xb_X8_canEnter_16 : List xI := [(.iconst 0, 1, 0, 0)]
noncomputable def xb_X8_canEnter_17 : List xI := [(.istore_n 3, 1, 0, 0), (.iload_n 0, 1, 0, 0), (.invokestatic 85, 3, 26, 1), (.ifCond .eq 30, 3, 52, 0), (.iload_n 2, 1, 0, 0), (.iconst 0, 1, 0, 0), (.bipush 9, 2, 0, 0), (.invokestatic 81, 3, 25, 3), (.ifCond .eq 20, 3, 52, 0), (.iload_n 3, 1, 0, 0), (.ifCond .ne 12, 3, 48, 0), (.iload_n 1, 1, 0, 0), (.iconst (-1), 1, 0, 0), (.if_icmp .ne 11, 3, 52, 0), (.iload_n 2, 1, 0, 0), (.ifCond .ne 7, 3, 52, 0)]
noncomputable def xb_X8_canEnter_48 : List xI := [(.iconst 1, 1, 0, 0), (.goto 4, 3, 53, 0)]
noncomputable def xb_X8_canEnter_52 : List xI := [(.iconst 0, 1, 0, 0)]
noncomputable def xb_X8_canEnter_53 : List xI := [(.ireturn, 1, 0, 0)]
noncomputable def xm_X8_canEnter : xM := (⟨"PathReaderModel", "canEnter", "(III)Z"⟩, 7, cX8_canEnter, 4, (some .boolean), 2, 42, 0, 7, 3, [(0, xb_X8_canEnter_0), (16, xb_X8_canEnter_16), (17, xb_X8_canEnter_17), (48, xb_X8_canEnter_48), (52, xb_X8_canEnter_52), (53, xb_X8_canEnter_53)])
noncomputable def xb_X8_full_0 : List xI := [(.aload_n 0, 1, 0, 0), (.getfield 19, 3, 7, 4), (.iconst 2, 1, 0, 0), (.dup2, 1, 0, 0), (.iaload, 1, 0, 0), (.iconst 1, 1, 0, 0), (.iadd, 1, 0, 0), (.iastore, 1, 0, 0), (.bipush (-4), 2, 0, 0), (.ireturn, 1, 0, 0)]
noncomputable def xm_X8_full : xM := (⟨"PathReaderModel", "full", "()I"⟩, 7, cX8_full, 1, (some .int), 0, 0, 1, 7, 0, [(0, xb_X8_full_0)])
noncomputable def xb_X8_enters_0 : List xI := [(.bipush 79, 2, 0, 0), (.iconst 3, 1, 0, 0), (.aload_n 0, 1, 0, 0), (.getfield 7, 3, 7, 0), (.bipush 78, 2, 0, 0), (.iaload, 1, 0, 0), (.imul, 1, 0, 0), (.iadd, 1, 0, 0), (.istore 4, 2, 0, 0), (.aload_n 0, 1, 0, 0), (.getfield 7, 3, 7, 0), (.iload 4, 2, 0, 0), (.iload_n 1, 1, 0, 0), (.iastore, 1, 0, 0), (.aload_n 0, 1, 0, 0), (.getfield 7, 3, 7, 0), (.iload 4, 2, 0, 0), (.iconst 1, 1, 0, 0), (.iadd, 1, 0, 0), (.iload_n 2, 1, 0, 0), (.iastore, 1, 0, 0), (.aload_n 0, 1, 0, 0), (.getfield 7, 3, 7, 0), (.iload 4, 2, 0, 0), (.iconst 2, 1, 0, 0), (.iadd, 1, 0, 0), (.iload_n 3, 1, 0, 0), (.iastore, 1, 0, 0), (.aload_n 0, 1, 0, 0), (.getfield 7, 3, 7, 0), (.bipush 78, 2, 0, 0), (.dup2, 1, 0, 0), (.iaload, 1, 0, 0), (.iconst 1, 1, 0, 0), (.iadd, 1, 0, 0), (.iastore, 1, 0, 0), (.aload_n 0, 1, 0, 0), (.getfield 7, 3, 7, 0), (.bipush 78, 2, 0, 0), (.iaload, 1, 0, 0), (.iconst 1, 1, 0, 0), (.isub, 1, 0, 0), (.ireturn, 1, 0, 0)]
noncomputable def xm_X8_enters : xM := (⟨"PathReaderModel", "enters", "(III)I"⟩, 7, cX8_enters, 5, (some .int), 0, 0, 1, 7, 3, [(0, xb_X8_enters_0)])
noncomputable def xb_X8_entry_0 : List xI := [(.iload_n 1, 1, 0, 0), (.iload_n 2, 1, 0, 0), (.iload_n 3, 1, 0, 0), (.invokestatic 108, 3, 41, 3), (.ifCond .ne 8, 3, 14, 0), (.aload_n 0, 1, 0, 0), (.invokevirtual 94, 3, 29, 1), (.ireturn, 1, 0, 0)]
noncomputable def xb_X8_entry_14 : List xI := [(.aload_n 0, 1, 0, 0), (.getfield 7, 3, 7, 0), (.bipush 78, 2, 0, 0), (.iaload, 1, 0, 0), (.bipush 12, 2, 0, 0), (.if_icmp .ne 8, 3, 31, 0), (.aload_n 0, 1, 0, 0), (.invokevirtual 111, 3, 42, 1), (.ireturn, 1, 0, 0)]
noncomputable def xb_X8_entry_31 : List xI := [(.aload_n 0, 1, 0, 0), (.invokevirtual 97, 3, 30, 1), (.aload_n 0, 1, 0, 0), (.iload_n 1, 1, 0, 0), (.iload_n 2, 1, 0, 0), (.iload_n 3, 1, 0, 0), (.invokevirtual 114, 3, 43, 4), (.ireturn, 1, 0, 0)]
noncomputable def xm_X8_entry : xM := (⟨"PathReaderModel", "entry", "(III)I"⟩, 7, cX8_entry, 4, (some .int), 3, 65, 1, 7, 3, [(0, xb_X8_entry_0), (14, xb_X8_entry_14), (31, xb_X8_entry_31)])
noncomputable def xb_X1_putSetting_0 : List xI := [(.aload_n 0, 1, 0, 0), (.getfield 24, 3, 1, 4), (.iload_n 1, 1, 0, 0), (.iaload, 1, 0, 0), (.istore_n 3, 1, 0, 0), (.aload_n 0, 1, 0, 0), (.getfield 24, 3, 1, 4), (.iload_n 1, 1, 0, 0), (.iload_n 2, 1, 0, 0), (.iastore, 1, 0, 0), (.iload_n 3, 1, 0, 0), (.ireturn, 1, 0, 0)]
noncomputable def xm_X1_putSetting : xM := (⟨"PathReader$Grammar", "putSetting", "(II)I"⟩, 1, cX1_putSetting, 4, (some .int), 0, 0, 1, 1, 2, [(0, xb_X1_putSetting_0)])
noncomputable def xb_X7_sets_0 : List xI := [(.iload_n 1, 1, 0, 0), (.getstatic 79, 3, 0, 0), (.arraylength, 1, 0, 0), (.invokestatic 82, 3, 14, 2), (.ifCond .eq 16, 3, 24, 0), (.iload_n 2, 1, 0, 0), (.ifCond .lt 12, 3, 24, 0), (.iload_n 2, 1, 0, 0), (.getstatic 79, 3, 0, 0), (.iload_n 1, 1, 0, 0), (.iaload, 1, 0, 0), (.if_icmp .le 10, 3, 31, 0)]
noncomputable def xb_X7_sets_24 : List xI := [(.aload_n 0, 1, 0, 0), (.bipush (-2), 2, 0, 0), (.invokevirtual 54, 3, 18, 2), (.ireturn, 1, 0, 0)]
noncomputable def xb_X7_sets_31 : List xI := [(.aload_n 0, 1, 0, 0), (.getfield 22, 3, 6, 2), (.aload_n 0, 1, 0, 0), (.getfield 10, 3, 6, 0), (.invokevirtual 58, 3, 22, 2), (.aload_n 0, 1, 0, 0), (.getfield 10, 3, 6, 0), (.getfield 44, 3, 5, 0), (.iload_n 1, 1, 0, 0), (.iload_n 2, 1, 0, 0), (.invokevirtual 86, 3, 45, 3), (.ireturn, 1, 0, 0)]
noncomputable def xm_X7_sets : xM := (⟨"PathReader", "sets", "(II)I"⟩, 6, cX7_sets, 3, (some .int), 4, 89, 1, 6, 2, [(0, xb_X7_sets_0), (24, xb_X7_sets_24), (31, xb_X7_sets_31)])
noncomputable def xb_X8_sets_0 : List xI := [(.iload_n 1, 1, 0, 0), (.iconst 0, 1, 0, 0), (.iconst 2, 1, 0, 0), (.invokestatic 81, 3, 25, 3), (.ifCond .eq 31, 3, 37, 0), (.iload_n 2, 1, 0, 0), (.iconst 0, 1, 0, 0), (.iload_n 1, 1, 0, 0), (.ifCond .ne 7, 3, 19, 0), (.iconst 3, 1, 0, 0), (.goto 15, 3, 31, 0)]
noncomputable def xb_X8_sets_19 : List xI := [(.iload_n 1, 1, 0, 0), (.iconst 1, 1, 0, 0), (.if_icmp .ne 8, 3, 29, 0), (.bipush 9, 2, 0, 0), (.goto 5, 3, 31, 0)]
noncomputable def xb_X8_sets_29 : List xI := [(.bipush 99, 2, 0, 0)]
noncomputable def xb_X8_sets_31 : List xI := [(.invokestatic 81, 3, 25, 3), (.ifCond .ne 8, 3, 42, 0)]
noncomputable def xb_X8_sets_37 : List xI := [(.aload_n 0, 1, 0, 0), (.invokevirtual 94, 3, 29, 1), (.ireturn, 1, 0, 0)]
noncomputable def xb_X8_sets_42 : List xI := [(.aload_n 0, 1, 0, 0), (.invokevirtual 97, 3, 30, 1), (.aload_n 0, 1, 0, 0), (.bipush 115, 2, 0, 0), (.iload_n 1, 1, 0, 0), (.iadd, 1, 0, 0), (.iload_n 2, 1, 0, 0), (.invokevirtual 104, 3, 32, 3), (.ireturn, 1, 0, 0)]
noncomputable def xm_X8_sets : xM := (⟨"PathReaderModel", "sets", "(II)I"⟩, 7, cX8_sets, 3, (some .int), 1, 23, 1, 7, 2, [(0, xb_X8_sets_0), (19, xb_X8_sets_19), (29, xb_X8_sets_29), (31, xb_X8_sets_31), (37, xb_X8_sets_37), (42, xb_X8_sets_42)])
noncomputable def xb_X1_price_0 : List xI := [(.aload_n 0, 1, 0, 0), (.getfield 9, 3, 1, 0), (.iload_n 1, 1, 0, 0), (.bipush 6, 2, 0, 0), (.imul, 1, 0, 0), (.iload_n 2, 1, 0, 0), (.iadd, 1, 0, 0), (.iconst 2, 1, 0, 0), (.imul, 1, 0, 0), (.iload_n 3, 1, 0, 0), (.iadd, 1, 0, 0), (.iaload, 1, 0, 0), (.ireturn, 1, 0, 0)]
noncomputable def xm_X1_price : xM := (⟨"PathReader$Grammar", "price", "(III)I"⟩, 1, cX1_price, 4, (some .int), 0, 0, 1, 1, 3, [(0, xb_X1_price_0)])
noncomputable def xb_X7_rule_0 : List xI := [(.iload_n 1, 1, 0, 0), (.iload_n 2, 1, 0, 0), (.iload_n 3, 1, 0, 0), (.invokestatic 89, 3, 15, 3), (.ifCond .ne 10, 3, 16, 0), (.aload_n 0, 1, 0, 0), (.bipush (-2), 2, 0, 0), (.invokevirtual 54, 3, 18, 2), (.ireturn, 1, 0, 0)]
noncomputable def xb_X7_rule_16 : List xI := [(.aload_n 0, 1, 0, 0), (.getfield 10, 3, 6, 0), (.getfield 44, 3, 5, 0), (.iload_n 1, 1, 0, 0), (.iload_n 2, 1, 0, 0), (.iload_n 3, 1, 0, 0), (.invokevirtual 93, 3, 48, 4), (.ireturn, 1, 0, 0)]
noncomputable def xm_X7_rule : xM := (⟨"PathReader", "rule", "(III)I"⟩, 6, cX7_rule, 4, (some .int), 2, 43, 1, 6, 3, [(0, xb_X7_rule_0), (16, xb_X7_rule_16)])
noncomputable def xb_X8_rule_0 : List xI := [(.iload_n 1, 1, 0, 0), (.iload_n 2, 1, 0, 0), (.iload_n 3, 1, 0, 0), (.invokestatic 88, 3, 27, 3), (.ifCond .eq 17, 3, 23, 0), (.aload_n 0, 1, 0, 0), (.getfield 7, 3, 7, 0), (.iload_n 1, 1, 0, 0), (.iload_n 2, 1, 0, 0), (.iload_n 3, 1, 0, 0), (.invokestatic 100, 3, 31, 3), (.iaload, 1, 0, 0), (.goto 7, 3, 27, 0)]
noncomputable def xb_X8_rule_23 : List xI := [(.aload_n 0, 1, 0, 0), (.invokevirtual 94, 3, 29, 1)]
noncomputable def xb_X8_rule_27 : List xI := [(.ireturn, 1, 0, 0)]
noncomputable def xm_X8_rule : xM := (⟨"PathReaderModel", "rule", "(III)I"⟩, 7, cX8_rule, 4, (some .int), 3, 64, 1, 7, 3, [(0, xb_X8_rule_0), (23, xb_X8_rule_23), (27, xb_X8_rule_27)])
noncomputable def xb_X1_hasEntry_0 : List xI := [(.iload_n 1, 1, 0, 0), (.aload_n 0, 1, 0, 0), (.getfield 27, 3, 1, 5), (.invokestatic 45, 3, 14, 2), (.ireturn, 1, 0, 0)]
noncomputable def xm_X1_hasEntry : xM := (⟨"PathReader$Grammar", "hasEntry", "(I)Z"⟩, 1, cX1_hasEntry, 2, (some .boolean), 1, 21, 1, 1, 1, [(0, xb_X1_hasEntry_0)])
noncomputable def xb_X1_sortOf_0 : List xI := [(.aload_n 0, 1, 0, 0), (.getfield 18, 3, 1, 2), (.iload_n 1, 1, 0, 0), (.iconst 2, 1, 0, 0), (.imul, 1, 0, 0), (.iload_n 2, 1, 0, 0), (.iadd, 1, 0, 0), (.iaload, 1, 0, 0), (.ireturn, 1, 0, 0)]
noncomputable def xm_X1_sortOf : xM := (⟨"PathReader$Grammar", "sortOf", "(II)I"⟩, 1, cX1_sortOf, 3, (some .int), 0, 0, 1, 1, 2, [(0, xb_X1_sortOf_0)])
noncomputable def xb_X1_extraOf_0 : List xI := [(.iload_n 2, 1, 0, 0), (.iconst 1, 1, 0, 0), (.if_icmp .ne 12, 3, 14, 0), (.aload_n 0, 1, 0, 0), (.getfield 21, 3, 1, 3), (.iload_n 1, 1, 0, 0), (.iaload, 1, 0, 0), (.goto 4, 3, 15, 0)]
noncomputable def xb_X1_extraOf_14 : List xI := [(.iconst 0, 1, 0, 0)]
noncomputable def xb_X1_extraOf_15 : List xI := [(.ireturn, 1, 0, 0)]
noncomputable def xm_X1_extraOf : xM := (⟨"PathReader$Grammar", "extraOf", "(II)I"⟩, 1, cX1_extraOf, 3, (some .int), 0, 0, 1, 1, 2, [(0, xb_X1_extraOf_0), (14, xb_X1_extraOf_14), (15, xb_X1_extraOf_15)])
noncomputable def xb_X7_of_0 : List xI := [(.aload_n 0, 1, 0, 0), (.getfield 10, 3, 6, 0), (.getfield 44, 3, 5, 0), (.iload_n 1, 1, 0, 0), (.invokevirtual 96, 3, 51, 2), (.ifCond .eq 11, 3, 22, 0), (.iload_n 2, 1, 0, 0), (.iconst 3, 1, 0, 0), (.invokestatic 82, 3, 14, 2), (.ifCond .ne 10, 3, 29, 0)]
noncomputable def xb_X7_of_22 : List xI := [(.aload_n 0, 1, 0, 0), (.bipush (-2), 2, 0, 0), (.invokevirtual 54, 3, 18, 2), (.ireturn, 1, 0, 0)]
noncomputable def xb_X7_of_29 : List xI := [(.iload_n 2, 1, 0, 0), (.iconst 2, 1, 0, 0), (.if_icmp .ge 18, 3, 49, 0), (.aload_n 0, 1, 0, 0), (.getfield 10, 3, 6, 0), (.getfield 44, 3, 5, 0), (.iload_n 1, 1, 0, 0), (.iload_n 2, 1, 0, 0), (.invokevirtual 100, 3, 52, 3), (.goto 15, 3, 61, 0)]
noncomputable def xb_X7_of_49 : List xI := [(.aload_n 0, 1, 0, 0), (.getfield 10, 3, 6, 0), (.getfield 44, 3, 5, 0), (.iload_n 1, 1, 0, 0), (.iconst 1, 1, 0, 0), (.invokevirtual 103, 3, 53, 3)]
noncomputable def xb_X7_of_61 : List xI := [(.ireturn, 1, 0, 0)]
noncomputable def xm_X7_of : xM := (⟨"PathReader", "of", "(II)I"⟩, 6, cX7_of, 3, (some .int), 2, 42, 1, 6, 2, [(0, xb_X7_of_0), (22, xb_X7_of_22), (29, xb_X7_of_29), (49, xb_X7_of_49), (61, xb_X7_of_61)])
noncomputable def xb_X8_isEntry_0 : List xI := [(.iload_n 1, 1, 0, 0), (.iconst 0, 1, 0, 0), (.aload_n 0, 1, 0, 0), (.getfield 7, 3, 7, 0), (.bipush 78, 2, 0, 0), (.iaload, 1, 0, 0), (.iconst 1, 1, 0, 0), (.isub, 1, 0, 0), (.invokestatic 81, 3, 25, 3), (.ireturn, 1, 0, 0)]
noncomputable def xm_X8_isEntry : xM := (⟨"PathReaderModel", "isEntry", "(I)Z"⟩, 7, cX8_isEntry, 2, (some .boolean), 1, 22, 1, 7, 1, [(0, xb_X8_isEntry_0)])
noncomputable def xb_X8_of_0 : List xI := [(.aload_n 0, 1, 0, 0), (.iload_n 1, 1, 0, 0), (.invokevirtual 117, 3, 55, 2), (.ifCond .eq 28, 3, 33, 0), (.iload_n 2, 1, 0, 0), (.iconst 0, 1, 0, 0), (.iconst 2, 1, 0, 0), (.invokestatic 81, 3, 25, 3), (.ifCond .eq 19, 3, 33, 0), (.aload_n 0, 1, 0, 0), (.getfield 7, 3, 7, 0), (.bipush 79, 2, 0, 0), (.iconst 3, 1, 0, 0), (.iload_n 1, 1, 0, 0), (.imul, 1, 0, 0), (.iadd, 1, 0, 0), (.iload_n 2, 1, 0, 0), (.iadd, 1, 0, 0), (.iaload, 1, 0, 0), (.goto 7, 3, 37, 0)]
noncomputable def xb_X8_of_33 : List xI := [(.aload_n 0, 1, 0, 0), (.invokevirtual 94, 3, 29, 1)]
noncomputable def xb_X8_of_37 : List xI := [(.ireturn, 1, 0, 0)]
noncomputable def xm_X8_of : xM := (⟨"PathReaderModel", "of", "(II)I"⟩, 7, cX8_of, 3, (some .int), 2, 43, 1, 7, 2, [(0, xb_X8_of_0), (33, xb_X8_of_33), (37, xb_X8_of_37)])
noncomputable def xb_X6_whyNoWord_0 : List xI := [(.aload_n 0, 1, 0, 0), (.getfield 12, 3, 5, 0), (.iload_n 1, 1, 0, 0), (.invokevirtual 32, 3, 51, 2), (.ifCond .ne 6, 3, 14, 0), (.bipush (-2), 2, 0, 0), (.ireturn, 1, 0, 0)]
noncomputable def xb_X6_whyNoWord_14 : List xI := [(.aload_n 0, 1, 0, 0), (.getfield 21, 3, 5, 1), (.getfield 36, 3, 3, 5), (.bipush 6, 2, 0, 0), (.if_icmp .lt 8, 3, 31, 0), (.bipush (-4), 2, 0, 0), (.goto 4, 3, 32, 0)]
noncomputable def xb_X6_whyNoWord_31 : List xI := [(.iconst 0, 1, 0, 0)]
noncomputable def xb_X6_whyNoWord_32 : List xI := [(.ireturn, 1, 0, 0)]
noncomputable def xm_X6_whyNoWord : xM := (⟨"PathReader$State", "whyNoWord", "(I)I"⟩, 5, cX6_whyNoWord, 2, (some .int), 2, 42, 1, 5, 1, [(0, xb_X6_whyNoWord_0), (14, xb_X6_whyNoWord_14), (31, xb_X6_whyNoWord_31), (32, xb_X6_whyNoWord_32)])
noncomputable def xb_X4_heldRow_0 : List xI := [(.aload_n 0, 1, 0, 0), (.getfield 15, 3, 3, 1), (.aload_n 0, 1, 0, 0), (.getfield 27, 3, 3, 5), (.iaload, 1, 0, 0), (.ireturn, 1, 0, 0)]
noncomputable def xm_X4_heldRow : xM := (⟨"PathReader$Sentence", "heldRow", "()I"⟩, 3, cX4_heldRow, 1, (some .int), 0, 0, 1, 3, 0, [(0, xb_X4_heldRow_0)])
noncomputable def xb_X4_isStuck_0 : List xI := [(.aload_n 0, 1, 0, 0), (.getfield 27, 3, 3, 5), (.ifCond .le 15, 3, 19, 0), (.aload_n 0, 1, 0, 0), (.invokevirtual 37, 3, 58, 1), (.iconst (-1), 1, 0, 0), (.if_icmp .ne 7, 3, 19, 0), (.iconst 1, 1, 0, 0), (.goto 4, 3, 20, 0)]
noncomputable def xb_X4_isStuck_19 : List xI := [(.iconst 0, 1, 0, 0)]
noncomputable def xb_X4_isStuck_20 : List xI := [(.ireturn, 1, 0, 0)]
noncomputable def xm_X4_isStuck : xM := (⟨"PathReader$Sentence", "isStuck", "()Z"⟩, 3, cX4_isStuck, 1, (some .boolean), 1, 20, 1, 3, 0, [(0, xb_X4_isStuck_0), (19, xb_X4_isStuck_19), (20, xb_X4_isStuck_20)])
noncomputable def xb_X2_headOf_0 : List xI := [(.iload_n 0, 1, 0, 0), (.iconst 4, 1, 0, 0), (.bipush 6, 2, 0, 0), (.iload_n 1, 1, 0, 0), (.isub, 1, 0, 0), (.imul, 1, 0, 0), (.ishr, 1, 0, 0), (.bipush 7, 2, 0, 0), (.iand, 1, 0, 0), (.ireturn, 1, 0, 0)]
noncomputable def xm_X2_headOf : xM := (⟨"PathReader$Row", "headOf", "(II)I"⟩, 8, cX2_headOf, 2, (some .int), 0, 0, 0, 0, 2, [(0, xb_X2_headOf_0)])
noncomputable def xb_X2_readingOf_0 : List xI := [(.iload_n 0, 1, 0, 0), (.iconst 4, 1, 0, 0), (.bipush 6, 2, 0, 0), (.iload_n 1, 1, 0, 0), (.isub, 1, 0, 0), (.imul, 1, 0, 0), (.iconst 3, 1, 0, 0), (.iadd, 1, 0, 0), (.ishr, 1, 0, 0), (.iconst 1, 1, 0, 0), (.iand, 1, 0, 0), (.ireturn, 1, 0, 0)]
noncomputable def xm_X2_readingOf : xM := (⟨"PathReader$Row", "readingOf", "(II)I"⟩, 8, cX2_readingOf, 2, (some .int), 0, 0, 0, 0, 2, [(0, xb_X2_readingOf_0)])
noncomputable def xb_X0_repairOf_0 : List xI := [(.aload_n 0, 1, 0, 0), (.getfield 56, 3, 3, 5), (.istore 5, 2, 0, 0), (.iload_n 1, 1, 0, 0), (.ifCond .eq 9, 3, 16, 0), (.iload_n 2, 1, 0, 0), (.iload 5, 2, 0, 0), (.if_icmp .lt 5, 3, 18, 0)]
noncomputable def xb_X0_repairOf_16 : List xI := [(.iconst 0, 1, 0, 0), (.ireturn, 1, 0, 0)]
noncomputable def xb_X0_repairOf_18 : List xI := [(.aload_n 0, 1, 0, 0), (.getfield 123, 3, 3, 1), (.iload 5, 2, 0, 0), (.iconst 1, 1, 0, 0), (.isub, 1, 0, 0), (.iaload, 1, 0, 0), (.istore 6, 2, 0, 0), (.iload 6, 2, 0, 0), (.iload_n 2, 1, 0, 0), (.invokestatic 126, 3, 60, 2), (.istore 7, 2, 0, 0), (.iload_n 3, 1, 0, 0), (.iload 6, 2, 0, 0), (.iload_n 2, 1, 0, 0), (.invokestatic 129, 3, 61, 2), (.if_icmp .ne 15, 3, 59, 0), (.iload 7, 2, 0, 0), (.ifCond .eq 14, 3, 63, 0), (.iload 7, 2, 0, 0), (.iload 4, 2, 0, 0), (.if_icmp .eq 7, 3, 63, 0)]
noncomputable def xb_X0_repairOf_59 : List xI := [(.iconst 1, 1, 0, 0), (.goto 4, 3, 64, 0)]
noncomputable def xb_X0_repairOf_63 : List xI := [(.iconst 0, 1, 0, 0)]
noncomputable def xb_X0_repairOf_64 : List xI := [(.istore 8, 2, 0, 0), (.iload 8, 2, 0, 0), (.ifCond .eq 12, 3, 80, 0), (.iload_n 1, 1, 0, 0), (.iload 5, 2, 0, 0), (.iload_n 2, 1, 0, 0), (.isub, 1, 0, 0), (.imul, 1, 0, 0), (.goto 4, 3, 81, 0)]
noncomputable def xb_X0_repairOf_80 : List xI := [(.iconst 0, 1, 0, 0)]
noncomputable def xb_X0_repairOf_81 : List xI := [(.ireturn, 1, 0, 0)]
noncomputable def xm_X0_repairOf : xM := (⟨"PathReader$Chart", "repairOf", "(LPathReader$Sentence;IIII)I"⟩, 0, cX0_repairOf, 9, (some .int), 1, 21, 0, 0, 5, [(0, xb_X0_repairOf_0), (16, xb_X0_repairOf_16), (18, xb_X0_repairOf_18), (59, xb_X0_repairOf_59), (63, xb_X0_repairOf_63), (64, xb_X0_repairOf_64), (80, xb_X0_repairOf_80), (81, xb_X0_repairOf_81)])
noncomputable def xb_X2_part_0 : List xI := [(.iload_n 1, 1, 0, 0), (.iconst 3, 1, 0, 0), (.ishl, 1, 0, 0), (.iload_n 2, 1, 0, 0), (.ior, 1, 0, 0), (.iconst 4, 1, 0, 0), (.bipush 6, 2, 0, 0), (.iload_n 0, 1, 0, 0), (.isub, 1, 0, 0), (.imul, 1, 0, 0), (.ishl, 1, 0, 0), (.ireturn, 1, 0, 0)]
noncomputable def xm_X2_part : xM := (⟨"PathReader$Row", "part", "(III)I"⟩, 8, cX2_part, 3, (some .int), 0, 0, 0, 0, 3, [(0, xb_X2_part_0)])
noncomputable def xb_X0_costOfLink_0 : List xI := [(.aload_n 0, 1, 0, 0), (.getfield 92, 3, 5, 0), (.astore 5, 2, 0, 0), (.aload_n 0, 1, 0, 0), (.getfield 50, 3, 5, 1), (.getfield 96, 3, 3, 0), (.iload_n 1, 1, 0, 0), (.iaload, 1, 0, 0), (.istore 6, 2, 0, 0), (.aload 5, 2, 0, 0), (.iload 6, 2, 0, 0), (.iload_n 2, 1, 0, 0), (.invokevirtual 99, 3, 52, 3), (.istore 7, 2, 0, 0), (.aload 5, 2, 0, 0), (.aload_n 0, 1, 0, 0), (.getfield 50, 3, 5, 1), (.getfield 96, 3, 3, 0), (.iload_n 3, 1, 0, 0), (.iaload, 1, 0, 0), (.iload 4, 2, 0, 0), (.invokevirtual 99, 3, 52, 3), (.istore 8, 2, 0, 0), (.iload 7, 2, 0, 0), (.iconst (-1), 1, 0, 0), (.if_icmp .eq 9, 3, 57, 0), (.iload 8, 2, 0, 0), (.iconst (-1), 1, 0, 0), (.if_icmp .ne 5, 3, 59, 0)]
noncomputable def xb_X0_costOfLink_57 : List xI := [(.iconst (-1), 1, 0, 0), (.ireturn, 1, 0, 0)]
noncomputable def xb_X0_costOfLink_59 : List xI := [(.aload 5, 2, 0, 0), (.iload 8, 2, 0, 0), (.iload 7, 2, 0, 0), (.iload_n 1, 1, 0, 0), (.iload_n 3, 1, 0, 0), (.if_icmp .ge 7, 3, 74, 0), (.iconst 0, 1, 0, 0), (.goto 4, 3, 75, 0)]
noncomputable def xb_X0_costOfLink_74 : List xI := [(.iconst 1, 1, 0, 0)]
noncomputable def xb_X0_costOfLink_75 : List xI := [(.invokevirtual 105, 3, 48, 4), (.istore 9, 2, 0, 0), (.iload 9, 2, 0, 0), (.iconst (-1), 1, 0, 0), (.if_icmp .ne 5, 3, 88, 0), (.iconst (-1), 1, 0, 0), (.ireturn, 1, 0, 0)]
noncomputable def xb_X0_costOfLink_88 : List xI := [(.iload_n 1, 1, 0, 0), (.iload_n 3, 1, 0, 0), (.isub, 1, 0, 0), (.invokestatic 108, 3, 1004, 0), (.iconst 1, 1, 0, 0), (.isub, 1, 0, 0), (.istore 10, 2, 0, 0), (.iload 9, 2, 0, 0), (.aload 5, 2, 0, 0), (.iload 6, 2, 0, 0), (.iload_n 2, 1, 0, 0), (.invokevirtual 114, 3, 53, 3), (.iadd, 1, 0, 0), (.aload 5, 2, 0, 0), (.getfield 117, 3, 1, 4), (.iconst 0, 1, 0, 0), (.iaload, 1, 0, 0), (.iload 10, 2, 0, 0), (.imul, 1, 0, 0), (.iadd, 1, 0, 0), (.ireturn, 1, 0, 0)]
noncomputable def xm_X0_costOfLink : xM := (⟨"PathReader$Chart", "costOfLink", "(LPathReader$State;IIII)I"⟩, 0, cX0_costOfLink, 11, (some .int), 1, 30, 0, 0, 5, [(0, xb_X0_costOfLink_0), (57, xb_X0_costOfLink_57), (59, xb_X0_costOfLink_59), (74, xb_X0_costOfLink_74), (75, xb_X0_costOfLink_75), (88, xb_X0_costOfLink_88)])
noncomputable def xb_X0_linkPlace_0 : List xI := [(.iload_n 0, 1, 0, 0), (.iconst 2, 1, 0, 0), (.imul, 1, 0, 0), (.iload_n 1, 1, 0, 0), (.iadd, 1, 0, 0), (.bipush 8, 2, 0, 0), (.imul, 1, 0, 0), (.iload_n 2, 1, 0, 0), (.iadd, 1, 0, 0), (.iconst 2, 1, 0, 0), (.imul, 1, 0, 0), (.iload_n 3, 1, 0, 0), (.iadd, 1, 0, 0), (.ireturn, 1, 0, 0)]
noncomputable def xm_X0_linkPlace : xM := (⟨"PathReader$Chart", "linkPlace", "(IIII)I"⟩, 0, cX0_linkPlace, 4, (some .int), 0, 0, 0, 0, 4, [(0, xb_X0_linkPlace_0)])
noncomputable def xb_X0_share_0 : List xI := [(.iload_n 0, 1, 0, 0), (.iconst (-1), 1, 0, 0), (.if_icmp .ne 7, 3, 9, 0), (.ldc2_w 30, 3, 288230376151711744, 0), (.lreturn, 1, 0, 0)]
noncomputable def xb_X0_share_9 : List xI := [(.iload_n 0, 1, 0, 0), (.iload_n 1, 1, 0, 0), (.iadd, 1, 0, 0), (.i2l, 1, 0, 0), (.bipush 36, 2, 0, 0), (.lshl, 1, 0, 0), (.iload_n 1, 1, 0, 0), (.i2l, 1, 0, 0), (.bipush 24, 2, 0, 0), (.lshl, 1, 0, 0), (.ladd, 1, 0, 0), (.iload_n 2, 1, 0, 0), (.i2l, 1, 0, 0), (.ladd, 1, 0, 0), (.lreturn, 1, 0, 0)]
noncomputable def xm_X0_share : xM := (⟨"PathReader$Chart", "share", "(III)J"⟩, 0, cX0_share, 3, (some .long), 0, 0, 0, 0, 3, [(0, xb_X0_share_0), (9, xb_X0_share_9)])
noncomputable def xb_X0_reckonLinks_0 : List xI := [(.iconst 1, 1, 0, 0), (.istore 4, 2, 0, 0)]
noncomputable def xb_X0_reckonLinks_3 : List xI := [(.iload 4, 2, 0, 0), (.aload_n 1, 1, 0, 0), (.getfield 50, 3, 5, 1), (.getfield 56, 3, 3, 5), (.if_icmp .gt 110, 3, 122, 0), (.iload 4, 2, 0, 0), (.iload_n 3, 1, 0, 0), (.if_icmp .ne 6, 3, 24, 0), (.goto 95, 3, 116, 0)]
noncomputable def xb_X0_reckonLinks_24 : List xI := [(.iconst 0, 1, 0, 0), (.istore 5, 2, 0, 0)]
noncomputable def xb_X0_reckonLinks_27 : List xI := [(.iload 5, 2, 0, 0), (.iconst 2, 1, 0, 0), (.if_icmp .ge 86, 3, 116, 0), (.aload_n 1, 1, 0, 0), (.getfield 50, 3, 5, 1), (.iload_n 2, 1, 0, 0), (.iload_n 3, 1, 0, 0), (.iload 5, 2, 0, 0), (.iload 4, 2, 0, 0), (.invokestatic 73, 3, 62, 5), (.istore 6, 2, 0, 0), (.iload_n 3, 1, 0, 0), (.iload 5, 2, 0, 0), (.iload 4, 2, 0, 0), (.invokestatic 77, 3, 63, 3), (.istore 7, 2, 0, 0), (.iconst 0, 1, 0, 0), (.istore 8, 2, 0, 0)]
noncomputable def xb_X0_reckonLinks_61 : List xI := [(.iload 8, 2, 0, 0), (.iconst 2, 1, 0, 0), (.if_icmp .ge 46, 3, 110, 0), (.aload_n 1, 1, 0, 0), (.iload_n 3, 1, 0, 0), (.iload 5, 2, 0, 0), (.iload 4, 2, 0, 0), (.iload 8, 2, 0, 0), (.invokestatic 81, 3, 64, 5), (.istore 9, 2, 0, 0), (.aload_n 0, 1, 0, 0), (.getfield 13, 3, 0, 0), (.iload_n 3, 1, 0, 0), (.iload 5, 2, 0, 0), (.iload 4, 2, 0, 0), (.iload 8, 2, 0, 0), (.invokestatic 85, 3, 65, 4), (.iload 9, 2, 0, 0), (.iload 6, 2, 0, 0), (.iload 7, 2, 0, 0), (.invokestatic 88, 3, 66, 3), (.lastore, 1, 0, 0), (.iinc 8 1, 3, 0, 0), (.goto (-46), 3, 61, 0)]
noncomputable def xb_X0_reckonLinks_110 : List xI := [(.iinc 5 1, 3, 0, 0), (.goto (-86), 3, 27, 0)]
noncomputable def xb_X0_reckonLinks_116 : List xI := [(.iinc 4 1, 3, 0, 0), (.goto (-116), 3, 3, 0)]
noncomputable def xb_X0_reckonLinks_122 : List xI := [(.return_, 1, 0, 0)]
noncomputable def xm_X0_reckonLinks : xM := (⟨"PathReader$Chart", "reckonLinks", "(LPathReader$State;II)V"⟩, 0, cX0_reckonLinks, 10, none, 2, 60, 1, 0, 3, [(0, xb_X0_reckonLinks_0), (3, xb_X0_reckonLinks_3), (24, xb_X0_reckonLinks_24), (27, xb_X0_reckonLinks_27), (61, xb_X0_reckonLinks_61), (110, xb_X0_reckonLinks_110), (116, xb_X0_reckonLinks_116), (122, xb_X0_reckonLinks_122)])
noncomputable def xb_X0_reckonTree_0 : List xI := [(.ldc2_w 30, 3, 288230376151711744, 0), (.lstore 5, 2, 0, 0), (.iconst 0, 1, 0, 0), (.istore 7, 2, 0, 0), (.iload_n 1, 1, 0, 0), (.istore 8, 2, 0, 0)]
noncomputable def xb_X0_reckonTree_11 : List xI := [(.iload 8, 2, 0, 0), (.iload_n 2, 1, 0, 0), (.if_icmp .gt 123, 3, 137, 0), (.iconst 0, 1, 0, 0), (.istore 9, 2, 0, 0)]
noncomputable def xb_X0_reckonTree_20 : List xI := [(.iload 9, 2, 0, 0), (.iconst 2, 1, 0, 0), (.if_icmp .ge 108, 3, 131, 0), (.aload_n 0, 1, 0, 0), (.getfield 13, 3, 0, 0), (.iload 8, 2, 0, 0), (.iload 9, 2, 0, 0), (.iload_n 3, 1, 0, 0), (.iload 4, 2, 0, 0), (.invokestatic 85, 3, 65, 4), (.laload, 1, 0, 0), (.lstore 10, 2, 0, 0), (.lload 10, 2, 0, 0), (.ldc2_w 30, 3, 288230376151711744, 0), (.lcmp, 1, 0, 0), (.ifCond .ge 76, 3, 125, 0), (.iload_n 1, 1, 0, 0), (.iload 8, 2, 0, 0), (.iconst 1, 1, 0, 0), (.isub, 1, 0, 0), (.iload 8, 2, 0, 0), (.iload 9, 2, 0, 0), (.invokestatic 40, 3, 4, 4), (.istore 12, 2, 0, 0), (.iload 8, 2, 0, 0), (.iconst 1, 1, 0, 0), (.iadd, 1, 0, 0), (.iload_n 2, 1, 0, 0), (.iload 8, 2, 0, 0), (.iload 9, 2, 0, 0), (.invokestatic 40, 3, 4, 4), (.istore 13, 2, 0, 0), (.lload 5, 2, 0, 0), (.lload 10, 2, 0, 0), (.aload_n 0, 1, 0, 0), (.getfield 20, 3, 0, 2), (.iload 12, 2, 0, 0), (.laload, 1, 0, 0), (.ladd, 1, 0, 0), (.aload_n 0, 1, 0, 0), (.getfield 20, 3, 0, 2), (.iload 13, 2, 0, 0), (.laload, 1, 0, 0), (.ladd, 1, 0, 0), (.invokestatic 139, 3, 1005, 0), (.lstore 5, 2, 0, 0), (.iload 7, 2, 0, 0), (.aload_n 0, 1, 0, 0), (.getfield 27, 3, 0, 4), (.iload 12, 2, 0, 0), (.iaload, 1, 0, 0), (.aload_n 0, 1, 0, 0), (.getfield 27, 3, 0, 4), (.iload 13, 2, 0, 0), (.iaload, 1, 0, 0), (.imul, 1, 0, 0), (.iadd, 1, 0, 0), (.istore 7, 2, 0, 0)]
noncomputable def xb_X0_reckonTree_125 : List xI := [(.iinc 9 1, 3, 0, 0), (.goto (-108), 3, 20, 0)]
noncomputable def xb_X0_reckonTree_131 : List xI := [(.iinc 8 1, 3, 0, 0), (.goto (-123), 3, 11, 0)]
noncomputable def xb_X0_reckonTree_137 : List xI := [(.aload_n 0, 1, 0, 0), (.getfield 17, 3, 0, 1), (.iload_n 1, 1, 0, 0), (.iload_n 2, 1, 0, 0), (.iload_n 3, 1, 0, 0), (.iload 4, 2, 0, 0), (.invokestatic 40, 3, 4, 4), (.lload 5, 2, 0, 0), (.lastore, 1, 0, 0), (.aload_n 0, 1, 0, 0), (.getfield 23, 3, 0, 3), (.iload_n 1, 1, 0, 0), (.iload_n 2, 1, 0, 0), (.iload_n 3, 1, 0, 0), (.iload 4, 2, 0, 0), (.invokestatic 40, 3, 4, 4), (.iload 7, 2, 0, 0), (.iastore, 1, 0, 0), (.return_, 1, 0, 0)]
noncomputable def xm_X0_reckonTree : xM := (⟨"PathReader$Chart", "reckonTree", "(IIII)V"⟩, 0, cX0_reckonTree, 14, none, 1, 30, 1, 0, 4, [(0, xb_X0_reckonTree_0), (11, xb_X0_reckonTree_11), (20, xb_X0_reckonTree_20), (125, xb_X0_reckonTree_125), (131, xb_X0_reckonTree_131), (137, xb_X0_reckonTree_137)])
noncomputable def xb_X0_reckonTrees_0 : List xI := [(.ldc2_w 30, 3, 288230376151711744, 0), (.lstore 5, 2, 0, 0), (.iconst 0, 1, 0, 0), (.istore 7, 2, 0, 0), (.iload_n 1, 1, 0, 0), (.istore 8, 2, 0, 0)]
noncomputable def xb_X0_reckonTrees_11 : List xI := [(.iload 8, 2, 0, 0), (.iload_n 2, 1, 0, 0), (.if_icmp .gt 75, 3, 89, 0), (.iload_n 1, 1, 0, 0), (.iload 8, 2, 0, 0), (.iload_n 3, 1, 0, 0), (.iload 4, 2, 0, 0), (.invokestatic 40, 3, 4, 4), (.istore 9, 2, 0, 0), (.iload 8, 2, 0, 0), (.iconst 1, 1, 0, 0), (.iadd, 1, 0, 0), (.iload_n 2, 1, 0, 0), (.iload_n 3, 1, 0, 0), (.iload 4, 2, 0, 0), (.invokestatic 40, 3, 4, 4), (.istore 10, 2, 0, 0), (.lload 5, 2, 0, 0), (.aload_n 0, 1, 0, 0), (.getfield 17, 3, 0, 1), (.iload 9, 2, 0, 0), (.laload, 1, 0, 0), (.aload_n 0, 1, 0, 0), (.getfield 20, 3, 0, 2), (.iload 10, 2, 0, 0), (.laload, 1, 0, 0), (.ladd, 1, 0, 0), (.invokestatic 139, 3, 1005, 0), (.lstore 5, 2, 0, 0), (.iload 7, 2, 0, 0), (.aload_n 0, 1, 0, 0), (.getfield 23, 3, 0, 3), (.iload 9, 2, 0, 0), (.iaload, 1, 0, 0), (.aload_n 0, 1, 0, 0), (.getfield 27, 3, 0, 4), (.iload 10, 2, 0, 0), (.iaload, 1, 0, 0), (.imul, 1, 0, 0), (.iadd, 1, 0, 0), (.istore 7, 2, 0, 0), (.iinc 8 1, 3, 0, 0), (.goto (-75), 3, 11, 0)]
noncomputable def xb_X0_reckonTrees_89 : List xI := [(.aload_n 0, 1, 0, 0), (.getfield 20, 3, 0, 2), (.iload_n 1, 1, 0, 0), (.iload_n 2, 1, 0, 0), (.iload_n 3, 1, 0, 0), (.iload 4, 2, 0, 0), (.invokestatic 40, 3, 4, 4), (.lload 5, 2, 0, 0), (.lastore, 1, 0, 0), (.aload_n 0, 1, 0, 0), (.getfield 27, 3, 0, 4), (.iload_n 1, 1, 0, 0), (.iload_n 2, 1, 0, 0), (.iload_n 3, 1, 0, 0), (.iload 4, 2, 0, 0), (.invokestatic 40, 3, 4, 4), (.iload 7, 2, 0, 0), (.iastore, 1, 0, 0), (.return_, 1, 0, 0)]
noncomputable def xm_X0_reckonTrees : xM := (⟨"PathReader$Chart", "reckonTrees", "(IIII)V"⟩, 0, cX0_reckonTrees, 11, none, 1, 30, 1, 0, 4, [(0, xb_X0_reckonTrees_0), (11, xb_X0_reckonTrees_11), (89, xb_X0_reckonTrees_89)])
noncomputable def xb_X0_reckonSpan_0 : List xI := [(.iconst 1, 1, 0, 0), (.istore 4, 2, 0, 0)]
noncomputable def xb_X0_reckonSpan_3 : List xI := [(.iload 4, 2, 0, 0), (.iload_n 3, 1, 0, 0), (.if_icmp .gt 59, 3, 65, 0), (.iload 4, 2, 0, 0), (.iload_n 1, 1, 0, 0), (.if_icmp .lt 12, 3, 24, 0), (.iload 4, 2, 0, 0), (.iload_n 2, 1, 0, 0), (.if_icmp .gt 6, 3, 24, 0), (.goto 38, 3, 59, 0)]
noncomputable def xb_X0_reckonSpan_24 : List xI := [(.iconst 0, 1, 0, 0), (.istore 5, 2, 0, 0)]
noncomputable def xb_X0_reckonSpan_27 : List xI := [(.iload 5, 2, 0, 0), (.iconst 2, 1, 0, 0), (.if_icmp .ge 29, 3, 59, 0), (.aload_n 0, 1, 0, 0), (.iload_n 1, 1, 0, 0), (.iload_n 2, 1, 0, 0), (.iload 4, 2, 0, 0), (.iload 5, 2, 0, 0), (.invokevirtual 132, 3, 68, 5), (.aload_n 0, 1, 0, 0), (.iload_n 1, 1, 0, 0), (.iload_n 2, 1, 0, 0), (.iload 4, 2, 0, 0), (.iload 5, 2, 0, 0), (.invokevirtual 136, 3, 69, 5), (.iinc 5 1, 3, 0, 0), (.goto (-29), 3, 27, 0)]
noncomputable def xb_X0_reckonSpan_59 : List xI := [(.iinc 4 1, 3, 0, 0), (.goto (-59), 3, 3, 0)]
noncomputable def xb_X0_reckonSpan_65 : List xI := [(.return_, 1, 0, 0)]
noncomputable def xm_X0_reckonSpan : xM := (⟨"PathReader$Chart", "reckonSpan", "(III)V"⟩, 0, cX0_reckonSpan, 6, none, 2, 63, 1, 0, 3, [(0, xb_X0_reckonSpan_0), (3, xb_X0_reckonSpan_3), (24, xb_X0_reckonSpan_24), (27, xb_X0_reckonSpan_27), (59, xb_X0_reckonSpan_59), (65, xb_X0_reckonSpan_65)])
noncomputable def xb_X0_costOfRoot_0 : List xI := [(.aload_n 0, 1, 0, 0), (.getfield 50, 3, 5, 1), (.getfield 96, 3, 3, 0), (.iload_n 1, 1, 0, 0), (.iaload, 1, 0, 0), (.istore_n 3, 1, 0, 0), (.aload_n 0, 1, 0, 0), (.getfield 92, 3, 5, 0), (.iload_n 3, 1, 0, 0), (.iload_n 2, 1, 0, 0), (.invokevirtual 99, 3, 52, 3), (.istore 4, 2, 0, 0), (.iload 4, 2, 0, 0), (.iconst (-1), 1, 0, 0), (.if_icmp .eq 17, 3, 41, 0), (.aload_n 0, 1, 0, 0), (.getfield 92, 3, 5, 0), (.getfield 120, 3, 1, 1), (.iload 4, 2, 0, 0), (.iaload, 1, 0, 0), (.iconst (-1), 1, 0, 0), (.if_icmp .ne 5, 3, 43, 0)]
noncomputable def xb_X0_costOfRoot_41 : List xI := [(.iconst (-1), 1, 0, 0), (.ireturn, 1, 0, 0)]
noncomputable def xb_X0_costOfRoot_43 : List xI := [(.aload_n 0, 1, 0, 0), (.getfield 92, 3, 5, 0), (.getfield 120, 3, 1, 1), (.iload 4, 2, 0, 0), (.iaload, 1, 0, 0), (.aload_n 0, 1, 0, 0), (.getfield 92, 3, 5, 0), (.iload_n 3, 1, 0, 0), (.iload_n 2, 1, 0, 0), (.invokevirtual 114, 3, 53, 3), (.iadd, 1, 0, 0), (.ireturn, 1, 0, 0)]
noncomputable def xm_X0_costOfRoot : xM := (⟨"PathReader$Chart", "costOfRoot", "(LPathReader$State;II)I"⟩, 0, cX0_costOfRoot, 5, (some .int), 1, 22, 0, 0, 3, [(0, xb_X0_costOfRoot_0), (41, xb_X0_costOfRoot_41), (43, xb_X0_costOfRoot_43)])
noncomputable def xb_X0_reckonRoots_0 : List xI := [(.aload_n 1, 1, 0, 0), (.getfield 50, 3, 5, 1), (.getfield 56, 3, 3, 5), (.istore_n 3, 1, 0, 0), (.aload_n 0, 1, 0, 0), (.ldc2_w 30, 3, 288230376151711744, 0), (.putfield 32, 3, 0, 5), (.aload_n 0, 1, 0, 0), (.iconst 0, 1, 0, 0), (.putfield 36, 3, 0, 6), (.iconst 1, 1, 0, 0), (.istore 4, 2, 0, 0)]
noncomputable def xb_X0_reckonRoots_23 : List xI := [(.iload 4, 2, 0, 0), (.iload_n 3, 1, 0, 0), (.if_icmp .gt 153, 3, 179, 0), (.iconst 0, 1, 0, 0), (.istore 5, 2, 0, 0)]
noncomputable def xb_X0_reckonRoots_32 : List xI := [(.iload 5, 2, 0, 0), (.iconst 2, 1, 0, 0), (.if_icmp .ge 138, 3, 173, 0), (.aload_n 1, 1, 0, 0), (.iload 4, 2, 0, 0), (.iload 5, 2, 0, 0), (.invokestatic 143, 3, 71, 3), (.istore 6, 2, 0, 0), (.aload_n 1, 1, 0, 0), (.getfield 50, 3, 5, 1), (.iload_n 2, 1, 0, 0), (.iload 4, 2, 0, 0), (.iload 5, 2, 0, 0), (.iconst 0, 1, 0, 0), (.invokestatic 73, 3, 62, 5), (.istore 7, 2, 0, 0), (.iconst 1, 1, 0, 0), (.iload 4, 2, 0, 0), (.iconst 1, 1, 0, 0), (.isub, 1, 0, 0), (.iload 4, 2, 0, 0), (.iload 5, 2, 0, 0), (.invokestatic 40, 3, 4, 4), (.istore 8, 2, 0, 0), (.iload 4, 2, 0, 0), (.iconst 1, 1, 0, 0), (.iadd, 1, 0, 0), (.iload_n 3, 1, 0, 0), (.iload 4, 2, 0, 0), (.iload 5, 2, 0, 0), (.invokestatic 40, 3, 4, 4), (.istore 9, 2, 0, 0), (.iload 6, 2, 0, 0), (.iconst (-1), 1, 0, 0), (.if_icmp .eq 73, 3, 167, 0), (.iload 6, 2, 0, 0), (.iload 7, 2, 0, 0), (.iload 4, 2, 0, 0), (.iload 5, 2, 0, 0), (.iconst 0, 1, 0, 0), (.invokestatic 77, 3, 63, 3), (.invokestatic 88, 3, 66, 3), (.lstore 10, 2, 0, 0), (.aload_n 0, 1, 0, 0), (.aload_n 0, 1, 0, 0), (.getfield 32, 3, 0, 5), (.lload 10, 2, 0, 0), (.aload_n 0, 1, 0, 0), (.getfield 20, 3, 0, 2), (.iload 8, 2, 0, 0), (.laload, 1, 0, 0), (.ladd, 1, 0, 0), (.aload_n 0, 1, 0, 0), (.getfield 20, 3, 0, 2), (.iload 9, 2, 0, 0), (.laload, 1, 0, 0), (.ladd, 1, 0, 0), (.invokestatic 139, 3, 1005, 0), (.putfield 32, 3, 0, 5), (.aload_n 0, 1, 0, 0), (.dup, 1, 0, 0), (.getfield 36, 3, 0, 6), (.aload_n 0, 1, 0, 0), (.getfield 27, 3, 0, 4), (.iload 8, 2, 0, 0), (.iaload, 1, 0, 0), (.aload_n 0, 1, 0, 0), (.getfield 27, 3, 0, 4), (.iload 9, 2, 0, 0), (.iaload, 1, 0, 0), (.imul, 1, 0, 0), (.iadd, 1, 0, 0), (.putfield 36, 3, 0, 6)]
noncomputable def xb_X0_reckonRoots_167 : List xI := [(.iinc 5 1, 3, 0, 0), (.goto (-138), 3, 32, 0)]
noncomputable def xb_X0_reckonRoots_173 : List xI := [(.iinc 4 1, 3, 0, 0), (.goto (-153), 3, 23, 0)]
noncomputable def xb_X0_reckonRoots_179 : List xI := [(.return_, 1, 0, 0)]
noncomputable def xm_X0_reckonRoots : xM := (⟨"PathReader$Chart", "reckonRoots", "(LPathReader$State;I)V"⟩, 0, cX0_reckonRoots, 12, none, 2, 49, 1, 0, 2, [(0, xb_X0_reckonRoots_0), (23, xb_X0_reckonRoots_23), (32, xb_X0_reckonRoots_32), (167, xb_X0_reckonRoots_167), (173, xb_X0_reckonRoots_173), (179, xb_X0_reckonRoots_179)])
noncomputable def xb_X0_reckon_0 : List xI := [(.aload_n 1, 1, 0, 0), (.getfield 50, 3, 5, 1), (.getfield 56, 3, 3, 5), (.istore_n 3, 1, 0, 0), (.iconst 1, 1, 0, 0), (.istore 4, 2, 0, 0)]
noncomputable def xb_X0_reckon_11 : List xI := [(.iload 4, 2, 0, 0), (.iload_n 3, 1, 0, 0), (.if_icmp .gt 17, 3, 31, 0), (.aload_n 0, 1, 0, 0), (.aload_n 1, 1, 0, 0), (.iload_n 2, 1, 0, 0), (.iload 4, 2, 0, 0), (.invokevirtual 61, 3, 67, 4), (.iinc 4 1, 3, 0, 0), (.goto (-17), 3, 11, 0)]
noncomputable def xb_X0_reckon_31 : List xI := [(.iconst 1, 1, 0, 0), (.istore 4, 2, 0, 0)]
noncomputable def xb_X0_reckon_34 : List xI := [(.iload 4, 2, 0, 0), (.iload_n 3, 1, 0, 0), (.if_icmp .ge 43, 3, 80, 0), (.iconst 1, 1, 0, 0), (.istore 5, 2, 0, 0)]
noncomputable def xb_X0_reckon_43 : List xI := [(.iload 5, 2, 0, 0), (.iload 4, 2, 0, 0), (.iadd, 1, 0, 0), (.iconst 1, 1, 0, 0), (.isub, 1, 0, 0), (.iload_n 3, 1, 0, 0), (.if_icmp .gt 23, 3, 74, 0), (.aload_n 0, 1, 0, 0), (.iload 5, 2, 0, 0), (.iload 5, 2, 0, 0), (.iload 4, 2, 0, 0), (.iadd, 1, 0, 0), (.iconst 1, 1, 0, 0), (.isub, 1, 0, 0), (.iload_n 3, 1, 0, 0), (.invokevirtual 65, 3, 70, 4), (.iinc 5 1, 3, 0, 0), (.goto (-28), 3, 43, 0)]
noncomputable def xb_X0_reckon_74 : List xI := [(.iinc 4 1, 3, 0, 0), (.goto (-43), 3, 34, 0)]
noncomputable def xb_X0_reckon_80 : List xI := [(.aload_n 0, 1, 0, 0), (.aload_n 1, 1, 0, 0), (.iload_n 2, 1, 0, 0), (.invokevirtual 69, 3, 72, 3), (.return_, 1, 0, 0)]
noncomputable def xm_X0_reckon : xM := (⟨"PathReader$Chart", "reckon", "(LPathReader$State;I)V"⟩, 0, cX0_reckon, 6, none, 3, 89, 1, 0, 2, [(0, xb_X0_reckon_0), (11, xb_X0_reckon_11), (31, xb_X0_reckon_31), (34, xb_X0_reckon_34), (43, xb_X0_reckon_43), (74, xb_X0_reckon_74), (80, xb_X0_reckon_80)])
noncomputable def xb_X0_hasAnalysis_0 : List xI := [(.aload_n 0, 1, 0, 0), (.getfield 36, 3, 0, 6), (.ifCond .le 7, 3, 11, 0), (.iconst 1, 1, 0, 0), (.goto 4, 3, 12, 0)]
noncomputable def xb_X0_hasAnalysis_11 : List xI := [(.iconst 0, 1, 0, 0)]
noncomputable def xb_X0_hasAnalysis_12 : List xI := [(.ireturn, 1, 0, 0)]
noncomputable def xm_X0_hasAnalysis : xM := (⟨"PathReader$Chart", "hasAnalysis", "()Z"⟩, 0, cX0_hasAnalysis, 1, (some .boolean), 0, 0, 1, 0, 0, [(0, xb_X0_hasAnalysis_0), (11, xb_X0_hasAnalysis_11), (12, xb_X0_hasAnalysis_12)])
noncomputable def xb_X4_putReckoned_0 : List xI := [(.aload_n 0, 1, 0, 0), (.getfield 15, 3, 3, 1), (.aload_n 0, 1, 0, 0), (.getfield 27, 3, 3, 5), (.iload_n 1, 1, 0, 0), (.iastore, 1, 0, 0), (.aload_n 0, 1, 0, 0), (.getfield 18, 3, 3, 2), (.aload_n 0, 1, 0, 0), (.getfield 27, 3, 3, 5), (.iload_n 2, 1, 0, 0), (.iastore, 1, 0, 0), (.aload_n 0, 1, 0, 0), (.getfield 21, 3, 3, 3), (.aload_n 0, 1, 0, 0), (.getfield 27, 3, 3, 5), (.iload_n 3, 1, 0, 0), (.iastore, 1, 0, 0), (.aload_n 0, 1, 0, 0), (.getfield 24, 3, 3, 4), (.aload_n 0, 1, 0, 0), (.getfield 27, 3, 3, 5), (.iload 4, 2, 0, 0), (.iastore, 1, 0, 0), (.return_, 1, 0, 0)]
noncomputable def xm_X4_putReckoned : xM := (⟨"PathReader$Sentence", "putReckoned", "(IIII)V"⟩, 3, cX4_putReckoned, 5, none, 0, 0, 1, 3, 4, [(0, xb_X4_putReckoned_0)])
noncomputable def xb_X0_leastRepair_0 : List xI := [(.aload_n 0, 1, 0, 0), (.getfield 32, 3, 0, 5), (.bipush 24, 2, 0, 0), (.lshr, 1, 0, 0), (.l2i, 1, 0, 0), (.sipush 4095, 3, 0, 0), (.iand, 1, 0, 0), (.ireturn, 1, 0, 0)]
noncomputable def xm_X0_leastRepair : xM := (⟨"PathReader$Chart", "leastRepair", "()I"⟩, 0, cX0_leastRepair, 1, (some .int), 0, 0, 1, 0, 0, [(0, xb_X0_leastRepair_0)])
noncomputable def xb_X0_leastRow_0 : List xI := [(.aload_n 0, 1, 0, 0), (.getfield 32, 3, 0, 5), (.ldc2_w 44, 3, 16777215, 0), (.land, 1, 0, 0), (.l2i, 1, 0, 0), (.ireturn, 1, 0, 0)]
noncomputable def xm_X0_leastRow : xM := (⟨"PathReader$Chart", "leastRow", "()I"⟩, 0, cX0_leastRow, 1, (some .int), 0, 0, 1, 0, 0, [(0, xb_X0_leastRow_0)])
noncomputable def xb_X0_leastCost_0 : List xI := [(.aload_n 0, 1, 0, 0), (.getfield 32, 3, 0, 5), (.bipush 36, 2, 0, 0), (.lshr, 1, 0, 0), (.l2i, 1, 0, 0), (.aload_n 0, 1, 0, 0), (.invokevirtual 46, 3, 76, 1), (.isub, 1, 0, 0), (.ireturn, 1, 0, 0)]
noncomputable def xm_X0_leastCost : xM := (⟨"PathReader$Chart", "leastCost", "()I"⟩, 0, cX0_leastCost, 1, (some .int), 1, 20, 1, 0, 0, [(0, xb_X0_leastCost_0)])
noncomputable def xb_X6_hear_0 : List xI := [(.aload_n 0, 1, 0, 0), (.getfield 21, 3, 5, 1), (.invokevirtual 40, 3, 59, 1), (.istore_n 3, 1, 0, 0), (.aload_n 0, 1, 0, 0), (.getfield 21, 3, 5, 1), (.dup, 1, 0, 0), (.getfield 36, 3, 3, 5), (.iconst 1, 1, 0, 0), (.iadd, 1, 0, 0), (.putfield 36, 3, 3, 5), (.aload_n 0, 1, 0, 0), (.getfield 21, 3, 5, 1), (.getfield 44, 3, 3, 0), (.aload_n 0, 1, 0, 0), (.getfield 21, 3, 5, 1), (.getfield 36, 3, 3, 5), (.iload_n 1, 1, 0, 0), (.iastore, 1, 0, 0), (.iload_n 3, 1, 0, 0), (.ifCond .ne 17, 3, 55, 0), (.aload_n 2, 1, 0, 0), (.aload_n 0, 1, 0, 0), (.aload_n 0, 1, 0, 0), (.getfield 12, 3, 5, 0), (.getfield 48, 3, 1, 4), (.iconst 1, 1, 0, 0), (.iaload, 1, 0, 0), (.invokevirtual 51, 3, 73, 3)]
noncomputable def xb_X6_hear_55 : List xI := [(.iload_n 3, 1, 0, 0), (.ifCond .ne 10, 3, 66, 0), (.aload_n 2, 1, 0, 0), (.invokevirtual 57, 3, 74, 1), (.ifCond .ne 15, 3, 78, 0)]
noncomputable def xb_X6_hear_66 : List xI := [(.aload_n 0, 1, 0, 0), (.getfield 21, 3, 5, 1), (.iconst (-1), 1, 0, 0), (.iconst (-1), 1, 0, 0), (.iconst 0, 1, 0, 0), (.iconst 0, 1, 0, 0), (.invokevirtual 60, 3, 75, 5), (.return_, 1, 0, 0)]
noncomputable def xb_X6_hear_78 : List xI := [(.aload_n 2, 1, 0, 0), (.invokevirtual 64, 3, 76, 1), (.istore 4, 2, 0, 0), (.iload 4, 2, 0, 0), (.aload_n 0, 1, 0, 0), (.getfield 12, 3, 5, 0), (.getfield 48, 3, 1, 4), (.iconst 2, 1, 0, 0), (.iaload, 1, 0, 0), (.if_icmp .le 7, 3, 102, 0), (.iconst 1, 1, 0, 0), (.goto 4, 3, 103, 0)]
noncomputable def xb_X6_hear_102 : List xI := [(.iconst 0, 1, 0, 0)]
noncomputable def xb_X6_hear_103 : List xI := [(.istore 5, 2, 0, 0), (.aload_n 0, 1, 0, 0), (.getfield 21, 3, 5, 1), (.aload_n 2, 1, 0, 0), (.invokevirtual 68, 3, 77, 1), (.aload_n 2, 1, 0, 0), (.invokevirtual 71, 3, 78, 1), (.iload 4, 2, 0, 0), (.iload 5, 2, 0, 0), (.invokevirtual 60, 3, 75, 5), (.return_, 1, 0, 0)]
noncomputable def xm_X6_hear : xM := (⟨"PathReader$State", "hear", "(ILPathReader$Chart;)V"⟩, 5, cX6_hear, 6, none, 4, 114, 1, 5, 2, [(0, xb_X6_hear_0), (55, xb_X6_hear_55), (66, xb_X6_hear_66), (78, xb_X6_hear_78), (102, xb_X6_hear_102), (103, xb_X6_hear_103)])
noncomputable def xb_X7_hears_0 : List xI := [(.aload_n 0, 1, 0, 0), (.getfield 10, 3, 6, 0), (.iload_n 1, 1, 0, 0), (.invokevirtual 106, 3, 57, 2), (.istore_n 2, 1, 0, 0), (.iload_n 2, 1, 0, 0), (.ifCond .eq 9, 3, 19, 0), (.aload_n 0, 1, 0, 0), (.iload_n 2, 1, 0, 0), (.invokevirtual 54, 3, 18, 2), (.ireturn, 1, 0, 0)]
noncomputable def xb_X7_hears_19 : List xI := [(.aload_n 0, 1, 0, 0), (.getfield 22, 3, 6, 2), (.aload_n 0, 1, 0, 0), (.getfield 10, 3, 6, 0), (.invokevirtual 58, 3, 22, 2), (.aload_n 0, 1, 0, 0), (.getfield 10, 3, 6, 0), (.iload_n 1, 1, 0, 0), (.aload_n 0, 1, 0, 0), (.getfield 29, 3, 6, 3), (.invokevirtual 109, 3, 79, 3), (.aload_n 0, 1, 0, 0), (.getfield 10, 3, 6, 0), (.getfield 113, 3, 5, 1), (.astore_n 3, 1, 0, 0), (.aload_n 3, 1, 0, 0), (.invokevirtual 117, 3, 59, 1), (.ifCond .eq 7, 3, 61, 0), (.iconst (-1), 1, 0, 0), (.goto 12, 3, 70, 0)]
noncomputable def xb_X7_hears_61 : List xI := [(.aload_n 3, 1, 0, 0), (.getfield 123, 3, 3, 3), (.aload_n 3, 1, 0, 0), (.getfield 126, 3, 3, 5), (.iaload, 1, 0, 0)]
noncomputable def xb_X7_hears_70 : List xI := [(.ireturn, 1, 0, 0)]
noncomputable def xm_X7_hears : xM := (⟨"PathReader", "hears", "(I)I"⟩, 6, cX7_hears, 4, (some .int), 5, 139, 1, 6, 1, [(0, xb_X7_hears_0), (19, xb_X7_hears_19), (61, xb_X7_hears_61), (70, xb_X7_hears_70)])
noncomputable def xb_X8_wordAt_0 : List xI := [(.bipush 119, 2, 0, 0), (.iconst 5, 1, 0, 0), (.iload_n 1, 1, 0, 0), (.iconst 1, 1, 0, 0), (.isub, 1, 0, 0), (.imul, 1, 0, 0), (.iadd, 1, 0, 0), (.ireturn, 1, 0, 0)]
noncomputable def xm_X8_wordAt : xM := (⟨"PathReaderModel", "wordAt", "(I)I"⟩, 7, cX8_wordAt, 2, (some .int), 0, 0, 1, 7, 1, [(0, xb_X8_wordAt_0)])
noncomputable def xb_X8_holds_0 : List xI := [(.iload_n 1, 1, 0, 0), (.ifCond .le 22, 3, 23, 0), (.aload_n 0, 1, 0, 0), (.getfield 7, 3, 7, 0), (.aload_n 0, 1, 0, 0), (.iload_n 1, 1, 0, 0), (.invokevirtual 120, 3, 81, 2), (.iconst 3, 1, 0, 0), (.iadd, 1, 0, 0), (.iaload, 1, 0, 0), (.ifCond .lt 7, 3, 23, 0), (.iconst 1, 1, 0, 0), (.goto 4, 3, 24, 0)]
noncomputable def xb_X8_holds_23 : List xI := [(.iconst 0, 1, 0, 0)]
noncomputable def xb_X8_holds_24 : List xI := [(.ireturn, 1, 0, 0)]
noncomputable def xm_X8_holds : xM := (⟨"PathReaderModel", "holds", "(I)Z"⟩, 7, cX8_holds, 2, (some .boolean), 1, 21, 1, 7, 1, [(0, xb_X8_holds_0), (23, xb_X8_holds_23), (24, xb_X8_holds_24)])
noncomputable def xb_X8_laysHeld_0 : List xI := [(.aload_n 0, 1, 0, 0), (.getfield 7, 3, 7, 0), (.aload_n 0, 1, 0, 0), (.iload_n 1, 1, 0, 0), (.invokevirtual 120, 3, 81, 2), (.iconst 4, 1, 0, 0), (.iadd, 1, 0, 0), (.iaload, 1, 0, 0), (.istore_n 2, 1, 0, 0), (.iload_n 1, 1, 0, 0), (.istore_n 3, 1, 0, 0)]
noncomputable def xb_X8_laysHeld_15 : List xI := [(.iload_n 3, 1, 0, 0), (.iconst 1, 1, 0, 0), (.if_icmp .lt 42, 3, 59, 0), (.iload_n 2, 1, 0, 0), (.bipush 14, 2, 0, 0), (.irem, 1, 0, 0), (.istore 4, 2, 0, 0), (.iload_n 2, 1, 0, 0), (.bipush 14, 2, 0, 0), (.idiv, 1, 0, 0), (.istore_n 2, 1, 0, 0), (.aload_n 0, 1, 0, 0), (.getfield 25, 3, 7, 7), (.iload_n 3, 1, 0, 0), (.iload 4, 2, 0, 0), (.bipush 7, 2, 0, 0), (.irem, 1, 0, 0), (.iastore, 1, 0, 0), (.aload_n 0, 1, 0, 0), (.getfield 28, 3, 7, 8), (.iload_n 3, 1, 0, 0), (.iload 4, 2, 0, 0), (.bipush 7, 2, 0, 0), (.idiv, 1, 0, 0), (.iastore, 1, 0, 0), (.iinc 3 (-1), 3, 0, 0), (.goto (-41), 3, 15, 0)]
noncomputable def xb_X8_laysHeld_59 : List xI := [(.return_, 1, 0, 0)]
noncomputable def xm_X8_laysHeld : xM := (⟨"PathReaderModel", "laysHeld", "(I)V"⟩, 7, cX8_laysHeld, 5, none, 1, 21, 1, 7, 1, [(0, xb_X8_laysHeld_0), (15, xb_X8_laysHeld_15), (59, xb_X8_laysHeld_59)])
noncomputable def xb_X8_laysAhead_0 : List xI := [(.iload_n 1, 1, 0, 0), (.ifCond .le 8, 3, 9, 0), (.aload_n 0, 1, 0, 0), (.iload_n 1, 1, 0, 0), (.invokevirtual 164, 3, 83, 2)]
noncomputable def xb_X8_laysAhead_9 : List xI := [(.iconst 1, 1, 0, 0), (.istore_n 2, 1, 0, 0)]
noncomputable def xb_X8_laysAhead_11 : List xI := [(.iload_n 2, 1, 0, 0), (.iload_n 1, 1, 0, 0), (.if_icmp .gt 33, 3, 46, 0), (.aload_n 0, 1, 0, 0), (.getfield 34, 3, 7, 10), (.iload_n 2, 1, 0, 0), (.aload_n 0, 1, 0, 0), (.getfield 25, 3, 7, 7), (.iload_n 2, 1, 0, 0), (.iaload, 1, 0, 0), (.iastore, 1, 0, 0), (.aload_n 0, 1, 0, 0), (.getfield 37, 3, 7, 11), (.iload_n 2, 1, 0, 0), (.aload_n 0, 1, 0, 0), (.getfield 28, 3, 7, 8), (.iload_n 2, 1, 0, 0), (.iaload, 1, 0, 0), (.iastore, 1, 0, 0), (.iinc 2 1, 3, 0, 0), (.goto (-32), 3, 11, 0)]
noncomputable def xb_X8_laysAhead_46 : List xI := [(.return_, 1, 0, 0)]
noncomputable def xm_X8_laysAhead : xM := (⟨"PathReaderModel", "laysAhead", "(I)V"⟩, 7, cX8_laysAhead, 3, none, 2, 45, 1, 7, 1, [(0, xb_X8_laysAhead_0), (9, xb_X8_laysAhead_9), (11, xb_X8_laysAhead_11), (46, xb_X8_laysAhead_46)])
noncomputable def xb_X8_entryAt_0 : List xI := [(.bipush 79, 2, 0, 0), (.iconst 3, 1, 0, 0), (.aload_n 0, 1, 0, 0), (.getfield 7, 3, 7, 0), (.aload_n 0, 1, 0, 0), (.iload_n 1, 1, 0, 0), (.invokevirtual 120, 3, 81, 2), (.iaload, 1, 0, 0), (.imul, 1, 0, 0), (.iadd, 1, 0, 0), (.ireturn, 1, 0, 0)]
noncomputable def xm_X8_entryAt : xM := (⟨"PathReaderModel", "entryAt", "(I)I"⟩, 7, cX8_entryAt, 2, (some .int), 1, 21, 1, 7, 1, [(0, xb_X8_entryAt_0)])
noncomputable def xb_X8_laysReadings_0 : List xI := [(.iconst 1, 1, 0, 0), (.istore_n 3, 1, 0, 0), (.iconst 1, 1, 0, 0), (.istore 4, 2, 0, 0)]
noncomputable def xb_X8_laysReadings_5 : List xI := [(.iload 4, 2, 0, 0), (.iload_n 2, 1, 0, 0), (.if_icmp .gt 70, 3, 78, 0), (.aload_n 0, 1, 0, 0), (.getfield 28, 3, 7, 8), (.iload 4, 2, 0, 0), (.iload_n 1, 1, 0, 0), (.iload_n 2, 1, 0, 0), (.iload 4, 2, 0, 0), (.isub, 1, 0, 0), (.ishr, 1, 0, 0), (.iconst 1, 1, 0, 0), (.iand, 1, 0, 0), (.iastore, 1, 0, 0), (.aload_n 0, 1, 0, 0), (.getfield 31, 3, 7, 9), (.iload 4, 2, 0, 0), (.aload_n 0, 1, 0, 0), (.getfield 7, 3, 7, 0), (.aload_n 0, 1, 0, 0), (.iload 4, 2, 0, 0), (.invokevirtual 124, 3, 85, 2), (.aload_n 0, 1, 0, 0), (.getfield 28, 3, 7, 8), (.iload 4, 2, 0, 0), (.iaload, 1, 0, 0), (.iadd, 1, 0, 0), (.iaload, 1, 0, 0), (.iastore, 1, 0, 0), (.iload_n 3, 1, 0, 0), (.ifCond .eq 17, 3, 70, 0), (.aload_n 0, 1, 0, 0), (.getfield 31, 3, 7, 9), (.iload 4, 2, 0, 0), (.iaload, 1, 0, 0), (.ifCond .lt 7, 3, 70, 0), (.iconst 1, 1, 0, 0), (.goto 4, 3, 71, 0)]
noncomputable def xb_X8_laysReadings_70 : List xI := [(.iconst 0, 1, 0, 0)]
noncomputable def xb_X8_laysReadings_71 : List xI := [(.istore_n 3, 1, 0, 0), (.iinc 4 1, 3, 0, 0), (.goto (-70), 3, 5, 0)]
noncomputable def xb_X8_laysReadings_78 : List xI := [(.iload_n 3, 1, 0, 0), (.ireturn, 1, 0, 0)]
noncomputable def xm_X8_laysReadings : xM := (⟨"PathReaderModel", "laysReadings", "(II)Z"⟩, 7, cX8_laysReadings, 5, (some .boolean), 2, 42, 1, 7, 2, [(0, xb_X8_laysReadings_0), (5, xb_X8_laysReadings_5), (70, xb_X8_laysReadings_70), (71, xb_X8_laysReadings_71), (78, xb_X8_laysReadings_78)])
noncomputable def xb_X8_priceOf_0 : List xI := [(.aload_n 0, 1, 0, 0), (.getfield 25, 3, 7, 7), (.iload_n 1, 1, 0, 0), (.iaload, 1, 0, 0), (.istore_n 2, 1, 0, 0), (.iload_n 2, 1, 0, 0), (.ifCond .ne 20, 3, 28, 0), (.aload_n 0, 1, 0, 0), (.getfield 7, 3, 7, 0), (.bipush 72, 2, 0, 0), (.aload_n 0, 1, 0, 0), (.getfield 31, 3, 7, 9), (.iload_n 1, 1, 0, 0), (.iaload, 1, 0, 0), (.iadd, 1, 0, 0), (.iaload, 1, 0, 0), (.goto 33, 3, 58, 0)]
noncomputable def xb_X8_priceOf_28 : List xI := [(.aload_n 0, 1, 0, 0), (.getfield 7, 3, 7, 0), (.aload_n 0, 1, 0, 0), (.getfield 31, 3, 7, 9), (.iload_n 2, 1, 0, 0), (.iaload, 1, 0, 0), (.aload_n 0, 1, 0, 0), (.getfield 31, 3, 7, 9), (.iload_n 1, 1, 0, 0), (.iaload, 1, 0, 0), (.iload_n 1, 1, 0, 0), (.iload_n 2, 1, 0, 0), (.if_icmp .ge 7, 3, 53, 0), (.iconst 0, 1, 0, 0), (.goto 4, 3, 54, 0)]
noncomputable def xb_X8_priceOf_53 : List xI := [(.iconst 1, 1, 0, 0)]
noncomputable def xb_X8_priceOf_54 : List xI := [(.invokestatic 100, 3, 31, 3), (.iaload, 1, 0, 0)]
noncomputable def xb_X8_priceOf_58 : List xI := [(.ireturn, 1, 0, 0)]
noncomputable def xm_X8_priceOf : xM := (⟨"PathReaderModel", "priceOf", "(I)I"⟩, 7, cX8_priceOf, 3, (some .int), 1, 22, 1, 7, 1, [(0, xb_X8_priceOf_0), (28, xb_X8_priceOf_28), (53, xb_X8_priceOf_53), (54, xb_X8_priceOf_54), (58, xb_X8_priceOf_58)])
noncomputable def xb_X8_betweenOf_0 : List xI := [(.aload_n 0, 1, 0, 0), (.getfield 25, 3, 7, 7), (.iload_n 1, 1, 0, 0), (.iaload, 1, 0, 0), (.istore_n 2, 1, 0, 0), (.iload_n 2, 1, 0, 0), (.ifCond .ne 7, 3, 15, 0), (.iconst 0, 1, 0, 0), (.goto 21, 3, 33, 0)]
noncomputable def xb_X8_betweenOf_15 : List xI := [(.iload_n 2, 1, 0, 0), (.iload_n 1, 1, 0, 0), (.if_icmp .ge 11, 3, 28, 0), (.iload_n 1, 1, 0, 0), (.iload_n 2, 1, 0, 0), (.isub, 1, 0, 0), (.iconst 1, 1, 0, 0), (.isub, 1, 0, 0), (.goto 8, 3, 33, 0)]
noncomputable def xb_X8_betweenOf_28 : List xI := [(.iload_n 2, 1, 0, 0), (.iload_n 1, 1, 0, 0), (.isub, 1, 0, 0), (.iconst 1, 1, 0, 0), (.isub, 1, 0, 0)]
noncomputable def xb_X8_betweenOf_33 : List xI := [(.ireturn, 1, 0, 0)]
noncomputable def xm_X8_betweenOf : xM := (⟨"PathReaderModel", "betweenOf", "(I)I"⟩, 7, cX8_betweenOf, 3, (some .int), 0, 0, 1, 7, 1, [(0, xb_X8_betweenOf_0), (15, xb_X8_betweenOf_15), (28, xb_X8_betweenOf_28), (33, xb_X8_betweenOf_33)])
noncomputable def xb_X8_costOf_0 : List xI := [(.iconst 0, 1, 0, 0), (.istore_n 2, 1, 0, 0), (.iconst 1, 1, 0, 0), (.istore_n 3, 1, 0, 0), (.iconst 1, 1, 0, 0), (.istore 4, 2, 0, 0)]
noncomputable def xb_X8_costOf_7 : List xI := [(.iload 4, 2, 0, 0), (.iload_n 1, 1, 0, 0), (.if_icmp .gt 83, 3, 93, 0), (.iload_n 3, 1, 0, 0), (.ifCond .eq 79, 3, 93, 0), (.aload_n 0, 1, 0, 0), (.iload 4, 2, 0, 0), (.invokevirtual 127, 3, 87, 2), (.istore 5, 2, 0, 0), (.iload 5, 2, 0, 0), (.ifCond .lt 7, 3, 34, 0), (.iconst 1, 1, 0, 0), (.goto 4, 3, 35, 0)]
noncomputable def xb_X8_costOf_34 : List xI := [(.iconst 0, 1, 0, 0)]
noncomputable def xb_X8_costOf_35 : List xI := [(.istore_n 3, 1, 0, 0), (.iload_n 2, 1, 0, 0), (.iload 5, 2, 0, 0), (.aload_n 0, 1, 0, 0), (.getfield 7, 3, 7, 0), (.bipush 115, 2, 0, 0), (.iaload, 1, 0, 0), (.aload_n 0, 1, 0, 0), (.iload 4, 2, 0, 0), (.invokevirtual 130, 3, 88, 2), (.imul, 1, 0, 0), (.iadd, 1, 0, 0), (.iadd, 1, 0, 0), (.istore_n 2, 1, 0, 0), (.iload_n 2, 1, 0, 0), (.aload_n 0, 1, 0, 0), (.getfield 28, 3, 7, 8), (.iload 4, 2, 0, 0), (.iaload, 1, 0, 0), (.iconst 1, 1, 0, 0), (.if_icmp .ne 19, 3, 84, 0), (.aload_n 0, 1, 0, 0), (.getfield 7, 3, 7, 0), (.aload_n 0, 1, 0, 0), (.iload 4, 2, 0, 0), (.invokevirtual 124, 3, 85, 2), (.iconst 2, 1, 0, 0), (.iadd, 1, 0, 0), (.iaload, 1, 0, 0), (.goto 4, 3, 85, 0)]
noncomputable def xb_X8_costOf_84 : List xI := [(.iconst 0, 1, 0, 0)]
noncomputable def xb_X8_costOf_85 : List xI := [(.iadd, 1, 0, 0), (.istore_n 2, 1, 0, 0), (.iinc 4 1, 3, 0, 0), (.goto (-83), 3, 7, 0)]
noncomputable def xb_X8_costOf_93 : List xI := [(.iload_n 3, 1, 0, 0), (.ifCond .eq 7, 3, 101, 0), (.iload_n 2, 1, 0, 0), (.goto 4, 3, 102, 0)]
noncomputable def xb_X8_costOf_101 : List xI := [(.iconst (-1), 1, 0, 0)]
noncomputable def xb_X8_costOf_102 : List xI := [(.ireturn, 1, 0, 0)]
noncomputable def xm_X8_costOf : xM := (⟨"PathReaderModel", "costOf", "(I)I"⟩, 7, cX8_costOf, 6, (some .int), 2, 44, 1, 7, 1, [(0, xb_X8_costOf_0), (7, xb_X8_costOf_7), (34, xb_X8_costOf_34), (35, xb_X8_costOf_35), (84, xb_X8_costOf_84), (85, xb_X8_costOf_85), (93, xb_X8_costOf_93), (101, xb_X8_costOf_101), (102, xb_X8_costOf_102)])
noncomputable def xb_X8_repairOf_0 : List xI := [(.iconst 0, 1, 0, 0), (.istore_n 2, 1, 0, 0), (.iconst 1, 1, 0, 0), (.istore_n 3, 1, 0, 0)]
noncomputable def xb_X8_repairOf_4 : List xI := [(.iload_n 3, 1, 0, 0), (.iload_n 1, 1, 0, 0), (.if_icmp .ge 78, 3, 84, 0), (.aload_n 0, 1, 0, 0), (.getfield 25, 3, 7, 7), (.iload_n 3, 1, 0, 0), (.iaload, 1, 0, 0), (.aload_n 0, 1, 0, 0), (.getfield 34, 3, 7, 10), (.iload_n 3, 1, 0, 0), (.iaload, 1, 0, 0), (.if_icmp .eq 16, 3, 37, 0), (.aload_n 0, 1, 0, 0), (.getfield 34, 3, 7, 10), (.iload_n 3, 1, 0, 0), (.iaload, 1, 0, 0), (.ifCond .eq 7, 3, 37, 0), (.iconst 1, 1, 0, 0), (.goto 4, 3, 38, 0)]
noncomputable def xb_X8_repairOf_37 : List xI := [(.iconst 0, 1, 0, 0)]
noncomputable def xb_X8_repairOf_38 : List xI := [(.istore 4, 2, 0, 0), (.iload_n 2, 1, 0, 0), (.iload 4, 2, 0, 0), (.ifCond .ne 18, 3, 61, 0), (.aload_n 0, 1, 0, 0), (.getfield 28, 3, 7, 8), (.iload_n 3, 1, 0, 0), (.iaload, 1, 0, 0), (.aload_n 0, 1, 0, 0), (.getfield 37, 3, 7, 11), (.iload_n 3, 1, 0, 0), (.iaload, 1, 0, 0), (.if_icmp .eq 17, 3, 75, 0)]
noncomputable def xb_X8_repairOf_61 : List xI := [(.aload_n 0, 1, 0, 0), (.getfield 7, 3, 7, 0), (.bipush 116, 2, 0, 0), (.iaload, 1, 0, 0), (.iload_n 1, 1, 0, 0), (.iload_n 3, 1, 0, 0), (.isub, 1, 0, 0), (.imul, 1, 0, 0), (.goto 4, 3, 76, 0)]
noncomputable def xb_X8_repairOf_75 : List xI := [(.iconst 0, 1, 0, 0)]
noncomputable def xb_X8_repairOf_76 : List xI := [(.iadd, 1, 0, 0), (.istore_n 2, 1, 0, 0), (.iinc 3 1, 3, 0, 0), (.goto (-77), 3, 4, 0)]
noncomputable def xb_X8_repairOf_84 : List xI := [(.iload_n 2, 1, 0, 0), (.ireturn, 1, 0, 0)]
noncomputable def xm_X8_repairOf : xM := (⟨"PathReaderModel", "repairOf", "(I)I"⟩, 7, cX8_repairOf, 5, (some .int), 0, 0, 1, 7, 1, [(0, xb_X8_repairOf_0), (4, xb_X8_repairOf_4), (37, xb_X8_repairOf_37), (38, xb_X8_repairOf_38), (61, xb_X8_repairOf_61), (75, xb_X8_repairOf_75), (76, xb_X8_repairOf_76), (84, xb_X8_repairOf_84)])
noncomputable def xb_X8_codeOf_0 : List xI := [(.iconst 0, 1, 0, 0), (.istore_n 2, 1, 0, 0), (.iconst 1, 1, 0, 0), (.istore_n 3, 1, 0, 0)]
noncomputable def xb_X8_codeOf_4 : List xI := [(.iload_n 3, 1, 0, 0), (.iload_n 1, 1, 0, 0), (.if_icmp .gt 31, 3, 37, 0), (.bipush 14, 2, 0, 0), (.iload_n 2, 1, 0, 0), (.imul, 1, 0, 0), (.bipush 7, 2, 0, 0), (.aload_n 0, 1, 0, 0), (.getfield 28, 3, 7, 8), (.iload_n 3, 1, 0, 0), (.iaload, 1, 0, 0), (.imul, 1, 0, 0), (.iadd, 1, 0, 0), (.aload_n 0, 1, 0, 0), (.getfield 25, 3, 7, 7), (.iload_n 3, 1, 0, 0), (.iaload, 1, 0, 0), (.iadd, 1, 0, 0), (.istore_n 2, 1, 0, 0), (.iinc 3 1, 3, 0, 0), (.goto (-30), 3, 4, 0)]
noncomputable def xb_X8_codeOf_37 : List xI := [(.iload_n 2, 1, 0, 0), (.ireturn, 1, 0, 0)]
noncomputable def xm_X8_codeOf : xM := (⟨"PathReaderModel", "codeOf", "(I)I"⟩, 7, cX8_codeOf, 4, (some .int), 0, 0, 1, 7, 1, [(0, xb_X8_codeOf_0), (4, xb_X8_codeOf_4), (37, xb_X8_codeOf_37)])
noncomputable def xb_X8_isBetter_0 : List xI := [(.aload_n 0, 1, 0, 0), (.getfield 133, 3, 7, 15), (.aload_n 0, 1, 0, 0), (.getfield 136, 3, 7, 16), (.iadd, 1, 0, 0), (.istore 4, 2, 0, 0), (.aload_n 0, 1, 0, 0), (.getfield 139, 3, 7, 14), (.ifCond .eq 11, 3, 26, 0), (.iload_n 1, 1, 0, 0), (.iload_n 2, 1, 0, 0), (.iadd, 1, 0, 0), (.iload 4, 2, 0, 0), (.if_icmp .eq 24, 3, 47, 0)]
noncomputable def xb_X8_isBetter_26 : List xI := [(.aload_n 0, 1, 0, 0), (.getfield 139, 3, 7, 14), (.ifCond .eq 11, 3, 41, 0), (.iload_n 1, 1, 0, 0), (.iload_n 2, 1, 0, 0), (.iadd, 1, 0, 0), (.iload 4, 2, 0, 0), (.if_icmp .ge 7, 3, 45, 0)]
noncomputable def xb_X8_isBetter_41 : List xI := [(.iconst 1, 1, 0, 0), (.goto 4, 3, 46, 0)]
noncomputable def xb_X8_isBetter_45 : List xI := [(.iconst 0, 1, 0, 0)]
noncomputable def xb_X8_isBetter_46 : List xI := [(.ireturn, 1, 0, 0)]
noncomputable def xb_X8_isBetter_47 : List xI := [(.iload_n 2, 1, 0, 0), (.aload_n 0, 1, 0, 0), (.getfield 136, 3, 7, 16), (.if_icmp .lt 19, 3, 71, 0), (.iload_n 2, 1, 0, 0), (.aload_n 0, 1, 0, 0), (.getfield 136, 3, 7, 16), (.if_icmp .ne 15, 3, 75, 0), (.iload_n 3, 1, 0, 0), (.aload_n 0, 1, 0, 0), (.getfield 142, 3, 7, 17), (.if_icmp .ge 7, 3, 75, 0)]
noncomputable def xb_X8_isBetter_71 : List xI := [(.iconst 1, 1, 0, 0), (.goto 4, 3, 76, 0)]
noncomputable def xb_X8_isBetter_75 : List xI := [(.iconst 0, 1, 0, 0)]
noncomputable def xb_X8_isBetter_76 : List xI := [(.ireturn, 1, 0, 0)]
noncomputable def xm_X8_isBetter : xM := (⟨"PathReaderModel", "isBetter", "(III)Z"⟩, 7, cX8_isBetter, 5, (some .boolean), 0, 0, 1, 7, 3, [(0, xb_X8_isBetter_0), (26, xb_X8_isBetter_26), (41, xb_X8_isBetter_41), (45, xb_X8_isBetter_45), (46, xb_X8_isBetter_46), (47, xb_X8_isBetter_47), (71, xb_X8_isBetter_71), (75, xb_X8_isBetter_75), (76, xb_X8_isBetter_76)])
noncomputable def xb_X8_tries_0 : List xI := [(.aload_n 0, 1, 0, 0), (.iload_n 1, 1, 0, 0), (.invokevirtual 145, 3, 89, 2), (.istore_n 3, 1, 0, 0), (.iload_n 3, 1, 0, 0), (.ifCond .ge 4, 3, 11, 0), (.return_, 1, 0, 0)]
noncomputable def xb_X8_tries_11 : List xI := [(.iload_n 2, 1, 0, 0), (.ifCond .eq 11, 3, 23, 0), (.aload_n 0, 1, 0, 0), (.iload_n 1, 1, 0, 0), (.invokevirtual 148, 3, 90, 2), (.goto 4, 3, 24, 0)]
noncomputable def xb_X8_tries_23 : List xI := [(.iconst 0, 1, 0, 0)]
noncomputable def xb_X8_tries_24 : List xI := [(.istore 4, 2, 0, 0), (.aload_n 0, 1, 0, 0), (.iload_n 1, 1, 0, 0), (.invokevirtual 151, 3, 91, 2), (.istore 5, 2, 0, 0), (.aload_n 0, 1, 0, 0), (.iload_n 3, 1, 0, 0), (.iload 4, 2, 0, 0), (.iload 5, 2, 0, 0), (.invokevirtual 154, 3, 92, 4), (.ifCond .eq 20, 3, 62, 0), (.aload_n 0, 1, 0, 0), (.iload_n 3, 1, 0, 0), (.putfield 133, 3, 7, 15), (.aload_n 0, 1, 0, 0), (.iload 4, 2, 0, 0), (.putfield 136, 3, 7, 16), (.aload_n 0, 1, 0, 0), (.iload 5, 2, 0, 0), (.putfield 142, 3, 7, 17)]
noncomputable def xb_X8_tries_62 : List xI := [(.aload_n 0, 1, 0, 0), (.dup, 1, 0, 0), (.getfield 139, 3, 7, 14), (.iconst 1, 1, 0, 0), (.iadd, 1, 0, 0), (.putfield 139, 3, 7, 14), (.return_, 1, 0, 0)]
noncomputable def xm_X8_tries : xM := (⟨"PathReaderModel", "tries", "(IZ)V"⟩, 7, cX8_tries, 6, none, 3, 69, 1, 7, 2, [(0, xb_X8_tries_0), (11, xb_X8_tries_11), (23, xb_X8_tries_23), (24, xb_X8_tries_24), (62, xb_X8_tries_62)])
noncomputable def xb_X8_finds_0 : List xI := [(.aload_n 0, 1, 0, 0), (.iconst 0, 1, 0, 0), (.putfield 139, 3, 7, 14), (.iconst 0, 1, 0, 0), (.istore_n 3, 1, 0, 0)]
noncomputable def xb_X8_finds_7 : List xI := [(.iload_n 3, 1, 0, 0), (.iconst 1, 1, 0, 0), (.iload_n 1, 1, 0, 0), (.ishl, 1, 0, 0), (.if_icmp .ge 67, 3, 78, 0), (.aload_n 0, 1, 0, 0), (.iload_n 3, 1, 0, 0), (.iload_n 1, 1, 0, 0), (.invokevirtual 157, 3, 86, 3), (.istore 4, 2, 0, 0), (.aload_n 0, 1, 0, 0), (.getfield 43, 3, 7, 13), (.iload_n 1, 1, 0, 0), (.iaload, 1, 0, 0), (.istore 5, 2, 0, 0)]
noncomputable def xb_X8_finds_30 : List xI := [(.iload 5, 2, 0, 0), (.aload_n 0, 1, 0, 0), (.getfield 43, 3, 7, 13), (.iload_n 1, 1, 0, 0), (.iconst 1, 1, 0, 0), (.iadd, 1, 0, 0), (.iaload, 1, 0, 0), (.if_icmp .ge 32, 3, 72, 0), (.iload 4, 2, 0, 0), (.ifCond .eq 27, 3, 72, 0), (.aload_n 0, 1, 0, 0), (.aload_n 0, 1, 0, 0), (.getfield 40, 3, 7, 12), (.iload 5, 2, 0, 0), (.iaload, 1, 0, 0), (.iload_n 1, 1, 0, 0), (.invokevirtual 74, 3, 8, 3), (.aload_n 0, 1, 0, 0), (.iload_n 1, 1, 0, 0), (.iload_n 2, 1, 0, 0), (.invokevirtual 160, 3, 93, 3), (.iinc 5 1, 3, 0, 0), (.goto (-39), 3, 30, 0)]
noncomputable def xb_X8_finds_72 : List xI := [(.iinc 3 1, 3, 0, 0), (.goto (-68), 3, 7, 0)]
noncomputable def xb_X8_finds_78 : List xI := [(.return_, 1, 0, 0)]
noncomputable def xm_X8_finds : xM := (⟨"PathReaderModel", "finds", "(IZ)V"⟩, 7, cX8_finds, 6, none, 4, 94, 1, 7, 2, [(0, xb_X8_finds_0), (7, xb_X8_finds_7), (30, xb_X8_finds_30), (72, xb_X8_finds_72), (78, xb_X8_finds_78)])
noncomputable def xb_X8_listens_0 : List xI := [(.aload_n 0, 1, 0, 0), (.getfield 7, 3, 7, 0), (.bipush 118, 2, 0, 0), (.iaload, 1, 0, 0), (.istore_n 2, 1, 0, 0), (.aload_n 0, 1, 0, 0), (.getfield 7, 3, 7, 0), (.bipush 118, 2, 0, 0), (.dup2, 1, 0, 0), (.iaload, 1, 0, 0), (.iconst 1, 1, 0, 0), (.iadd, 1, 0, 0), (.iastore, 1, 0, 0), (.iload_n 2, 1, 0, 0), (.iconst 1, 1, 0, 0), (.iadd, 1, 0, 0), (.istore_n 3, 1, 0, 0), (.aload_n 0, 1, 0, 0), (.iload_n 3, 1, 0, 0), (.invokevirtual 120, 3, 81, 2), (.istore 4, 2, 0, 0), (.aload_n 0, 1, 0, 0), (.getfield 7, 3, 7, 0), (.iload 4, 2, 0, 0), (.iload_n 1, 1, 0, 0), (.iastore, 1, 0, 0), (.aload_n 0, 1, 0, 0), (.getfield 7, 3, 7, 0), (.iload 4, 2, 0, 0), (.iconst 1, 1, 0, 0), (.iadd, 1, 0, 0), (.iconst 0, 1, 0, 0), (.iastore, 1, 0, 0), (.aload_n 0, 1, 0, 0), (.getfield 7, 3, 7, 0), (.iload 4, 2, 0, 0), (.iconst 2, 1, 0, 0), (.iadd, 1, 0, 0), (.iconst 0, 1, 0, 0), (.iastore, 1, 0, 0), (.aload_n 0, 1, 0, 0), (.getfield 7, 3, 7, 0), (.iload 4, 2, 0, 0), (.iconst 3, 1, 0, 0), (.iadd, 1, 0, 0), (.iconst (-1), 1, 0, 0), (.iastore, 1, 0, 0), (.aload_n 0, 1, 0, 0), (.getfield 7, 3, 7, 0), (.iload 4, 2, 0, 0), (.iconst 4, 1, 0, 0), (.iadd, 1, 0, 0), (.iconst 0, 1, 0, 0), (.iastore, 1, 0, 0), (.iload_n 2, 1, 0, 0), (.ifCond .le 12, 3, 91, 0), (.aload_n 0, 1, 0, 0), (.iload_n 2, 1, 0, 0), (.invokevirtual 168, 3, 82, 2), (.ifCond .ne 4, 3, 91, 0), (.return_, 1, 0, 0)]
noncomputable def xb_X8_listens_91 : List xI := [(.aload_n 0, 1, 0, 0), (.iload_n 2, 1, 0, 0), (.invokevirtual 171, 3, 84, 2), (.aload_n 0, 1, 0, 0), (.iload_n 3, 1, 0, 0), (.iconst 1, 1, 0, 0), (.invokevirtual 174, 3, 94, 3), (.aload_n 0, 1, 0, 0), (.getfield 139, 3, 7, 14), (.ifCond .le 70, 3, 176, 0), (.aload_n 0, 1, 0, 0), (.getfield 7, 3, 7, 0), (.iload 4, 2, 0, 0), (.iconst 1, 1, 0, 0), (.iadd, 1, 0, 0), (.aload_n 0, 1, 0, 0), (.getfield 136, 3, 7, 16), (.iastore, 1, 0, 0), (.aload_n 0, 1, 0, 0), (.getfield 7, 3, 7, 0), (.iload 4, 2, 0, 0), (.iconst 2, 1, 0, 0), (.iadd, 1, 0, 0), (.aload_n 0, 1, 0, 0), (.getfield 136, 3, 7, 16), (.aload_n 0, 1, 0, 0), (.getfield 7, 3, 7, 0), (.bipush 117, 2, 0, 0), (.iaload, 1, 0, 0), (.if_icmp .le 7, 3, 148, 0), (.iconst 1, 1, 0, 0), (.goto 4, 3, 149, 0)]
noncomputable def xb_X8_listens_148 : List xI := [(.iconst 0, 1, 0, 0)]
noncomputable def xb_X8_listens_149 : List xI := [(.iastore, 1, 0, 0), (.aload_n 0, 1, 0, 0), (.getfield 7, 3, 7, 0), (.iload 4, 2, 0, 0), (.iconst 3, 1, 0, 0), (.iadd, 1, 0, 0), (.aload_n 0, 1, 0, 0), (.getfield 133, 3, 7, 15), (.iastore, 1, 0, 0), (.aload_n 0, 1, 0, 0), (.getfield 7, 3, 7, 0), (.iload 4, 2, 0, 0), (.iconst 4, 1, 0, 0), (.iadd, 1, 0, 0), (.aload_n 0, 1, 0, 0), (.getfield 142, 3, 7, 17), (.iastore, 1, 0, 0)]
noncomputable def xb_X8_listens_176 : List xI := [(.return_, 1, 0, 0)]
noncomputable def xm_X8_listens : xM := (⟨"PathReaderModel", "listens", "(I)V"⟩, 7, cX8_listens, 5, none, 5, 119, 1, 7, 1, [(0, xb_X8_listens_0), (91, xb_X8_listens_91), (148, xb_X8_listens_148), (149, xb_X8_listens_149), (176, xb_X8_listens_176)])
noncomputable def xb_X8_hears_0 : List xI := [(.aload_n 0, 1, 0, 0), (.iload_n 1, 1, 0, 0), (.invokevirtual 117, 3, 55, 2), (.ifCond .ne 8, 3, 13, 0), (.aload_n 0, 1, 0, 0), (.invokevirtual 94, 3, 29, 1), (.ireturn, 1, 0, 0)]
noncomputable def xb_X8_hears_13 : List xI := [(.aload_n 0, 1, 0, 0), (.getfield 7, 3, 7, 0), (.bipush 118, 2, 0, 0), (.iaload, 1, 0, 0), (.bipush 6, 2, 0, 0), (.if_icmp .ne 8, 3, 30, 0), (.aload_n 0, 1, 0, 0), (.invokevirtual 111, 3, 42, 1), (.ireturn, 1, 0, 0)]
noncomputable def xb_X8_hears_30 : List xI := [(.aload_n 0, 1, 0, 0), (.invokevirtual 97, 3, 30, 1), (.aload_n 0, 1, 0, 0), (.iload_n 1, 1, 0, 0), (.invokevirtual 177, 3, 95, 2), (.aload_n 0, 1, 0, 0), (.aload_n 0, 1, 0, 0), (.getfield 7, 3, 7, 0), (.bipush 118, 2, 0, 0), (.iaload, 1, 0, 0), (.invokevirtual 168, 3, 82, 2), (.ifCond .eq 24, 3, 74, 0), (.aload_n 0, 1, 0, 0), (.getfield 7, 3, 7, 0), (.aload_n 0, 1, 0, 0), (.aload_n 0, 1, 0, 0), (.getfield 7, 3, 7, 0), (.bipush 118, 2, 0, 0), (.iaload, 1, 0, 0), (.invokevirtual 120, 3, 81, 2), (.iconst 1, 1, 0, 0), (.iadd, 1, 0, 0), (.iaload, 1, 0, 0), (.goto 4, 3, 75, 0)]
noncomputable def xb_X8_hears_74 : List xI := [(.iconst (-1), 1, 0, 0)]
noncomputable def xb_X8_hears_75 : List xI := [(.ireturn, 1, 0, 0)]
noncomputable def xm_X8_hears : xM := (⟨"PathReaderModel", "hears", "(I)I"⟩, 7, cX8_hears, 2, (some .int), 6, 143, 1, 7, 1, [(0, xb_X8_hears_0), (13, xb_X8_hears_13), (30, xb_X8_hears_30), (74, xb_X8_hears_74), (75, xb_X8_hears_75)])
noncomputable def xb_X7_unhears_0 : List xI := [(.aload_n 0, 1, 0, 0), (.getfield 10, 3, 6, 0), (.getfield 113, 3, 5, 1), (.getfield 126, 3, 3, 5), (.ifCond .ne 10, 3, 20, 0), (.aload_n 0, 1, 0, 0), (.bipush (-3), 2, 0, 0), (.invokevirtual 54, 3, 18, 2), (.ireturn, 1, 0, 0)]
noncomputable def xb_X7_unhears_20 : List xI := [(.aload_n 0, 1, 0, 0), (.getfield 22, 3, 6, 2), (.aload_n 0, 1, 0, 0), (.getfield 10, 3, 6, 0), (.invokevirtual 58, 3, 22, 2), (.aload_n 0, 1, 0, 0), (.getfield 10, 3, 6, 0), (.getfield 113, 3, 5, 1), (.dup, 1, 0, 0), (.getfield 126, 3, 3, 5), (.iconst 1, 1, 0, 0), (.isub, 1, 0, 0), (.putfield 126, 3, 3, 5), (.aload_n 0, 1, 0, 0), (.getfield 10, 3, 6, 0), (.getfield 113, 3, 5, 1), (.getfield 126, 3, 3, 5), (.ireturn, 1, 0, 0)]
noncomputable def xm_X7_unhears : xM := (⟨"PathReader", "unhears", "()I"⟩, 6, cX7_unhears, 1, (some .int), 4, 89, 1, 6, 0, [(0, xb_X7_unhears_0), (20, xb_X7_unhears_20)])
noncomputable def xb_X8_no_0 : List xI := [(.aload_n 0, 1, 0, 0), (.getfield 19, 3, 7, 4), (.iconst 1, 1, 0, 0), (.dup2, 1, 0, 0), (.iaload, 1, 0, 0), (.iconst 1, 1, 0, 0), (.iadd, 1, 0, 0), (.iastore, 1, 0, 0), (.bipush (-3), 2, 0, 0), (.ireturn, 1, 0, 0)]
noncomputable def xm_X8_no : xM := (⟨"PathReaderModel", "no", "()I"⟩, 7, cX8_no, 1, (some .int), 0, 0, 1, 7, 0, [(0, xb_X8_no_0)])
noncomputable def xb_X8_unhears_0 : List xI := [(.aload_n 0, 1, 0, 0), (.getfield 7, 3, 7, 0), (.bipush 118, 2, 0, 0), (.iaload, 1, 0, 0), (.ifCond .ne 8, 3, 15, 0), (.aload_n 0, 1, 0, 0), (.invokevirtual 62, 3, 98, 1), (.ireturn, 1, 0, 0)]
noncomputable def xb_X8_unhears_15 : List xI := [(.aload_n 0, 1, 0, 0), (.invokevirtual 97, 3, 30, 1), (.aload_n 0, 1, 0, 0), (.getfield 7, 3, 7, 0), (.bipush 118, 2, 0, 0), (.dup2, 1, 0, 0), (.iaload, 1, 0, 0), (.iconst 1, 1, 0, 0), (.isub, 1, 0, 0), (.iastore, 1, 0, 0), (.aload_n 0, 1, 0, 0), (.getfield 7, 3, 7, 0), (.bipush 118, 2, 0, 0), (.iaload, 1, 0, 0), (.ireturn, 1, 0, 0)]
noncomputable def xm_X8_unhears : xM := (⟨"PathReaderModel", "unhears", "()I"⟩, 7, cX8_unhears, 1, (some .int), 1, 21, 1, 7, 0, [(0, xb_X8_unhears_0), (15, xb_X8_unhears_15)])
noncomputable def xb_X7_silence_0 : List xI := [(.aload_n 0, 1, 0, 0), (.getfield 22, 3, 6, 2), (.aload_n 0, 1, 0, 0), (.getfield 10, 3, 6, 0), (.invokevirtual 58, 3, 22, 2), (.aload_n 0, 1, 0, 0), (.getfield 10, 3, 6, 0), (.getfield 113, 3, 5, 1), (.getfield 126, 3, 3, 5), (.istore_n 1, 1, 0, 0), (.aload_n 0, 1, 0, 0), (.getfield 10, 3, 6, 0), (.getfield 113, 3, 5, 1), (.iconst 0, 1, 0, 0), (.putfield 126, 3, 3, 5), (.iload_n 1, 1, 0, 0), (.ireturn, 1, 0, 0)]
noncomputable def xm_X7_silence : xM := (⟨"PathReader", "silence", "()I"⟩, 6, cX7_silence, 2, (some .int), 4, 89, 1, 6, 0, [(0, xb_X7_silence_0)])
noncomputable def xb_X8_silence_0 : List xI := [(.aload_n 0, 1, 0, 0), (.invokevirtual 97, 3, 30, 1), (.aload_n 0, 1, 0, 0), (.getfield 7, 3, 7, 0), (.bipush 118, 2, 0, 0), (.iaload, 1, 0, 0), (.istore_n 1, 1, 0, 0), (.aload_n 0, 1, 0, 0), (.getfield 7, 3, 7, 0), (.bipush 118, 2, 0, 0), (.iconst 0, 1, 0, 0), (.iastore, 1, 0, 0), (.iload_n 1, 1, 0, 0), (.ireturn, 1, 0, 0)]
noncomputable def xm_X8_silence : xM := (⟨"PathReaderModel", "silence", "()I"⟩, 7, cX8_silence, 2, (some .int), 1, 21, 1, 7, 0, [(0, xb_X8_silence_0)])
noncomputable def xb_X6_hearAllAnew_0 : List xI := [(.aload_n 0, 1, 0, 0), (.getfield 21, 3, 5, 1), (.getfield 36, 3, 3, 5), (.istore_n 2, 1, 0, 0), (.aload_n 0, 1, 0, 0), (.getfield 21, 3, 5, 1), (.iconst 0, 1, 0, 0), (.putfield 36, 3, 3, 5), (.iconst 1, 1, 0, 0), (.istore_n 3, 1, 0, 0)]
noncomputable def xb_X6_hearAllAnew_18 : List xI := [(.iload_n 3, 1, 0, 0), (.iload_n 2, 1, 0, 0), (.if_icmp .gt 23, 3, 43, 0), (.aload_n 0, 1, 0, 0), (.aload_n 0, 1, 0, 0), (.getfield 21, 3, 5, 1), (.getfield 44, 3, 3, 0), (.iload_n 3, 1, 0, 0), (.iaload, 1, 0, 0), (.aload_n 1, 1, 0, 0), (.invokevirtual 74, 3, 79, 3), (.iinc 3 1, 3, 0, 0), (.goto (-22), 3, 18, 0)]
noncomputable def xb_X6_hearAllAnew_43 : List xI := [(.return_, 1, 0, 0)]
noncomputable def xm_X6_hearAllAnew : xM := (⟨"PathReader$State", "hearAllAnew", "(LPathReader$Chart;)V"⟩, 5, cX6_hearAllAnew, 4, none, 5, 139, 1, 5, 1, [(0, xb_X6_hearAllAnew_0), (18, xb_X6_hearAllAnew_18), (43, xb_X6_hearAllAnew_43)])
noncomputable def xb_X4_sumOfStumbles_0 : List xI := [(.iconst 0, 1, 0, 0), (.istore_n 1, 1, 0, 0), (.iconst 1, 1, 0, 0), (.istore_n 2, 1, 0, 0)]
noncomputable def xb_X4_sumOfStumbles_4 : List xI := [(.iload_n 2, 1, 0, 0), (.aload_n 0, 1, 0, 0), (.getfield 27, 3, 3, 5), (.if_icmp .gt 18, 3, 27, 0), (.iload_n 1, 1, 0, 0), (.aload_n 0, 1, 0, 0), (.getfield 24, 3, 3, 4), (.iload_n 2, 1, 0, 0), (.iaload, 1, 0, 0), (.iadd, 1, 0, 0), (.istore_n 1, 1, 0, 0), (.iinc 2 1, 3, 0, 0), (.goto (-20), 3, 4, 0)]
noncomputable def xb_X4_sumOfStumbles_27 : List xI := [(.iload_n 1, 1, 0, 0), (.ireturn, 1, 0, 0)]
noncomputable def xm_X4_sumOfStumbles : xM := (⟨"PathReader$Sentence", "sumOfStumbles", "()I"⟩, 3, cX4_sumOfStumbles, 3, (some .int), 0, 0, 1, 3, 0, [(0, xb_X4_sumOfStumbles_0), (4, xb_X4_sumOfStumbles_4), (27, xb_X4_sumOfStumbles_27)])
noncomputable def xb_X7_rereads_0 : List xI := [(.aload_n 0, 1, 0, 0), (.getfield 22, 3, 6, 2), (.aload_n 0, 1, 0, 0), (.getfield 10, 3, 6, 0), (.invokevirtual 58, 3, 22, 2), (.aload_n 0, 1, 0, 0), (.getfield 10, 3, 6, 0), (.aload_n 0, 1, 0, 0), (.getfield 29, 3, 6, 3), (.invokevirtual 130, 3, 102, 2), (.aload_n 0, 1, 0, 0), (.getfield 10, 3, 6, 0), (.getfield 113, 3, 5, 1), (.invokevirtual 117, 3, 59, 1), (.ifCond .eq 7, 3, 39, 0), (.iconst (-1), 1, 0, 0), (.goto 13, 3, 49, 0)]
noncomputable def xb_X7_rereads_39 : List xI := [(.aload_n 0, 1, 0, 0), (.getfield 10, 3, 6, 0), (.getfield 113, 3, 5, 1), (.invokevirtual 134, 3, 103, 1)]
noncomputable def xb_X7_rereads_49 : List xI := [(.ireturn, 1, 0, 0)]
noncomputable def xm_X7_rereads : xM := (⟨"PathReader", "rereads", "()I"⟩, 6, cX7_rereads, 1, (some .int), 6, 162, 1, 6, 0, [(0, xb_X7_rereads_0), (39, xb_X7_rereads_39), (49, xb_X7_rereads_49)])
noncomputable def xb_X8_isStuck_0 : List xI := [(.aload_n 0, 1, 0, 0), (.getfield 7, 3, 7, 0), (.bipush 118, 2, 0, 0), (.iaload, 1, 0, 0), (.ifCond .le 21, 3, 28, 0), (.aload_n 0, 1, 0, 0), (.aload_n 0, 1, 0, 0), (.getfield 7, 3, 7, 0), (.bipush 118, 2, 0, 0), (.iaload, 1, 0, 0), (.invokevirtual 168, 3, 82, 2), (.ifCond .ne 7, 3, 28, 0), (.iconst 1, 1, 0, 0), (.goto 4, 3, 29, 0)]
noncomputable def xb_X8_isStuck_28 : List xI := [(.iconst 0, 1, 0, 0)]
noncomputable def xb_X8_isStuck_29 : List xI := [(.ireturn, 1, 0, 0)]
noncomputable def xm_X8_isStuck : xM := (⟨"PathReaderModel", "isStuck", "()Z"⟩, 7, cX8_isStuck, 1, (some .boolean), 2, 42, 1, 7, 0, [(0, xb_X8_isStuck_0), (28, xb_X8_isStuck_28), (29, xb_X8_isStuck_29)])
noncomputable def xb_X8_sumOf_0 : List xI := [(.iconst 0, 1, 0, 0), (.istore_n 2, 1, 0, 0), (.iconst 1, 1, 0, 0), (.istore_n 3, 1, 0, 0)]
noncomputable def xb_X8_sumOf_4 : List xI := [(.iload_n 3, 1, 0, 0), (.aload_n 0, 1, 0, 0), (.getfield 7, 3, 7, 0), (.bipush 118, 2, 0, 0), (.iaload, 1, 0, 0), (.if_icmp .gt 24, 3, 36, 0), (.iload_n 2, 1, 0, 0), (.aload_n 0, 1, 0, 0), (.getfield 7, 3, 7, 0), (.aload_n 0, 1, 0, 0), (.iload_n 3, 1, 0, 0), (.invokevirtual 120, 3, 81, 2), (.iload_n 1, 1, 0, 0), (.iadd, 1, 0, 0), (.iaload, 1, 0, 0), (.iadd, 1, 0, 0), (.istore_n 2, 1, 0, 0), (.iinc 3 1, 3, 0, 0), (.goto (-29), 3, 4, 0)]
noncomputable def xb_X8_sumOf_36 : List xI := [(.iload_n 2, 1, 0, 0), (.ireturn, 1, 0, 0)]
noncomputable def xm_X8_sumOf : xM := (⟨"PathReaderModel", "sumOf", "(I)I"⟩, 7, cX8_sumOf, 4, (some .int), 1, 21, 1, 7, 1, [(0, xb_X8_sumOf_0), (4, xb_X8_sumOf_4), (36, xb_X8_sumOf_36)])
noncomputable def xb_X8_rereads_0 : List xI := [(.aload_n 0, 1, 0, 0), (.invokevirtual 97, 3, 30, 1), (.aload_n 0, 1, 0, 0), (.getfield 7, 3, 7, 0), (.bipush 118, 2, 0, 0), (.iaload, 1, 0, 0), (.istore_n 1, 1, 0, 0), (.aload_n 0, 1, 0, 0), (.getfield 7, 3, 7, 0), (.bipush 118, 2, 0, 0), (.iconst 0, 1, 0, 0), (.iastore, 1, 0, 0), (.iconst 1, 1, 0, 0), (.istore_n 2, 1, 0, 0)]
noncomputable def xb_X8_rereads_22 : List xI := [(.iload_n 2, 1, 0, 0), (.iload_n 1, 1, 0, 0), (.if_icmp .gt 23, 3, 47, 0), (.aload_n 0, 1, 0, 0), (.aload_n 0, 1, 0, 0), (.getfield 7, 3, 7, 0), (.aload_n 0, 1, 0, 0), (.iload_n 2, 1, 0, 0), (.invokevirtual 120, 3, 81, 2), (.iaload, 1, 0, 0), (.invokevirtual 177, 3, 95, 2), (.iinc 2 1, 3, 0, 0), (.goto (-22), 3, 22, 0)]
noncomputable def xb_X8_rereads_47 : List xI := [(.aload_n 0, 1, 0, 0), (.invokevirtual 180, 3, 105, 1), (.ifCond .eq 7, 3, 58, 0), (.iconst (-1), 1, 0, 0), (.goto 8, 3, 63, 0)]
noncomputable def xb_X8_rereads_58 : List xI := [(.aload_n 0, 1, 0, 0), (.iconst 2, 1, 0, 0), (.invokevirtual 184, 3, 106, 2)]
noncomputable def xb_X8_rereads_63 : List xI := [(.ireturn, 1, 0, 0)]
noncomputable def xm_X8_rereads : xM := (⟨"PathReaderModel", "rereads", "()I"⟩, 7, cX8_rereads, 3, (some .int), 6, 143, 1, 7, 0, [(0, xb_X8_rereads_0), (22, xb_X8_rereads_22), (47, xb_X8_rereads_47), (58, xb_X8_rereads_58), (63, xb_X8_rereads_63)])
noncomputable def xb_X7_word_0 : List xI := [(.aload_n 0, 1, 0, 0), (.getfield 10, 3, 6, 0), (.getfield 113, 3, 5, 1), (.astore_n 3, 1, 0, 0), (.iload_n 1, 1, 0, 0), (.iconst 1, 1, 0, 0), (.if_icmp .lt 11, 3, 21, 0), (.iload_n 1, 1, 0, 0), (.aload_n 3, 1, 0, 0), (.getfield 126, 3, 3, 5), (.if_icmp .le 10, 3, 28, 0)]
noncomputable def xb_X7_word_21 : List xI := [(.aload_n 0, 1, 0, 0), (.bipush (-2), 2, 0, 0), (.invokevirtual 54, 3, 18, 2), (.ireturn, 1, 0, 0)]
noncomputable def xb_X7_word_28 : List xI := [(.aload_n 3, 1, 0, 0), (.invokevirtual 138, 3, 58, 1), (.istore 4, 2, 0, 0), (.iload_n 2, 1, 0, 0), (.tableswitch 99 0 5 #[37, 44, 61, 78, 85, 92], 37, 0, 0)]
noncomputable def xb_X7_word_72 : List xI := [(.aload_n 3, 1, 0, 0), (.getfield 141, 3, 3, 0), (.iload_n 1, 1, 0, 0), (.iaload, 1, 0, 0), (.ireturn, 1, 0, 0)]
noncomputable def xb_X7_word_79 : List xI := [(.iload 4, 2, 0, 0), (.iconst (-1), 1, 0, 0), (.if_icmp .ne 7, 3, 89, 0), (.iconst (-1), 1, 0, 0), (.goto 9, 3, 95, 0)]
noncomputable def xb_X7_word_89 : List xI := [(.iload 4, 2, 0, 0), (.iload_n 1, 1, 0, 0), (.invokestatic 144, 3, 61, 2)]
noncomputable def xb_X7_word_95 : List xI := [(.ireturn, 1, 0, 0)]
noncomputable def xb_X7_word_96 : List xI := [(.iload 4, 2, 0, 0), (.iconst (-1), 1, 0, 0), (.if_icmp .ne 7, 3, 106, 0), (.iconst (-1), 1, 0, 0), (.goto 9, 3, 112, 0)]
noncomputable def xb_X7_word_106 : List xI := [(.iload 4, 2, 0, 0), (.iload_n 1, 1, 0, 0), (.invokestatic 149, 3, 60, 2)]
noncomputable def xb_X7_word_112 : List xI := [(.ireturn, 1, 0, 0)]
noncomputable def xb_X7_word_113 : List xI := [(.aload_n 3, 1, 0, 0), (.getfield 123, 3, 3, 3), (.iload_n 1, 1, 0, 0), (.iaload, 1, 0, 0), (.ireturn, 1, 0, 0)]
noncomputable def xb_X7_word_120 : List xI := [(.aload_n 3, 1, 0, 0), (.getfield 152, 3, 3, 4), (.iload_n 1, 1, 0, 0), (.iaload, 1, 0, 0), (.ireturn, 1, 0, 0)]
noncomputable def xb_X7_word_127 : List xI := [(.aload_n 3, 1, 0, 0), (.getfield 155, 3, 3, 2), (.iload_n 1, 1, 0, 0), (.iaload, 1, 0, 0), (.ireturn, 1, 0, 0)]
noncomputable def xb_X7_word_134 : List xI := [(.aload_n 0, 1, 0, 0), (.bipush (-2), 2, 0, 0), (.invokevirtual 54, 3, 18, 2), (.ireturn, 1, 0, 0)]
noncomputable def xm_X7_word : xM := (⟨"PathReader", "word", "(II)I"⟩, 6, cX7_word, 5, (some .int), 1, 21, 1, 6, 2, [(0, xb_X7_word_0), (21, xb_X7_word_21), (28, xb_X7_word_28), (72, xb_X7_word_72), (79, xb_X7_word_79), (89, xb_X7_word_89), (95, xb_X7_word_95), (96, xb_X7_word_96), (106, xb_X7_word_106), (112, xb_X7_word_112), (113, xb_X7_word_113), (120, xb_X7_word_120), (127, xb_X7_word_127), (134, xb_X7_word_134)])
noncomputable def xb_X8_wordOf_0 : List xI := [(.iload_n 2, 1, 0, 0), (.ifCond .eq 8, 3, 9, 0), (.iload_n 2, 1, 0, 0), (.iconst 2, 1, 0, 0), (.if_icmp .le 26, 3, 32, 0)]
noncomputable def xb_X8_wordOf_9 : List xI := [(.aload_n 0, 1, 0, 0), (.getfield 7, 3, 7, 0), (.aload_n 0, 1, 0, 0), (.iload_n 1, 1, 0, 0), (.invokevirtual 120, 3, 81, 2), (.iload_n 2, 1, 0, 0), (.ifCond .ne 7, 3, 26, 0), (.iconst 0, 1, 0, 0), (.goto 6, 3, 29, 0)]
noncomputable def xb_X8_wordOf_26 : List xI := [(.iload_n 2, 1, 0, 0), (.iconst 2, 1, 0, 0), (.isub, 1, 0, 0)]
noncomputable def xb_X8_wordOf_29 : List xI := [(.iadd, 1, 0, 0), (.iaload, 1, 0, 0), (.ireturn, 1, 0, 0)]
noncomputable def xb_X8_wordOf_32 : List xI := [(.aload_n 0, 1, 0, 0), (.aload_n 0, 1, 0, 0), (.getfield 7, 3, 7, 0), (.bipush 118, 2, 0, 0), (.iaload, 1, 0, 0), (.invokevirtual 168, 3, 82, 2), (.ifCond .ne 5, 3, 48, 0), (.iconst (-1), 1, 0, 0), (.ireturn, 1, 0, 0)]
noncomputable def xb_X8_wordOf_48 : List xI := [(.aload_n 0, 1, 0, 0), (.aload_n 0, 1, 0, 0), (.getfield 7, 3, 7, 0), (.bipush 118, 2, 0, 0), (.iaload, 1, 0, 0), (.invokevirtual 164, 3, 83, 2), (.iload_n 2, 1, 0, 0), (.iconst 1, 1, 0, 0), (.if_icmp .ne 12, 3, 73, 0), (.aload_n 0, 1, 0, 0), (.getfield 28, 3, 7, 8), (.iload_n 1, 1, 0, 0), (.iaload, 1, 0, 0), (.goto 9, 3, 79, 0)]
noncomputable def xb_X8_wordOf_73 : List xI := [(.aload_n 0, 1, 0, 0), (.getfield 25, 3, 7, 7), (.iload_n 1, 1, 0, 0), (.iaload, 1, 0, 0)]
noncomputable def xb_X8_wordOf_79 : List xI := [(.ireturn, 1, 0, 0)]
noncomputable def xm_X8_wordOf : xM := (⟨"PathReaderModel", "wordOf", "(II)I"⟩, 7, cX8_wordOf, 3, (some .int), 2, 45, 1, 7, 2, [(0, xb_X8_wordOf_0), (9, xb_X8_wordOf_9), (26, xb_X8_wordOf_26), (29, xb_X8_wordOf_29), (32, xb_X8_wordOf_32), (48, xb_X8_wordOf_48), (73, xb_X8_wordOf_73), (79, xb_X8_wordOf_79)])
noncomputable def xb_X8_word_0 : List xI := [(.iload_n 1, 1, 0, 0), (.iconst 1, 1, 0, 0), (.aload_n 0, 1, 0, 0), (.getfield 7, 3, 7, 0), (.bipush 118, 2, 0, 0), (.iaload, 1, 0, 0), (.invokestatic 81, 3, 25, 3), (.ifCond .eq 21, 3, 33, 0), (.iload_n 2, 1, 0, 0), (.iconst 0, 1, 0, 0), (.iconst 5, 1, 0, 0), (.invokestatic 81, 3, 25, 3), (.ifCond .eq 12, 3, 33, 0), (.aload_n 0, 1, 0, 0), (.iload_n 1, 1, 0, 0), (.iload_n 2, 1, 0, 0), (.invokevirtual 187, 3, 109, 3), (.goto 7, 3, 37, 0)]
noncomputable def xb_X8_word_33 : List xI := [(.aload_n 0, 1, 0, 0), (.invokevirtual 94, 3, 29, 1)]
noncomputable def xb_X8_word_37 : List xI := [(.ireturn, 1, 0, 0)]
noncomputable def xm_X8_word : xM := (⟨"PathReaderModel", "word", "(II)I"⟩, 7, cX8_word, 3, (some .int), 3, 67, 1, 7, 2, [(0, xb_X8_word_0), (33, xb_X8_word_33), (37, xb_X8_word_37)])
noncomputable def xb_X4_sumOfRepairs_0 : List xI := [(.iconst 0, 1, 0, 0), (.istore_n 1, 1, 0, 0), (.iconst 1, 1, 0, 0), (.istore_n 2, 1, 0, 0)]
noncomputable def xb_X4_sumOfRepairs_4 : List xI := [(.iload_n 2, 1, 0, 0), (.aload_n 0, 1, 0, 0), (.getfield 27, 3, 3, 5), (.if_icmp .gt 18, 3, 27, 0), (.iload_n 1, 1, 0, 0), (.aload_n 0, 1, 0, 0), (.getfield 21, 3, 3, 3), (.iload_n 2, 1, 0, 0), (.iaload, 1, 0, 0), (.iadd, 1, 0, 0), (.istore_n 1, 1, 0, 0), (.iinc 2 1, 3, 0, 0), (.goto (-20), 3, 4, 0)]
noncomputable def xb_X4_sumOfRepairs_27 : List xI := [(.iload_n 1, 1, 0, 0), (.ireturn, 1, 0, 0)]
noncomputable def xm_X4_sumOfRepairs : xM := (⟨"PathReader$Sentence", "sumOfRepairs", "()I"⟩, 3, cX4_sumOfRepairs, 3, (some .int), 0, 0, 1, 3, 0, [(0, xb_X4_sumOfRepairs_0), (4, xb_X4_sumOfRepairs_4), (27, xb_X4_sumOfRepairs_27)])
noncomputable def xb_X2_rootOf_0 : List xI := [(.iconst 1, 1, 0, 0), (.istore_n 2, 1, 0, 0)]
noncomputable def xb_X2_rootOf_2 : List xI := [(.iload_n 2, 1, 0, 0), (.iload_n 1, 1, 0, 0), (.if_icmp .gt 19, 3, 23, 0), (.iload_n 0, 1, 0, 0), (.iload_n 2, 1, 0, 0), (.invokestatic 11, 3, 60, 2), (.ifCond .ne 5, 3, 17, 0), (.iload_n 2, 1, 0, 0), (.ireturn, 1, 0, 0)]
noncomputable def xb_X2_rootOf_17 : List xI := [(.iinc 2 1, 3, 0, 0), (.goto (-18), 3, 2, 0)]
noncomputable def xb_X2_rootOf_23 : List xI := [(.iconst (-1), 1, 0, 0), (.ireturn, 1, 0, 0)]
noncomputable def xm_X2_rootOf : xM := (⟨"PathReader$Row", "rootOf", "(II)I"⟩, 8, cX2_rootOf, 3, (some .int), 1, 21, 0, 0, 2, [(0, xb_X2_rootOf_0), (2, xb_X2_rootOf_2), (17, xb_X2_rootOf_17), (23, xb_X2_rootOf_23)])
noncomputable def xb_X2_levelOf_0 : List xI := [(.iconst 0, 1, 0, 0), (.istore_n 2, 1, 0, 0), (.iload_n 0, 1, 0, 0), (.iload_n 1, 1, 0, 0), (.invokestatic 11, 3, 60, 2), (.istore_n 3, 1, 0, 0)]
noncomputable def xb_X2_levelOf_8 : List xI := [(.iload_n 3, 1, 0, 0), (.ifCond .eq 21, 3, 30, 0), (.iload_n 2, 1, 0, 0), (.bipush 6, 2, 0, 0), (.if_icmp .ge 15, 3, 30, 0), (.iinc 2 1, 3, 0, 0), (.iload_n 0, 1, 0, 0), (.iload_n 3, 1, 0, 0), (.invokestatic 11, 3, 60, 2), (.istore_n 3, 1, 0, 0), (.goto (-19), 3, 8, 0)]
noncomputable def xb_X2_levelOf_30 : List xI := [(.iload_n 2, 1, 0, 0), (.ireturn, 1, 0, 0)]
noncomputable def xm_X2_levelOf : xM := (⟨"PathReader$Row", "levelOf", "(II)I"⟩, 8, cX2_levelOf, 4, (some .int), 1, 21, 0, 0, 2, [(0, xb_X2_levelOf_0), (8, xb_X2_levelOf_8), (30, xb_X2_levelOf_30)])
noncomputable def xb_X2_deepestLevel_0 : List xI := [(.iconst 0, 1, 0, 0), (.istore_n 2, 1, 0, 0), (.iconst 1, 1, 0, 0), (.istore_n 3, 1, 0, 0)]
noncomputable def xb_X2_deepestLevel_4 : List xI := [(.iload_n 3, 1, 0, 0), (.iload_n 1, 1, 0, 0), (.if_icmp .gt 19, 3, 25, 0), (.iload_n 2, 1, 0, 0), (.iload_n 0, 1, 0, 0), (.iload_n 3, 1, 0, 0), (.invokestatic 15, 3, 113, 2), (.invokestatic 18, 3, 1002, 0), (.istore_n 2, 1, 0, 0), (.iinc 3 1, 3, 0, 0), (.goto (-18), 3, 4, 0)]
noncomputable def xb_X2_deepestLevel_25 : List xI := [(.iload_n 2, 1, 0, 0), (.ireturn, 1, 0, 0)]
noncomputable def xm_X2_deepestLevel : xM := (⟨"PathReader$Row", "deepestLevel", "(II)I"⟩, 8, cX2_deepestLevel, 4, (some .int), 2, 44, 0, 0, 2, [(0, xb_X2_deepestLevel_0), (4, xb_X2_deepestLevel_4), (25, xb_X2_deepestLevel_25)])
noncomputable def xb_X7_held_0 : List xI := [(.aload_n 0, 1, 0, 0), (.getfield 10, 3, 6, 0), (.getfield 113, 3, 5, 1), (.astore_n 2, 1, 0, 0), (.aload_n 2, 1, 0, 0), (.invokevirtual 138, 3, 58, 1), (.istore_n 3, 1, 0, 0), (.iload_n 1, 1, 0, 0), (.tableswitch 116 0 6 #[42, 47, 60, 65, 70, 80, 98], 42, 0, 0)]
noncomputable def xb_X7_held_56 : List xI := [(.aload_n 2, 1, 0, 0), (.getfield 126, 3, 3, 5), (.ireturn, 1, 0, 0)]
noncomputable def xb_X7_held_61 : List xI := [(.aload_n 2, 1, 0, 0), (.invokevirtual 117, 3, 59, 1), (.ifCond .eq 7, 3, 72, 0), (.iconst 1, 1, 0, 0), (.goto 4, 3, 73, 0)]
noncomputable def xb_X7_held_72 : List xI := [(.iconst 0, 1, 0, 0)]
noncomputable def xb_X7_held_73 : List xI := [(.ireturn, 1, 0, 0)]
noncomputable def xb_X7_held_74 : List xI := [(.aload_n 2, 1, 0, 0), (.invokevirtual 134, 3, 103, 1), (.ireturn, 1, 0, 0)]
noncomputable def xb_X7_held_79 : List xI := [(.aload_n 2, 1, 0, 0), (.invokevirtual 158, 3, 111, 1), (.ireturn, 1, 0, 0)]
noncomputable def xb_X7_held_84 : List xI := [(.aload_n 2, 1, 0, 0), (.getfield 155, 3, 3, 2), (.aload_n 2, 1, 0, 0), (.getfield 126, 3, 3, 5), (.iaload, 1, 0, 0), (.ireturn, 1, 0, 0)]
noncomputable def xb_X7_held_94 : List xI := [(.iload_n 3, 1, 0, 0), (.iconst (-1), 1, 0, 0), (.if_icmp .ne 7, 3, 103, 0), (.iconst (-1), 1, 0, 0), (.goto 11, 3, 111, 0)]
noncomputable def xb_X7_held_103 : List xI := [(.iload_n 3, 1, 0, 0), (.aload_n 2, 1, 0, 0), (.getfield 126, 3, 3, 5), (.invokestatic 161, 3, 112, 2)]
noncomputable def xb_X7_held_111 : List xI := [(.ireturn, 1, 0, 0)]
noncomputable def xb_X7_held_112 : List xI := [(.iload_n 3, 1, 0, 0), (.iconst (-1), 1, 0, 0), (.if_icmp .ne 7, 3, 121, 0), (.iconst (-1), 1, 0, 0), (.goto 11, 3, 129, 0)]
noncomputable def xb_X7_held_121 : List xI := [(.iload_n 3, 1, 0, 0), (.aload_n 2, 1, 0, 0), (.getfield 126, 3, 3, 5), (.invokestatic 164, 3, 114, 2)]
noncomputable def xb_X7_held_129 : List xI := [(.ireturn, 1, 0, 0)]
noncomputable def xb_X7_held_130 : List xI := [(.aload_n 0, 1, 0, 0), (.bipush (-2), 2, 0, 0), (.invokevirtual 54, 3, 18, 2), (.ireturn, 1, 0, 0)]
noncomputable def xm_X7_held : xM := (⟨"PathReader", "held", "(I)I"⟩, 6, cX7_held, 4, (some .int), 3, 67, 1, 6, 1, [(0, xb_X7_held_0), (56, xb_X7_held_56), (61, xb_X7_held_61), (72, xb_X7_held_72), (73, xb_X7_held_73), (74, xb_X7_held_74), (79, xb_X7_held_79), (84, xb_X7_held_84), (94, xb_X7_held_94), (103, xb_X7_held_103), (111, xb_X7_held_111), (112, xb_X7_held_112), (121, xb_X7_held_121), (129, xb_X7_held_129), (130, xb_X7_held_130)])
noncomputable def xb_X8_levelOf_0 : List xI := [(.iconst 0, 1, 0, 0), (.istore_n 2, 1, 0, 0), (.iload_n 1, 1, 0, 0), (.istore_n 3, 1, 0, 0)]
noncomputable def xb_X8_levelOf_4 : List xI := [(.aload_n 0, 1, 0, 0), (.getfield 25, 3, 7, 7), (.iload_n 3, 1, 0, 0), (.iaload, 1, 0, 0), (.ifCond .eq 16, 3, 26, 0), (.iinc 2 1, 3, 0, 0), (.aload_n 0, 1, 0, 0), (.getfield 25, 3, 7, 7), (.iload_n 3, 1, 0, 0), (.iaload, 1, 0, 0), (.istore_n 3, 1, 0, 0), (.goto (-19), 3, 4, 0)]
noncomputable def xb_X8_levelOf_26 : List xI := [(.iload_n 2, 1, 0, 0), (.ireturn, 1, 0, 0)]
noncomputable def xm_X8_levelOf : xM := (⟨"PathReaderModel", "levelOf", "(I)I"⟩, 7, cX8_levelOf, 4, (some .int), 0, 0, 1, 7, 1, [(0, xb_X8_levelOf_0), (4, xb_X8_levelOf_4), (26, xb_X8_levelOf_26)])
noncomputable def xb_X8_heldOf_0 : List xI := [(.aload_n 0, 1, 0, 0), (.getfield 7, 3, 7, 0), (.bipush 118, 2, 0, 0), (.iaload, 1, 0, 0), (.istore_n 2, 1, 0, 0), (.aload_n 0, 1, 0, 0), (.iload_n 2, 1, 0, 0), (.invokevirtual 164, 3, 83, 2), (.iconst (-1), 1, 0, 0), (.istore_n 3, 1, 0, 0), (.iconst 0, 1, 0, 0), (.istore 4, 2, 0, 0), (.iconst 1, 1, 0, 0), (.istore 5, 2, 0, 0)]
noncomputable def xb_X8_heldOf_21 : List xI := [(.iload 5, 2, 0, 0), (.iload_n 2, 1, 0, 0), (.if_icmp .gt 50, 3, 74, 0), (.aload_n 0, 1, 0, 0), (.getfield 25, 3, 7, 7), (.iload 5, 2, 0, 0), (.iaload, 1, 0, 0), (.ifCond .ne 8, 3, 42, 0), (.iload 5, 2, 0, 0), (.goto 4, 3, 43, 0)]
noncomputable def xb_X8_heldOf_42 : List xI := [(.iload_n 3, 1, 0, 0)]
noncomputable def xb_X8_heldOf_43 : List xI := [(.istore_n 3, 1, 0, 0), (.aload_n 0, 1, 0, 0), (.iload 5, 2, 0, 0), (.invokevirtual 190, 3, 116, 2), (.iload 4, 2, 0, 0), (.if_icmp .le 12, 3, 64, 0), (.aload_n 0, 1, 0, 0), (.iload 5, 2, 0, 0), (.invokevirtual 190, 3, 116, 2), (.goto 5, 3, 66, 0)]
noncomputable def xb_X8_heldOf_64 : List xI := [(.iload 4, 2, 0, 0)]
noncomputable def xb_X8_heldOf_66 : List xI := [(.istore 4, 2, 0, 0), (.iinc 5 1, 3, 0, 0), (.goto (-50), 3, 21, 0)]
noncomputable def xb_X8_heldOf_74 : List xI := [(.iload_n 1, 1, 0, 0), (.iconst 5, 1, 0, 0), (.if_icmp .ne 7, 3, 83, 0), (.iload_n 3, 1, 0, 0), (.goto 5, 3, 85, 0)]
noncomputable def xb_X8_heldOf_83 : List xI := [(.iload 4, 2, 0, 0)]
noncomputable def xb_X8_heldOf_85 : List xI := [(.ireturn, 1, 0, 0)]
noncomputable def xm_X8_heldOf : xM := (⟨"PathReaderModel", "heldOf", "(I)I"⟩, 7, cX8_heldOf, 6, (some .int), 2, 45, 1, 7, 1, [(0, xb_X8_heldOf_0), (21, xb_X8_heldOf_21), (42, xb_X8_heldOf_42), (43, xb_X8_heldOf_43), (64, xb_X8_heldOf_64), (66, xb_X8_heldOf_66), (74, xb_X8_heldOf_74), (83, xb_X8_heldOf_83), (85, xb_X8_heldOf_85)])
noncomputable def xb_X8_aboutHeld_0 : List xI := [(.iload_n 1, 1, 0, 0), (.tableswitch 105 0 4 #[35, 43, 56, 62, 68], 35, 0, 0)]
noncomputable def xb_X8_aboutHeld_36 : List xI := [(.aload_n 0, 1, 0, 0), (.getfield 7, 3, 7, 0), (.bipush 118, 2, 0, 0), (.iaload, 1, 0, 0), (.ireturn, 1, 0, 0)]
noncomputable def xb_X8_aboutHeld_44 : List xI := [(.aload_n 0, 1, 0, 0), (.invokevirtual 180, 3, 105, 1), (.ifCond .eq 7, 3, 55, 0), (.iconst 1, 1, 0, 0), (.goto 4, 3, 56, 0)]
noncomputable def xb_X8_aboutHeld_55 : List xI := [(.iconst 0, 1, 0, 0)]
noncomputable def xb_X8_aboutHeld_56 : List xI := [(.ireturn, 1, 0, 0)]
noncomputable def xb_X8_aboutHeld_57 : List xI := [(.aload_n 0, 1, 0, 0), (.iconst 2, 1, 0, 0), (.invokevirtual 184, 3, 106, 2), (.ireturn, 1, 0, 0)]
noncomputable def xb_X8_aboutHeld_63 : List xI := [(.aload_n 0, 1, 0, 0), (.iconst 1, 1, 0, 0), (.invokevirtual 184, 3, 106, 2), (.ireturn, 1, 0, 0)]
noncomputable def xb_X8_aboutHeld_69 : List xI := [(.aload_n 0, 1, 0, 0), (.aload_n 0, 1, 0, 0), (.getfield 7, 3, 7, 0), (.bipush 118, 2, 0, 0), (.iaload, 1, 0, 0), (.invokevirtual 168, 3, 82, 2), (.ifCond .eq 24, 3, 104, 0), (.aload_n 0, 1, 0, 0), (.getfield 7, 3, 7, 0), (.aload_n 0, 1, 0, 0), (.aload_n 0, 1, 0, 0), (.getfield 7, 3, 7, 0), (.bipush 118, 2, 0, 0), (.iaload, 1, 0, 0), (.invokevirtual 120, 3, 81, 2), (.iconst 3, 1, 0, 0), (.iadd, 1, 0, 0), (.iaload, 1, 0, 0), (.goto 4, 3, 105, 0)]
noncomputable def xb_X8_aboutHeld_104 : List xI := [(.iconst (-1), 1, 0, 0)]
noncomputable def xb_X8_aboutHeld_105 : List xI := [(.ireturn, 1, 0, 0)]
noncomputable def xb_X8_aboutHeld_106 : List xI := [(.aload_n 0, 1, 0, 0), (.aload_n 0, 1, 0, 0), (.getfield 7, 3, 7, 0), (.bipush 118, 2, 0, 0), (.iaload, 1, 0, 0), (.invokevirtual 168, 3, 82, 2), (.ifCond .eq 11, 3, 128, 0), (.aload_n 0, 1, 0, 0), (.iload_n 1, 1, 0, 0), (.invokevirtual 193, 3, 117, 2), (.goto 4, 3, 129, 0)]
noncomputable def xb_X8_aboutHeld_128 : List xI := [(.iconst (-1), 1, 0, 0)]
noncomputable def xb_X8_aboutHeld_129 : List xI := [(.ireturn, 1, 0, 0)]
noncomputable def xm_X8_aboutHeld : xM := (⟨"PathReaderModel", "aboutHeld", "(I)I"⟩, 7, cX8_aboutHeld, 2, (some .int), 3, 70, 1, 7, 1, [(0, xb_X8_aboutHeld_0), (36, xb_X8_aboutHeld_36), (44, xb_X8_aboutHeld_44), (55, xb_X8_aboutHeld_55), (56, xb_X8_aboutHeld_56), (57, xb_X8_aboutHeld_57), (63, xb_X8_aboutHeld_63), (69, xb_X8_aboutHeld_69), (104, xb_X8_aboutHeld_104), (105, xb_X8_aboutHeld_105), (106, xb_X8_aboutHeld_106), (128, xb_X8_aboutHeld_128), (129, xb_X8_aboutHeld_129)])
noncomputable def xb_X8_held_0 : List xI := [(.iload_n 1, 1, 0, 0), (.iconst 0, 1, 0, 0), (.bipush 6, 2, 0, 0), (.invokestatic 81, 3, 25, 3), (.ifCond .eq 11, 3, 18, 0), (.aload_n 0, 1, 0, 0), (.iload_n 1, 1, 0, 0), (.invokevirtual 196, 3, 118, 2), (.goto 7, 3, 22, 0)]
noncomputable def xb_X8_held_18 : List xI := [(.aload_n 0, 1, 0, 0), (.invokevirtual 94, 3, 29, 1)]
noncomputable def xb_X8_held_22 : List xI := [(.ireturn, 1, 0, 0)]
noncomputable def xm_X8_held : xM := (⟨"PathReaderModel", "held", "(I)I"⟩, 7, cX8_held, 2, (some .int), 4, 91, 1, 7, 1, [(0, xb_X8_held_0), (18, xb_X8_held_18), (22, xb_X8_held_22)])
noncomputable def xb_X7_best_0 : List xI := [(.iload_n 1, 1, 0, 0), (.ifCond .lt 26, 3, 27, 0), (.iload_n 1, 1, 0, 0), (.aload_n 0, 1, 0, 0), (.getfield 10, 3, 6, 0), (.getfield 113, 3, 5, 1), (.getfield 126, 3, 3, 5), (.if_icmp .gt 12, 3, 27, 0), (.iload_n 2, 1, 0, 0), (.ifCond .eq 15, 3, 34, 0), (.iload_n 2, 1, 0, 0), (.iconst 1, 1, 0, 0), (.if_icmp .eq 10, 3, 34, 0)]
noncomputable def xb_X7_best_27 : List xI := [(.aload_n 0, 1, 0, 0), (.bipush (-2), 2, 0, 0), (.invokevirtual 54, 3, 18, 2), (.ireturn, 1, 0, 0)]
noncomputable def xb_X7_best_34 : List xI := [(.aload_n 0, 1, 0, 0), (.getfield 29, 3, 6, 3), (.aload_n 0, 1, 0, 0), (.getfield 10, 3, 6, 0), (.iconst 0, 1, 0, 0), (.invokevirtual 167, 3, 73, 3), (.aload_n 0, 1, 0, 0), (.getfield 29, 3, 6, 3), (.invokevirtual 171, 3, 74, 1), (.ifCond .ne 5, 3, 58, 0), (.iconst (-1), 1, 0, 0), (.ireturn, 1, 0, 0)]
noncomputable def xb_X7_best_58 : List xI := [(.iload_n 1, 1, 0, 0), (.ifCond .ne 11, 3, 70, 0), (.aload_n 0, 1, 0, 0), (.getfield 29, 3, 6, 3), (.invokevirtual 174, 3, 78, 1), (.ireturn, 1, 0, 0)]
noncomputable def xb_X7_best_70 : List xI := [(.aload_n 0, 1, 0, 0), (.getfield 29, 3, 6, 3), (.invokevirtual 177, 3, 77, 1), (.istore_n 3, 1, 0, 0), (.iload_n 2, 1, 0, 0), (.ifCond .ne 11, 3, 90, 0), (.iload_n 3, 1, 0, 0), (.iload_n 1, 1, 0, 0), (.invokestatic 144, 3, 61, 2), (.goto 8, 3, 95, 0)]
noncomputable def xb_X7_best_90 : List xI := [(.iload_n 3, 1, 0, 0), (.iload_n 1, 1, 0, 0), (.invokestatic 149, 3, 60, 2)]
noncomputable def xb_X7_best_95 : List xI := [(.ireturn, 1, 0, 0)]
noncomputable def xm_X7_best : xM := (⟨"PathReader", "best", "(II)I"⟩, 6, cX7_best, 4, (some .int), 4, 114, 1, 6, 2, [(0, xb_X7_best_0), (27, xb_X7_best_27), (34, xb_X7_best_34), (58, xb_X7_best_58), (70, xb_X7_best_70), (90, xb_X7_best_90), (95, xb_X7_best_95)])
noncomputable def xb_X8_digitOf_0 : List xI := [(.iload_n 1, 1, 0, 0), (.istore 4, 2, 0, 0), (.iload_n 2, 1, 0, 0), (.istore 5, 2, 0, 0)]
noncomputable def xb_X8_digitOf_6 : List xI := [(.iload 5, 2, 0, 0), (.iload_n 3, 1, 0, 0), (.if_icmp .ge 16, 3, 25, 0), (.iload 4, 2, 0, 0), (.bipush 14, 2, 0, 0), (.idiv, 1, 0, 0), (.istore 4, 2, 0, 0), (.iinc 5 1, 3, 0, 0), (.goto (-16), 3, 6, 0)]
noncomputable def xb_X8_digitOf_25 : List xI := [(.iload 4, 2, 0, 0), (.bipush 14, 2, 0, 0), (.irem, 1, 0, 0), (.ireturn, 1, 0, 0)]
noncomputable def xm_X8_digitOf : xM := (⟨"PathReaderModel", "digitOf", "(III)I"⟩, 7, cX8_digitOf, 6, (some .int), 0, 0, 1, 7, 3, [(0, xb_X8_digitOf_0), (6, xb_X8_digitOf_6), (25, xb_X8_digitOf_25)])
noncomputable def xb_X8_best_0 : List xI := [(.aload_n 0, 1, 0, 0), (.getfield 7, 3, 7, 0), (.bipush 118, 2, 0, 0), (.iaload, 1, 0, 0), (.istore_n 3, 1, 0, 0), (.iload_n 2, 1, 0, 0), (.iconst 0, 1, 0, 0), (.iconst 1, 1, 0, 0), (.invokestatic 81, 3, 25, 3), (.ifCond .eq 12, 3, 26, 0), (.iload_n 1, 1, 0, 0), (.iconst 0, 1, 0, 0), (.iload_n 3, 1, 0, 0), (.invokestatic 81, 3, 25, 3), (.ifCond .ne 8, 3, 31, 0)]
noncomputable def xb_X8_best_26 : List xI := [(.aload_n 0, 1, 0, 0), (.invokevirtual 94, 3, 29, 1), (.ireturn, 1, 0, 0)]
noncomputable def xb_X8_best_31 : List xI := [(.aload_n 0, 1, 0, 0), (.iconst 0, 1, 0, 0), (.putfield 139, 3, 7, 14), (.iload_n 3, 1, 0, 0), (.ifCond .le 9, 3, 46, 0), (.aload_n 0, 1, 0, 0), (.iload_n 3, 1, 0, 0), (.iconst 0, 1, 0, 0), (.invokevirtual 174, 3, 94, 3)]
noncomputable def xb_X8_best_46 : List xI := [(.aload_n 0, 1, 0, 0), (.getfield 139, 3, 7, 14), (.ifCond .eq 7, 3, 57, 0), (.iload_n 1, 1, 0, 0), (.ifCond .ne 19, 3, 73, 0)]
noncomputable def xb_X8_best_57 : List xI := [(.aload_n 0, 1, 0, 0), (.getfield 139, 3, 7, 14), (.ifCond .ne 7, 3, 68, 0), (.iconst (-1), 1, 0, 0), (.goto 7, 3, 72, 0)]
noncomputable def xb_X8_best_68 : List xI := [(.aload_n 0, 1, 0, 0), (.getfield 133, 3, 7, 15)]
noncomputable def xb_X8_best_72 : List xI := [(.ireturn, 1, 0, 0)]
noncomputable def xb_X8_best_73 : List xI := [(.aload_n 0, 1, 0, 0), (.aload_n 0, 1, 0, 0), (.getfield 142, 3, 7, 17), (.iload_n 1, 1, 0, 0), (.iload_n 3, 1, 0, 0), (.invokevirtual 199, 3, 121, 4), (.istore 4, 2, 0, 0), (.iload_n 2, 1, 0, 0), (.ifCond .ne 11, 3, 97, 0), (.iload 4, 2, 0, 0), (.bipush 7, 2, 0, 0), (.idiv, 1, 0, 0), (.goto 8, 3, 102, 0)]
noncomputable def xb_X8_best_97 : List xI := [(.iload 4, 2, 0, 0), (.bipush 7, 2, 0, 0), (.irem, 1, 0, 0)]
noncomputable def xb_X8_best_102 : List xI := [(.ireturn, 1, 0, 0)]
noncomputable def xm_X8_best : xM := (⟨"PathReaderModel", "best", "(II)I"⟩, 7, cX8_best, 5, (some .int), 5, 119, 1, 7, 2, [(0, xb_X8_best_0), (26, xb_X8_best_26), (31, xb_X8_best_31), (46, xb_X8_best_46), (57, xb_X8_best_57), (68, xb_X8_best_68), (72, xb_X8_best_72), (73, xb_X8_best_73), (97, xb_X8_best_97), (102, xb_X8_best_102)])
noncomputable def xb_X0_countOfAnalyses_0 : List xI := [(.aload_n 0, 1, 0, 0), (.getfield 36, 3, 0, 6), (.ireturn, 1, 0, 0)]
noncomputable def xm_X0_countOfAnalyses : xM := (⟨"PathReader$Chart", "countOfAnalyses", "()I"⟩, 0, cX0_countOfAnalyses, 1, (some .int), 0, 0, 1, 0, 0, [(0, xb_X0_countOfAnalyses_0)])
noncomputable def xb_X7_ways_0 : List xI := [(.aload_n 0, 1, 0, 0), (.getfield 29, 3, 6, 3), (.aload_n 0, 1, 0, 0), (.getfield 10, 3, 6, 0), (.iconst 0, 1, 0, 0), (.invokevirtual 167, 3, 73, 3), (.aload_n 0, 1, 0, 0), (.getfield 29, 3, 6, 3), (.invokevirtual 180, 3, 123, 1), (.ireturn, 1, 0, 0)]
noncomputable def xm_X7_ways : xM := (⟨"PathReader", "ways", "()I"⟩, 6, cX7_ways, 1, (some .int), 4, 114, 1, 6, 0, [(0, xb_X7_ways_0)])
noncomputable def xb_X8_ways_0 : List xI := [(.aload_n 0, 1, 0, 0), (.iconst 0, 1, 0, 0), (.putfield 139, 3, 7, 14), (.aload_n 0, 1, 0, 0), (.getfield 7, 3, 7, 0), (.bipush 118, 2, 0, 0), (.iaload, 1, 0, 0), (.ifCond .le 15, 3, 27, 0), (.aload_n 0, 1, 0, 0), (.aload_n 0, 1, 0, 0), (.getfield 7, 3, 7, 0), (.bipush 118, 2, 0, 0), (.iaload, 1, 0, 0), (.iconst 0, 1, 0, 0), (.invokevirtual 174, 3, 94, 3)]
noncomputable def xb_X8_ways_27 : List xI := [(.aload_n 0, 1, 0, 0), (.getfield 139, 3, 7, 14), (.ireturn, 1, 0, 0)]
noncomputable def xm_X8_ways : xM := (⟨"PathReaderModel", "ways", "()I"⟩, 7, cX8_ways, 1, (some .int), 5, 119, 1, 7, 0, [(0, xb_X8_ways_0), (27, xb_X8_ways_27)])
noncomputable def xb_X6_sortIn_0 : List xI := [(.aload_n 0, 1, 0, 0), (.getfield 12, 3, 5, 0), (.aload_n 0, 1, 0, 0), (.getfield 21, 3, 5, 1), (.getfield 44, 3, 3, 0), (.iload_n 2, 1, 0, 0), (.iaload, 1, 0, 0), (.iload_n 1, 1, 0, 0), (.iload_n 2, 1, 0, 0), (.invokestatic 101, 3, 61, 2), (.invokevirtual 104, 3, 52, 3), (.ireturn, 1, 0, 0)]
noncomputable def xm_X6_sortIn : xM := (⟨"PathReader$State", "sortIn", "(II)I"⟩, 5, cX6_sortIn, 3, (some .int), 1, 22, 1, 5, 2, [(0, xb_X6_sortIn_0)])
noncomputable def xb_X6_isHangingAllowed_0 : List xI := [(.iload_n 1, 1, 0, 0), (.iload_n 2, 1, 0, 0), (.invokestatic 85, 3, 60, 2), (.istore_n 3, 1, 0, 0), (.aload_n 0, 1, 0, 0), (.iload_n 1, 1, 0, 0), (.iload_n 2, 1, 0, 0), (.invokevirtual 91, 3, 126, 3), (.istore 4, 2, 0, 0), (.iload 4, 2, 0, 0), (.iconst (-1), 1, 0, 0), (.if_icmp .ne 5, 3, 22, 0), (.iconst 0, 1, 0, 0), (.ireturn, 1, 0, 0)]
noncomputable def xb_X6_isHangingAllowed_22 : List xI := [(.iload_n 3, 1, 0, 0), (.ifCond .ne 23, 3, 46, 0), (.aload_n 0, 1, 0, 0), (.getfield 12, 3, 5, 0), (.getfield 94, 3, 1, 1), (.iload 4, 2, 0, 0), (.iaload, 1, 0, 0), (.iconst (-1), 1, 0, 0), (.if_icmp .eq 7, 3, 44, 0), (.iconst 1, 1, 0, 0), (.goto 4, 3, 45, 0)]
noncomputable def xb_X6_isHangingAllowed_44 : List xI := [(.iconst 0, 1, 0, 0)]
noncomputable def xb_X6_isHangingAllowed_45 : List xI := [(.ireturn, 1, 0, 0)]
noncomputable def xb_X6_isHangingAllowed_46 : List xI := [(.aload_n 0, 1, 0, 0), (.iload_n 1, 1, 0, 0), (.iload_n 3, 1, 0, 0), (.invokevirtual 91, 3, 126, 3), (.istore 5, 2, 0, 0), (.iload 5, 2, 0, 0), (.iconst (-1), 1, 0, 0), (.if_icmp .eq 32, 3, 89, 0), (.aload_n 0, 1, 0, 0), (.getfield 12, 3, 5, 0), (.iload 5, 2, 0, 0), (.iload 4, 2, 0, 0), (.iload_n 2, 1, 0, 0), (.iload_n 3, 1, 0, 0), (.if_icmp .ge 7, 3, 77, 0), (.iconst 0, 1, 0, 0), (.goto 4, 3, 78, 0)]
noncomputable def xb_X6_isHangingAllowed_77 : List xI := [(.iconst 1, 1, 0, 0)]
noncomputable def xb_X6_isHangingAllowed_78 : List xI := [(.invokevirtual 97, 3, 48, 4), (.iconst (-1), 1, 0, 0), (.if_icmp .eq 7, 3, 89, 0), (.iconst 1, 1, 0, 0), (.goto 4, 3, 90, 0)]
noncomputable def xb_X6_isHangingAllowed_89 : List xI := [(.iconst 0, 1, 0, 0)]
noncomputable def xb_X6_isHangingAllowed_90 : List xI := [(.ireturn, 1, 0, 0)]
noncomputable def xm_X6_isHangingAllowed : xM := (⟨"PathReader$State", "isHangingAllowed", "(II)Z"⟩, 5, cX6_isHangingAllowed, 6, (some .boolean), 2, 44, 1, 5, 2, [(0, xb_X6_isHangingAllowed_0), (22, xb_X6_isHangingAllowed_22), (44, xb_X6_isHangingAllowed_44), (45, xb_X6_isHangingAllowed_45), (46, xb_X6_isHangingAllowed_46), (77, xb_X6_isHangingAllowed_77), (78, xb_X6_isHangingAllowed_78), (89, xb_X6_isHangingAllowed_89), (90, xb_X6_isHangingAllowed_90)])
noncomputable def xb_X6_isHeldStillAllowed_0 : List xI := [(.aload_n 0, 1, 0, 0), (.getfield 21, 3, 5, 1), (.invokevirtual 78, 3, 58, 1), (.istore_n 1, 1, 0, 0), (.iload_n 1, 1, 0, 0), (.iconst (-1), 1, 0, 0), (.if_icmp .ne 5, 3, 15, 0), (.iconst 0, 1, 0, 0), (.ireturn, 1, 0, 0)]
noncomputable def xb_X6_isHeldStillAllowed_15 : List xI := [(.iconst 1, 1, 0, 0), (.istore_n 2, 1, 0, 0)]
noncomputable def xb_X6_isHeldStillAllowed_17 : List xI := [(.iload_n 2, 1, 0, 0), (.aload_n 0, 1, 0, 0), (.getfield 21, 3, 5, 1), (.getfield 36, 3, 3, 5), (.if_icmp .gt 20, 3, 45, 0), (.aload_n 0, 1, 0, 0), (.iload_n 1, 1, 0, 0), (.iload_n 2, 1, 0, 0), (.invokevirtual 81, 3, 127, 3), (.ifCond .ne 5, 3, 39, 0), (.iconst 0, 1, 0, 0), (.ireturn, 1, 0, 0)]
noncomputable def xb_X6_isHeldStillAllowed_39 : List xI := [(.iinc 2 1, 3, 0, 0), (.goto (-25), 3, 17, 0)]
noncomputable def xb_X6_isHeldStillAllowed_45 : List xI := [(.iconst 1, 1, 0, 0), (.ireturn, 1, 0, 0)]
noncomputable def xm_X6_isHeldStillAllowed : xM := (⟨"PathReader$State", "isHeldStillAllowed", "()Z"⟩, 5, cX6_isHeldStillAllowed, 3, (some .boolean), 3, 69, 1, 5, 0, [(0, xb_X6_isHeldStillAllowed_0), (15, xb_X6_isHeldStillAllowed_15), (17, xb_X6_isHeldStillAllowed_17), (39, xb_X6_isHeldStillAllowed_39), (45, xb_X6_isHeldStillAllowed_45)])
noncomputable def xb_X7_sound_0 : List xI := [(.aload_n 0, 1, 0, 0), (.getfield 10, 3, 6, 0), (.invokevirtual 183, 3, 128, 1), (.ifCond .eq 7, 3, 14, 0), (.iconst 1, 1, 0, 0), (.goto 4, 3, 15, 0)]
noncomputable def xb_X7_sound_14 : List xI := [(.iconst 0, 1, 0, 0)]
noncomputable def xb_X7_sound_15 : List xI := [(.ireturn, 1, 0, 0)]
noncomputable def xm_X7_sound : xM := (⟨"PathReader", "sound", "()I"⟩, 6, cX7_sound, 1, (some .int), 4, 91, 1, 6, 0, [(0, xb_X7_sound_0), (14, xb_X7_sound_14), (15, xb_X7_sound_15)])
noncomputable def xb_X8_soundOf_0 : List xI := [(.aload_n 0, 1, 0, 0), (.getfield 7, 3, 7, 0), (.bipush 118, 2, 0, 0), (.iaload, 1, 0, 0), (.istore_n 1, 1, 0, 0), (.aload_n 0, 1, 0, 0), (.iload_n 1, 1, 0, 0), (.invokevirtual 168, 3, 82, 2), (.ifCond .ne 5, 3, 18, 0), (.iconst 0, 1, 0, 0), (.ireturn, 1, 0, 0)]
noncomputable def xb_X8_soundOf_18 : List xI := [(.aload_n 0, 1, 0, 0), (.iload_n 1, 1, 0, 0), (.invokevirtual 164, 3, 83, 2), (.iconst 1, 1, 0, 0), (.istore_n 2, 1, 0, 0)]
noncomputable def xb_X8_soundOf_25 : List xI := [(.iload_n 2, 1, 0, 0), (.iload_n 1, 1, 0, 0), (.if_icmp .gt 32, 3, 59, 0), (.aload_n 0, 1, 0, 0), (.getfield 31, 3, 7, 9), (.iload_n 2, 1, 0, 0), (.aload_n 0, 1, 0, 0), (.getfield 7, 3, 7, 0), (.aload_n 0, 1, 0, 0), (.iload_n 2, 1, 0, 0), (.invokevirtual 124, 3, 85, 2), (.aload_n 0, 1, 0, 0), (.getfield 28, 3, 7, 8), (.iload_n 2, 1, 0, 0), (.iaload, 1, 0, 0), (.iadd, 1, 0, 0), (.iaload, 1, 0, 0), (.iastore, 1, 0, 0), (.iinc 2 1, 3, 0, 0), (.goto (-31), 3, 25, 0)]
noncomputable def xb_X8_soundOf_59 : List xI := [(.aload_n 0, 1, 0, 0), (.iload_n 1, 1, 0, 0), (.invokevirtual 145, 3, 89, 2), (.ifCond .lt 7, 3, 71, 0), (.iconst 1, 1, 0, 0), (.goto 4, 3, 72, 0)]
noncomputable def xb_X8_soundOf_71 : List xI := [(.iconst 0, 1, 0, 0)]
noncomputable def xb_X8_soundOf_72 : List xI := [(.ireturn, 1, 0, 0)]
noncomputable def xm_X8_soundOf : xM := (⟨"PathReaderModel", "soundOf", "()I"⟩, 7, cX8_soundOf, 3, (some .int), 3, 69, 1, 7, 0, [(0, xb_X8_soundOf_0), (18, xb_X8_soundOf_18), (25, xb_X8_soundOf_25), (59, xb_X8_soundOf_59), (71, xb_X8_soundOf_71), (72, xb_X8_soundOf_72)])
noncomputable def xb_X8_sound_0 : List xI := [(.aload_n 0, 1, 0, 0), (.invokevirtual 202, 3, 130, 1), (.ireturn, 1, 0, 0)]
noncomputable def xm_X8_sound : xM := (⟨"PathReaderModel", "sound", "()I"⟩, 7, cX8_sound, 1, (some .int), 4, 91, 1, 7, 0, [(0, xb_X8_sound_0)])
noncomputable def xb_X3_append_0 : List xI := [(.aload_n 0, 1, 0, 0), (.getfield 34, 3, 2, 7), (.bipush 120, 2, 0, 0), (.if_icmp .ge 23, 3, 29, 0), (.aload_n 0, 1, 0, 0), (.getfield 9, 3, 2, 0), (.aload_n 0, 1, 0, 0), (.getfield 34, 3, 2, 7), (.iload_n 1, 1, 0, 0), (.iastore, 1, 0, 0), (.aload_n 0, 1, 0, 0), (.dup, 1, 0, 0), (.getfield 34, 3, 2, 7), (.iconst 1, 1, 0, 0), (.iadd, 1, 0, 0), (.putfield 34, 3, 2, 7)]
noncomputable def xb_X3_append_29 : List xI := [(.return_, 1, 0, 0)]
noncomputable def xm_X3_append : xM := (⟨"PathReader$Script", "append", "(I)V"⟩, 2, cX3_append, 2, none, 0, 0, 1, 2, 1, [(0, xb_X3_append_0), (29, xb_X3_append_29)])
noncomputable def xb_X7_type_0 : List xI := [(.iload_n 1, 1, 0, 0), (.ifCond .lt 9, 3, 10, 0), (.iload_n 1, 1, 0, 0), (.bipush 127, 2, 0, 0), (.if_icmp .le 10, 3, 17, 0)]
noncomputable def xb_X7_type_10 : List xI := [(.aload_n 0, 1, 0, 0), (.bipush (-2), 2, 0, 0), (.invokevirtual 54, 3, 18, 2), (.ireturn, 1, 0, 0)]
noncomputable def xb_X7_type_17 : List xI := [(.aload_n 0, 1, 0, 0), (.getfield 36, 3, 6, 4), (.getfield 186, 3, 2, 7), (.bipush 120, 2, 0, 0), (.if_icmp .lt 10, 3, 36, 0), (.aload_n 0, 1, 0, 0), (.bipush (-4), 2, 0, 0), (.invokevirtual 54, 3, 18, 2), (.ireturn, 1, 0, 0)]
noncomputable def xb_X7_type_36 : List xI := [(.aload_n 0, 1, 0, 0), (.getfield 36, 3, 6, 4), (.iload_n 1, 1, 0, 0), (.invokevirtual 189, 3, 132, 2), (.aload_n 0, 1, 0, 0), (.getfield 36, 3, 6, 4), (.getfield 186, 3, 2, 7), (.ireturn, 1, 0, 0)]
noncomputable def xm_X7_type : xM := (⟨"PathReader", "type", "(I)I"⟩, 6, cX7_type, 2, (some .int), 1, 21, 1, 6, 1, [(0, xb_X7_type_0), (10, xb_X7_type_10), (17, xb_X7_type_17), (36, xb_X7_type_36)])
noncomputable def xb_X8_type_0 : List xI := [(.iload_n 1, 1, 0, 0), (.iconst 0, 1, 0, 0), (.bipush 127, 2, 0, 0), (.invokestatic 81, 3, 25, 3), (.ifCond .ne 8, 3, 15, 0), (.aload_n 0, 1, 0, 0), (.invokevirtual 94, 3, 29, 1), (.ireturn, 1, 0, 0)]
noncomputable def xb_X8_type_15 : List xI := [(.aload_n 0, 1, 0, 0), (.getfield 205, 3, 7, 6), (.bipush 120, 2, 0, 0), (.if_icmp .ne 8, 3, 29, 0), (.aload_n 0, 1, 0, 0), (.invokevirtual 111, 3, 42, 1), (.ireturn, 1, 0, 0)]
noncomputable def xb_X8_type_29 : List xI := [(.aload_n 0, 1, 0, 0), (.getfield 22, 3, 7, 5), (.aload_n 0, 1, 0, 0), (.getfield 205, 3, 7, 6), (.iload_n 1, 1, 0, 0), (.iastore, 1, 0, 0), (.aload_n 0, 1, 0, 0), (.dup, 1, 0, 0), (.getfield 205, 3, 7, 6), (.iconst 1, 1, 0, 0), (.iadd, 1, 0, 0), (.putfield 205, 3, 7, 6), (.aload_n 0, 1, 0, 0), (.getfield 205, 3, 7, 6), (.ireturn, 1, 0, 0)]
noncomputable def xm_X8_type : xM := (⟨"PathReaderModel", "type", "(I)I"⟩, 7, cX8_type, 2, (some .int), 1, 22, 1, 7, 1, [(0, xb_X8_type_0), (15, xb_X8_type_15), (29, xb_X8_type_29)])
noncomputable def xb_X7_clear_0 : List xI := [(.aload_n 0, 1, 0, 0), (.getfield 36, 3, 6, 4), (.getfield 186, 3, 2, 7), (.istore_n 1, 1, 0, 0), (.aload_n 0, 1, 0, 0), (.getfield 36, 3, 6, 4), (.iconst 0, 1, 0, 0), (.putfield 186, 3, 2, 7), (.iload_n 1, 1, 0, 0), (.ireturn, 1, 0, 0)]
noncomputable def xm_X7_clear : xM := (⟨"PathReader", "clear", "()I"⟩, 6, cX7_clear, 2, (some .int), 0, 0, 1, 6, 0, [(0, xb_X7_clear_0)])
noncomputable def xb_X8_clear_0 : List xI := [(.aload_n 0, 1, 0, 0), (.getfield 205, 3, 7, 6), (.istore_n 1, 1, 0, 0), (.aload_n 0, 1, 0, 0), (.iconst 0, 1, 0, 0), (.putfield 205, 3, 7, 6), (.iload_n 1, 1, 0, 0), (.ireturn, 1, 0, 0)]
noncomputable def xm_X8_clear : xM := (⟨"PathReaderModel", "clear", "()I"⟩, 7, cX8_clear, 2, (some .int), 0, 0, 1, 7, 0, [(0, xb_X8_clear_0)])
noncomputable def xb_X3_skipBlanks_0 : List xI := [(.aload_n 0, 1, 0, 0), (.getfield 31, 3, 2, 6), (.aload_n 0, 1, 0, 0), (.getfield 34, 3, 2, 7), (.if_icmp .ge 30, 3, 38, 0), (.aload_n 0, 1, 0, 0), (.getfield 9, 3, 2, 0), (.aload_n 0, 1, 0, 0), (.getfield 31, 3, 2, 6), (.iaload, 1, 0, 0), (.bipush 32, 2, 0, 0), (.if_icmp .ne 16, 3, 38, 0), (.aload_n 0, 1, 0, 0), (.dup, 1, 0, 0), (.getfield 31, 3, 2, 6), (.iconst 1, 1, 0, 0), (.iadd, 1, 0, 0), (.putfield 31, 3, 2, 6), (.goto (-35), 3, 0, 0)]
noncomputable def xb_X3_skipBlanks_38 : List xI := [(.return_, 1, 0, 0)]
noncomputable def xm_X3_skipBlanks : xM := (⟨"PathReader$Script", "skipBlanks", "()V"⟩, 2, cX3_skipBlanks, 1, none, 0, 0, 1, 2, 0, [(0, xb_X3_skipBlanks_0), (38, xb_X3_skipBlanks_38)])
noncomputable def xb_X3_here_0 : List xI := [(.aload_n 0, 1, 0, 0), (.getfield 31, 3, 2, 6), (.aload_n 0, 1, 0, 0), (.getfield 34, 3, 2, 7), (.if_icmp .ge 15, 3, 23, 0), (.aload_n 0, 1, 0, 0), (.getfield 9, 3, 2, 0), (.aload_n 0, 1, 0, 0), (.getfield 31, 3, 2, 6), (.iaload, 1, 0, 0), (.goto 4, 3, 24, 0)]
noncomputable def xb_X3_here_23 : List xI := [(.iconst (-1), 1, 0, 0)]
noncomputable def xb_X3_here_24 : List xI := [(.ireturn, 1, 0, 0)]
noncomputable def xm_X3_here : xM := (⟨"PathReader$Script", "here", "()I"⟩, 2, cX3_here, 1, (some .int), 0, 0, 1, 2, 0, [(0, xb_X3_here_0), (23, xb_X3_here_23), (24, xb_X3_here_24)])
noncomputable def xb_X3_mostNumbers_0 : List xI := [(.iload_n 0, 1, 0, 0), (.lookupswitch 62 #[(101, 51), (102, 53), (111, 57), (114, 55), (119, 59)], 51, 0, 0)]
noncomputable def xb_X3_mostNumbers_52 : List xI := [(.iconst 1, 1, 0, 0), (.ireturn, 1, 0, 0)]
noncomputable def xb_X3_mostNumbers_54 : List xI := [(.iconst 3, 1, 0, 0), (.ireturn, 1, 0, 0)]
noncomputable def xb_X3_mostNumbers_56 : List xI := [(.iconst 4, 1, 0, 0), (.ireturn, 1, 0, 0)]
noncomputable def xb_X3_mostNumbers_58 : List xI := [(.iconst 2, 1, 0, 0), (.ireturn, 1, 0, 0)]
noncomputable def xb_X3_mostNumbers_60 : List xI := [(.bipush 6, 2, 0, 0), (.ireturn, 1, 0, 0)]
noncomputable def xb_X3_mostNumbers_63 : List xI := [(.iconst 0, 1, 0, 0), (.ireturn, 1, 0, 0)]
noncomputable def xm_X3_mostNumbers : xM := (⟨"PathReader$Script", "mostNumbers", "(I)I"⟩, 2, cX3_mostNumbers, 1, (some .int), 0, 0, 0, 2, 1, [(0, xb_X3_mostNumbers_0), (52, xb_X3_mostNumbers_52), (54, xb_X3_mostNumbers_54), (56, xb_X3_mostNumbers_56), (58, xb_X3_mostNumbers_58), (60, xb_X3_mostNumbers_60), (63, xb_X3_mostNumbers_63)])
noncomputable def xb_X3_isFigureHere_0 : List xI := [(.aload_n 0, 1, 0, 0), (.invokevirtual 47, 3, 138, 1), (.istore_n 1, 1, 0, 0), (.iload_n 1, 1, 0, 0), (.bipush 48, 2, 0, 0), (.if_icmp .lt 13, 3, 21, 0), (.iload_n 1, 1, 0, 0), (.bipush 57, 2, 0, 0), (.if_icmp .gt 7, 3, 21, 0), (.iconst 1, 1, 0, 0), (.goto 4, 3, 22, 0)]
noncomputable def xb_X3_isFigureHere_21 : List xI := [(.iconst 0, 1, 0, 0)]
noncomputable def xb_X3_isFigureHere_22 : List xI := [(.ireturn, 1, 0, 0)]
noncomputable def xm_X3_isFigureHere : xM := (⟨"PathReader$Script", "isFigureHere", "()Z"⟩, 2, cX3_isFigureHere, 2, (some .boolean), 1, 20, 1, 2, 0, [(0, xb_X3_isFigureHere_0), (21, xb_X3_isFigureHere_21), (22, xb_X3_isFigureHere_22)])
noncomputable def xb_X3_keepNumber_0 : List xI := [(.aload_n 0, 1, 0, 0), (.getfield 27, 3, 2, 5), (.bipush 120, 2, 0, 0), (.if_icmp .ge 23, 3, 29, 0), (.aload_n 0, 1, 0, 0), (.getfield 24, 3, 2, 4), (.aload_n 0, 1, 0, 0), (.getfield 27, 3, 2, 5), (.iload_n 1, 1, 0, 0), (.iastore, 1, 0, 0), (.aload_n 0, 1, 0, 0), (.dup, 1, 0, 0), (.getfield 27, 3, 2, 5), (.iconst 1, 1, 0, 0), (.iadd, 1, 0, 0), (.putfield 27, 3, 2, 5)]
noncomputable def xb_X3_keepNumber_29 : List xI := [(.return_, 1, 0, 0)]
noncomputable def xm_X3_keepNumber : xM := (⟨"PathReader$Script", "keepNumber", "(I)V"⟩, 2, cX3_keepNumber, 2, none, 0, 0, 1, 2, 1, [(0, xb_X3_keepNumber_0), (29, xb_X3_keepNumber_29)])
noncomputable def xb_X3_readNumber_0 : List xI := [(.iload_n 1, 1, 0, 0), (.ifCond .eq 29, 3, 30, 0), (.aload_n 0, 1, 0, 0), (.invokevirtual 47, 3, 138, 1), (.bipush 45, 2, 0, 0), (.if_icmp .ne 20, 3, 30, 0), (.aload_n 0, 1, 0, 0), (.dup, 1, 0, 0), (.getfield 31, 3, 2, 6), (.iconst 1, 1, 0, 0), (.iadd, 1, 0, 0), (.putfield 31, 3, 2, 6), (.aload_n 0, 1, 0, 0), (.iconst (-1), 1, 0, 0), (.invokevirtual 62, 3, 141, 2), (.iconst 1, 1, 0, 0), (.ireturn, 1, 0, 0)]
noncomputable def xb_X3_readNumber_30 : List xI := [(.aload_n 0, 1, 0, 0), (.invokevirtual 55, 3, 140, 1), (.ifCond .ne 5, 3, 39, 0), (.iconst 0, 1, 0, 0), (.ireturn, 1, 0, 0)]
noncomputable def xb_X3_readNumber_39 : List xI := [(.aload_n 0, 1, 0, 0), (.invokevirtual 47, 3, 138, 1), (.bipush 48, 2, 0, 0), (.isub, 1, 0, 0), (.istore_n 2, 1, 0, 0), (.aload_n 0, 1, 0, 0), (.dup, 1, 0, 0), (.getfield 31, 3, 2, 6), (.iconst 1, 1, 0, 0), (.iadd, 1, 0, 0), (.putfield 31, 3, 2, 6), (.aload_n 0, 1, 0, 0), (.invokevirtual 55, 3, 140, 1), (.ifCond .eq 26, 3, 87, 0), (.bipush 10, 2, 0, 0), (.iload_n 2, 1, 0, 0), (.imul, 1, 0, 0), (.aload_n 0, 1, 0, 0), (.invokevirtual 47, 3, 138, 1), (.iadd, 1, 0, 0), (.bipush 48, 2, 0, 0), (.isub, 1, 0, 0), (.istore_n 2, 1, 0, 0), (.aload_n 0, 1, 0, 0), (.dup, 1, 0, 0), (.getfield 31, 3, 2, 6), (.iconst 1, 1, 0, 0), (.iadd, 1, 0, 0), (.putfield 31, 3, 2, 6)]
noncomputable def xb_X3_readNumber_87 : List xI := [(.aload_n 0, 1, 0, 0), (.iload_n 2, 1, 0, 0), (.invokevirtual 62, 3, 141, 2), (.aload_n 0, 1, 0, 0), (.invokevirtual 55, 3, 140, 1), (.ifCond .ne 7, 3, 103, 0), (.iconst 1, 1, 0, 0), (.goto 4, 3, 104, 0)]
noncomputable def xb_X3_readNumber_103 : List xI := [(.iconst 0, 1, 0, 0)]
noncomputable def xb_X3_readNumber_104 : List xI := [(.ireturn, 1, 0, 0)]
noncomputable def xm_X3_readNumber : xM := (⟨"PathReader$Script", "readNumber", "(Z)Z"⟩, 2, cX3_readNumber, 3, (some .boolean), 2, 41, 1, 2, 1, [(0, xb_X3_readNumber_0), (30, xb_X3_readNumber_30), (39, xb_X3_readNumber_39), (87, xb_X3_readNumber_87), (103, xb_X3_readNumber_103), (104, xb_X3_readNumber_104)])
noncomputable def xb_X3_readOrder_0 : List xI := [(.aload_n 0, 1, 0, 0), (.invokevirtual 47, 3, 138, 1), (.istore_n 1, 1, 0, 0), (.iload_n 1, 1, 0, 0), (.invokestatic 51, 3, 139, 1), (.istore_n 2, 1, 0, 0), (.iload_n 2, 1, 0, 0), (.ifCond .ne 5, 3, 16, 0), (.iconst 0, 1, 0, 0), (.ireturn, 1, 0, 0)]
noncomputable def xb_X3_readOrder_16 : List xI := [(.aload_n 0, 1, 0, 0), (.dup, 1, 0, 0), (.getfield 31, 3, 2, 6), (.iconst 1, 1, 0, 0), (.iadd, 1, 0, 0), (.putfield 31, 3, 2, 6), (.aload_n 0, 1, 0, 0), (.getfield 15, 3, 2, 1), (.aload_n 0, 1, 0, 0), (.getfield 37, 3, 2, 8), (.iload_n 1, 1, 0, 0), (.iastore, 1, 0, 0), (.aload_n 0, 1, 0, 0), (.getfield 18, 3, 2, 2), (.aload_n 0, 1, 0, 0), (.getfield 37, 3, 2, 8), (.aload_n 0, 1, 0, 0), (.getfield 27, 3, 2, 5), (.iastore, 1, 0, 0), (.iconst 0, 1, 0, 0), (.istore_n 3, 1, 0, 0)]
noncomputable def xb_X3_readOrder_51 : List xI := [(.iload_n 3, 1, 0, 0), (.iload_n 2, 1, 0, 0), (.if_icmp .ge 82, 3, 135, 0), (.aload_n 0, 1, 0, 0), (.invokevirtual 40, 3, 137, 1), (.iload_n 1, 1, 0, 0), (.bipush 119, 2, 0, 0), (.if_icmp .ne 11, 3, 74, 0), (.iload_n 3, 1, 0, 0), (.ifCond .le 7, 3, 74, 0), (.iconst 1, 1, 0, 0), (.goto 4, 3, 75, 0)]
noncomputable def xb_X3_readOrder_74 : List xI := [(.iconst 0, 1, 0, 0)]
noncomputable def xb_X3_readOrder_75 : List xI := [(.istore 4, 2, 0, 0), (.iload 4, 2, 0, 0), (.ifCond .eq 13, 3, 92, 0), (.aload_n 0, 1, 0, 0), (.invokevirtual 55, 3, 140, 1), (.ifCond .ne 6, 3, 92, 0), (.goto 46, 3, 135, 0)]
noncomputable def xb_X3_readOrder_92 : List xI := [(.iload_n 1, 1, 0, 0), (.bipush 114, 2, 0, 0), (.if_icmp .eq 9, 3, 104, 0), (.iload_n 1, 1, 0, 0), (.bipush 111, 2, 0, 0), (.if_icmp .ne 14, 3, 115, 0)]
noncomputable def xb_X3_readOrder_104 : List xI := [(.iload_n 3, 1, 0, 0), (.iload_n 2, 1, 0, 0), (.iconst 1, 1, 0, 0), (.isub, 1, 0, 0), (.if_icmp .ne 7, 3, 115, 0), (.iconst 1, 1, 0, 0), (.goto 4, 3, 116, 0)]
noncomputable def xb_X3_readOrder_115 : List xI := [(.iconst 0, 1, 0, 0)]
noncomputable def xb_X3_readOrder_116 : List xI := [(.istore 5, 2, 0, 0), (.aload_n 0, 1, 0, 0), (.iload 5, 2, 0, 0), (.invokevirtual 58, 3, 142, 2), (.ifCond .ne 5, 3, 129, 0), (.iconst 0, 1, 0, 0), (.ireturn, 1, 0, 0)]
noncomputable def xb_X3_readOrder_129 : List xI := [(.iinc 3 1, 3, 0, 0), (.goto (-81), 3, 51, 0)]
noncomputable def xb_X3_readOrder_135 : List xI := [(.aload_n 0, 1, 0, 0), (.getfield 21, 3, 2, 3), (.aload_n 0, 1, 0, 0), (.getfield 37, 3, 2, 8), (.aload_n 0, 1, 0, 0), (.getfield 27, 3, 2, 5), (.aload_n 0, 1, 0, 0), (.getfield 18, 3, 2, 2), (.aload_n 0, 1, 0, 0), (.getfield 37, 3, 2, 8), (.iaload, 1, 0, 0), (.isub, 1, 0, 0), (.iastore, 1, 0, 0), (.aload_n 0, 1, 0, 0), (.invokevirtual 40, 3, 137, 1), (.aload_n 0, 1, 0, 0), (.invokevirtual 47, 3, 138, 1), (.bipush 59, 2, 0, 0), (.if_icmp .eq 5, 3, 173, 0), (.iconst 0, 1, 0, 0), (.ireturn, 1, 0, 0)]
noncomputable def xb_X3_readOrder_173 : List xI := [(.aload_n 0, 1, 0, 0), (.dup, 1, 0, 0), (.getfield 31, 3, 2, 6), (.iconst 1, 1, 0, 0), (.iadd, 1, 0, 0), (.putfield 31, 3, 2, 6), (.iconst 1, 1, 0, 0), (.ireturn, 1, 0, 0)]
noncomputable def xm_X3_readOrder : xM := (⟨"PathReader$Script", "readOrder", "()Z"⟩, 2, cX3_readOrder, 6, (some .boolean), 3, 63, 1, 2, 0, [(0, xb_X3_readOrder_0), (16, xb_X3_readOrder_16), (51, xb_X3_readOrder_51), (74, xb_X3_readOrder_74), (75, xb_X3_readOrder_75), (92, xb_X3_readOrder_92), (104, xb_X3_readOrder_104), (115, xb_X3_readOrder_115), (116, xb_X3_readOrder_116), (129, xb_X3_readOrder_129), (135, xb_X3_readOrder_135), (173, xb_X3_readOrder_173)])
noncomputable def xb_X3_readWhole_0 : List xI := [(.aload_n 0, 1, 0, 0), (.iconst 0, 1, 0, 0), (.putfield 31, 3, 2, 6), (.aload_n 0, 1, 0, 0), (.iconst 0, 1, 0, 0), (.putfield 37, 3, 2, 8), (.aload_n 0, 1, 0, 0), (.iconst 0, 1, 0, 0), (.putfield 27, 3, 2, 5), (.aload_n 0, 1, 0, 0), (.invokevirtual 40, 3, 137, 1)]
noncomputable def xb_X3_readWhole_19 : List xI := [(.aload_n 0, 1, 0, 0), (.getfield 31, 3, 2, 6), (.aload_n 0, 1, 0, 0), (.getfield 34, 3, 2, 7), (.if_icmp .ge 41, 3, 68, 0), (.aload_n 0, 1, 0, 0), (.getfield 37, 3, 2, 8), (.bipush 120, 2, 0, 0), (.if_icmp .ge 32, 3, 68, 0), (.aload_n 0, 1, 0, 0), (.invokevirtual 43, 3, 143, 1), (.ifCond .ne 8, 3, 51, 0), (.aload_n 0, 1, 0, 0), (.getfield 31, 3, 2, 6), (.ireturn, 1, 0, 0)]
noncomputable def xb_X3_readWhole_51 : List xI := [(.aload_n 0, 1, 0, 0), (.dup, 1, 0, 0), (.getfield 37, 3, 2, 8), (.iconst 1, 1, 0, 0), (.iadd, 1, 0, 0), (.putfield 37, 3, 2, 8), (.aload_n 0, 1, 0, 0), (.invokevirtual 40, 3, 137, 1), (.goto (-46), 3, 19, 0)]
noncomputable def xb_X3_readWhole_68 : List xI := [(.aload_n 0, 1, 0, 0), (.getfield 37, 3, 2, 8), (.ifCond .ne 10, 3, 82, 0), (.aload_n 0, 1, 0, 0), (.getfield 31, 3, 2, 6), (.goto 4, 3, 83, 0)]
noncomputable def xb_X3_readWhole_82 : List xI := [(.iconst (-1), 1, 0, 0)]
noncomputable def xb_X3_readWhole_83 : List xI := [(.ireturn, 1, 0, 0)]
noncomputable def xm_X3_readWhole : xM := (⟨"PathReader$Script", "readWhole", "()I"⟩, 2, cX3_readWhole, 1, (some .int), 4, 88, 1, 2, 0, [(0, xb_X3_readWhole_0), (19, xb_X3_readWhole_19), (51, xb_X3_readWhole_51), (68, xb_X3_readWhole_68), (82, xb_X3_readWhole_82), (83, xb_X3_readWhole_83)])
noncomputable def xb_X3_kind_0 : List xI := [(.aload_n 0, 1, 0, 0), (.getfield 15, 3, 2, 1), (.iload_n 1, 1, 0, 0), (.iaload, 1, 0, 0), (.ireturn, 1, 0, 0)]
noncomputable def xm_X3_kind : xM := (⟨"PathReader$Script", "kind", "(I)I"⟩, 2, cX3_kind, 2, (some .int), 0, 0, 1, 2, 1, [(0, xb_X3_kind_0)])
noncomputable def xb_X3_numberCount_0 : List xI := [(.aload_n 0, 1, 0, 0), (.getfield 21, 3, 2, 3), (.iload_n 1, 1, 0, 0), (.iaload, 1, 0, 0), (.ireturn, 1, 0, 0)]
noncomputable def xm_X3_numberCount : xM := (⟨"PathReader$Script", "numberCount", "(I)I"⟩, 2, cX3_numberCount, 2, (some .int), 0, 0, 1, 2, 1, [(0, xb_X3_numberCount_0)])
noncomputable def xb_X3_number_0 : List xI := [(.iload_n 2, 1, 0, 0), (.aload_n 0, 1, 0, 0), (.getfield 21, 3, 2, 3), (.iload_n 1, 1, 0, 0), (.iaload, 1, 0, 0), (.if_icmp .ge 19, 3, 26, 0), (.aload_n 0, 1, 0, 0), (.getfield 24, 3, 2, 4), (.aload_n 0, 1, 0, 0), (.getfield 18, 3, 2, 2), (.iload_n 1, 1, 0, 0), (.iaload, 1, 0, 0), (.iload_n 2, 1, 0, 0), (.iadd, 1, 0, 0), (.iaload, 1, 0, 0), (.goto 4, 3, 27, 0)]
noncomputable def xb_X3_number_26 : List xI := [(.iconst (-1), 1, 0, 0)]
noncomputable def xb_X3_number_27 : List xI := [(.ireturn, 1, 0, 0)]
noncomputable def xm_X3_number : xM := (⟨"PathReader$Script", "number", "(II)I"⟩, 2, cX3_number, 3, (some .int), 0, 0, 1, 2, 2, [(0, xb_X3_number_0), (26, xb_X3_number_26), (27, xb_X3_number_27)])
noncomputable def xb_X7_doWords_0 : List xI := [(.aload_n 0, 1, 0, 0), (.getfield 36, 3, 6, 4), (.iload_n 1, 1, 0, 0), (.invokevirtual 259, 3, 146, 2), (.istore_n 2, 1, 0, 0), (.iconst 0, 1, 0, 0), (.istore_n 3, 1, 0, 0)]
noncomputable def xb_X7_doWords_11 : List xI := [(.iload_n 3, 1, 0, 0), (.iload_n 2, 1, 0, 0), (.if_icmp .ge 47, 3, 60, 0), (.aload_n 0, 1, 0, 0), (.getfield 36, 3, 6, 4), (.iload_n 1, 1, 0, 0), (.iload_n 3, 1, 0, 0), (.invokevirtual 253, 3, 147, 3), (.istore 4, 2, 0, 0), (.aload_n 0, 1, 0, 0), (.getfield 10, 3, 6, 0), (.iload 4, 2, 0, 0), (.invokevirtual 106, 3, 57, 2), (.ifCond .eq 5, 3, 41, 0), (.iconst 0, 1, 0, 0), (.ireturn, 1, 0, 0)]
noncomputable def xb_X7_doWords_41 : List xI := [(.aload_n 0, 1, 0, 0), (.getfield 10, 3, 6, 0), (.iload 4, 2, 0, 0), (.aload_n 0, 1, 0, 0), (.getfield 29, 3, 6, 3), (.invokevirtual 109, 3, 79, 3), (.iinc 3 1, 3, 0, 0), (.goto (-46), 3, 11, 0)]
noncomputable def xb_X7_doWords_60 : List xI := [(.iconst 1, 1, 0, 0), (.ireturn, 1, 0, 0)]
noncomputable def xm_X7_doWords : xM := (⟨"PathReader", "doWords", "(I)Z"⟩, 6, cX7_doWords, 5, (some .boolean), 5, 139, 1, 6, 1, [(0, xb_X7_doWords_0), (11, xb_X7_doWords_11), (41, xb_X7_doWords_41), (60, xb_X7_doWords_60)])
noncomputable def xb_X7_doEntry_0 : List xI := [(.aload_n 0, 1, 0, 0), (.getfield 10, 3, 6, 0), (.getfield 44, 3, 5, 0), (.iload_n 1, 1, 0, 0), (.iload_n 2, 1, 0, 0), (.iload_n 3, 1, 0, 0), (.invokevirtual 72, 3, 38, 4), (.ifCond .eq 5, 3, 18, 0), (.iconst 0, 1, 0, 0), (.ireturn, 1, 0, 0)]
noncomputable def xb_X7_doEntry_18 : List xI := [(.aload_n 0, 1, 0, 0), (.getfield 10, 3, 6, 0), (.getfield 44, 3, 5, 0), (.iload_n 1, 1, 0, 0), (.iload_n 2, 1, 0, 0), (.iload_n 3, 1, 0, 0), (.invokevirtual 76, 3, 39, 4), (.pop, 1, 0, 0), (.iconst 1, 1, 0, 0), (.ireturn, 1, 0, 0)]
noncomputable def xm_X7_doEntry : xM := (⟨"PathReader", "doEntry", "(III)Z"⟩, 6, cX7_doEntry, 4, (some .boolean), 2, 46, 1, 6, 3, [(0, xb_X7_doEntry_0), (18, xb_X7_doEntry_18)])
noncomputable def xb_X7_doOrder_0 : List xI := [(.aload_n 0, 1, 0, 0), (.getfield 10, 3, 6, 0), (.getfield 44, 3, 5, 0), (.astore_n 2, 1, 0, 0), (.aload_n 0, 1, 0, 0), (.getfield 36, 3, 6, 4), (.iload_n 1, 1, 0, 0), (.iconst 0, 1, 0, 0), (.invokevirtual 253, 3, 147, 3), (.istore_n 3, 1, 0, 0), (.aload_n 0, 1, 0, 0), (.getfield 36, 3, 6, 4), (.iload_n 1, 1, 0, 0), (.iconst 1, 1, 0, 0), (.invokevirtual 253, 3, 147, 3), (.istore 4, 2, 0, 0), (.aload_n 0, 1, 0, 0), (.getfield 36, 3, 6, 4), (.iload_n 1, 1, 0, 0), (.iconst 2, 1, 0, 0), (.invokevirtual 253, 3, 147, 3), (.istore 5, 2, 0, 0), (.aload_n 0, 1, 0, 0), (.getfield 36, 3, 6, 4), (.iload_n 1, 1, 0, 0), (.iconst 3, 1, 0, 0), (.invokevirtual 253, 3, 147, 3), (.istore 6, 2, 0, 0), (.aload_n 0, 1, 0, 0), (.getfield 36, 3, 6, 4), (.iload_n 1, 1, 0, 0), (.invokevirtual 202, 3, 145, 2), (.lookupswitch 111 #[(101, 41), (102, 49), (111, 89), (114, 59)], 41, 0, 0)]
noncomputable def xb_X7_doOrder_100 : List xI := [(.aload_n 0, 1, 0, 0), (.iload_n 3, 1, 0, 0), (.iconst (-1), 1, 0, 0), (.iconst 0, 1, 0, 0), (.invokevirtual 256, 3, 149, 4), (.ireturn, 1, 0, 0)]
noncomputable def xb_X7_doOrder_108 : List xI := [(.aload_n 0, 1, 0, 0), (.iload_n 3, 1, 0, 0), (.iload 4, 2, 0, 0), (.iload 5, 2, 0, 0), (.invokevirtual 256, 3, 149, 4), (.ireturn, 1, 0, 0)]
noncomputable def xb_X7_doOrder_118 : List xI := [(.aload_n 2, 1, 0, 0), (.iload_n 3, 1, 0, 0), (.iload 4, 2, 0, 0), (.iload 5, 2, 0, 0), (.iload 6, 2, 0, 0), (.invokevirtual 48, 3, 17, 5), (.ifCond .eq 5, 3, 134, 0), (.iconst 0, 1, 0, 0), (.ireturn, 1, 0, 0)]
noncomputable def xb_X7_doOrder_134 : List xI := [(.aload_n 2, 1, 0, 0), (.iload_n 3, 1, 0, 0), (.iload 4, 2, 0, 0), (.iload 5, 2, 0, 0), (.iload 6, 2, 0, 0), (.invokevirtual 62, 3, 23, 5), (.pop, 1, 0, 0), (.iconst 1, 1, 0, 0), (.ireturn, 1, 0, 0)]
noncomputable def xb_X7_doOrder_148 : List xI := [(.aload_n 2, 1, 0, 0), (.iload_n 3, 1, 0, 0), (.iload 4, 2, 0, 0), (.invokevirtual 65, 3, 34, 3), (.ifCond .eq 5, 3, 160, 0), (.iconst 0, 1, 0, 0), (.ireturn, 1, 0, 0)]
noncomputable def xb_X7_doOrder_160 : List xI := [(.aload_n 2, 1, 0, 0), (.iload_n 3, 1, 0, 0), (.iload 4, 2, 0, 0), (.invokevirtual 69, 3, 35, 3), (.pop, 1, 0, 0), (.iconst 1, 1, 0, 0), (.ireturn, 1, 0, 0)]
noncomputable def xb_X7_doOrder_170 : List xI := [(.iconst 0, 1, 0, 0), (.ireturn, 1, 0, 0)]
noncomputable def xm_X7_doOrder : xM := (⟨"PathReader", "doOrder", "(I)Z"⟩, 6, cX7_doOrder, 7, (some .boolean), 3, 69, 1, 6, 1, [(0, xb_X7_doOrder_0), (100, xb_X7_doOrder_100), (108, xb_X7_doOrder_108), (118, xb_X7_doOrder_118), (134, xb_X7_doOrder_134), (148, xb_X7_doOrder_148), (160, xb_X7_doOrder_160), (170, xb_X7_doOrder_170)])
noncomputable def xb_X7_does_0 : List xI := [(.aload_n 0, 1, 0, 0), (.getfield 36, 3, 6, 4), (.invokevirtual 193, 3, 144, 1), (.istore_n 1, 1, 0, 0), (.iload_n 1, 1, 0, 0), (.iconst (-1), 1, 0, 0), (.if_icmp .eq 8, 3, 18, 0), (.bipush (-10), 2, 0, 0), (.iload_n 1, 1, 0, 0), (.isub, 1, 0, 0), (.ireturn, 1, 0, 0)]
noncomputable def xb_X7_does_18 : List xI := [(.aload_n 0, 1, 0, 0), (.getfield 16, 3, 6, 1), (.aload_n 0, 1, 0, 0), (.getfield 10, 3, 6, 0), (.invokevirtual 196, 3, 21, 2), (.iconst 0, 1, 0, 0), (.istore_n 2, 1, 0, 0)]
noncomputable def xb_X7_does_31 : List xI := [(.iload_n 2, 1, 0, 0), (.aload_n 0, 1, 0, 0), (.getfield 36, 3, 6, 4), (.getfield 199, 3, 2, 8), (.if_icmp .ge 57, 3, 96, 0), (.aload_n 0, 1, 0, 0), (.getfield 36, 3, 6, 4), (.iload_n 2, 1, 0, 0), (.invokevirtual 202, 3, 145, 2), (.bipush 119, 2, 0, 0), (.if_icmp .ne 11, 3, 63, 0), (.aload_n 0, 1, 0, 0), (.iload_n 2, 1, 0, 0), (.invokevirtual 205, 3, 148, 2), (.goto 8, 3, 68, 0)]
noncomputable def xb_X7_does_63 : List xI := [(.aload_n 0, 1, 0, 0), (.iload_n 2, 1, 0, 0), (.invokevirtual 208, 3, 150, 2)]
noncomputable def xb_X7_does_68 : List xI := [(.istore_n 3, 1, 0, 0), (.iload_n 3, 1, 0, 0), (.ifCond .ne 20, 3, 90, 0), (.aload_n 0, 1, 0, 0), (.getfield 10, 3, 6, 0), (.aload_n 0, 1, 0, 0), (.getfield 16, 3, 6, 1), (.invokevirtual 196, 3, 21, 2), (.sipush (-1000), 3, 0, 0), (.iload_n 2, 1, 0, 0), (.isub, 1, 0, 0), (.ireturn, 1, 0, 0)]
noncomputable def xb_X7_does_90 : List xI := [(.iinc 2 1, 3, 0, 0), (.goto (-62), 3, 31, 0)]
noncomputable def xb_X7_does_96 : List xI := [(.aload_n 0, 1, 0, 0), (.getfield 22, 3, 6, 2), (.aload_n 0, 1, 0, 0), (.getfield 16, 3, 6, 1), (.invokevirtual 58, 3, 22, 2), (.aload_n 0, 1, 0, 0), (.getfield 36, 3, 6, 4), (.getfield 199, 3, 2, 8), (.ireturn, 1, 0, 0)]
noncomputable def xm_X7_does : xM := (⟨"PathReader", "does", "()I"⟩, 6, cX7_does, 4, (some .int), 6, 163, 1, 6, 0, [(0, xb_X7_does_0), (18, xb_X7_does_18), (31, xb_X7_does_31), (63, xb_X7_does_63), (68, xb_X7_does_68), (90, xb_X7_does_90), (96, xb_X7_does_96)])
noncomputable def xb_X8_isAt_0 : List xI := [(.aload_n 0, 1, 0, 0), (.getfield 208, 3, 7, 22), (.aload_n 0, 1, 0, 0), (.getfield 205, 3, 7, 6), (.if_icmp .ge 24, 3, 32, 0), (.aload_n 0, 1, 0, 0), (.getfield 22, 3, 7, 5), (.aload_n 0, 1, 0, 0), (.getfield 208, 3, 7, 22), (.iaload, 1, 0, 0), (.iload_n 1, 1, 0, 0), (.iload_n 2, 1, 0, 0), (.invokestatic 81, 3, 25, 3), (.ifCond .eq 7, 3, 32, 0), (.iconst 1, 1, 0, 0), (.goto 4, 3, 33, 0)]
noncomputable def xb_X8_isAt_32 : List xI := [(.iconst 0, 1, 0, 0)]
noncomputable def xb_X8_isAt_33 : List xI := [(.ireturn, 1, 0, 0)]
noncomputable def xm_X8_isAt : xM := (⟨"PathReaderModel", "isAt", "(II)Z"⟩, 7, cX8_isAt, 3, (some .boolean), 1, 22, 1, 7, 2, [(0, xb_X8_isAt_0), (32, xb_X8_isAt_32), (33, xb_X8_isAt_33)])
noncomputable def xb_X8_blanks_0 : List xI := [(.aload_n 0, 1, 0, 0), (.bipush 32, 2, 0, 0), (.bipush 32, 2, 0, 0), (.invokevirtual 211, 3, 152, 3), (.ifCond .eq 16, 3, 24, 0), (.aload_n 0, 1, 0, 0), (.dup, 1, 0, 0), (.getfield 208, 3, 7, 22), (.iconst 1, 1, 0, 0), (.iadd, 1, 0, 0), (.putfield 208, 3, 7, 22), (.goto (-21), 3, 0, 0)]
noncomputable def xb_X8_blanks_24 : List xI := [(.return_, 1, 0, 0)]
noncomputable def xm_X8_blanks : xM := (⟨"PathReaderModel", "blanks", "()V"⟩, 7, cX8_blanks, 1, none, 2, 44, 1, 7, 0, [(0, xb_X8_blanks_0), (24, xb_X8_blanks_24)])
noncomputable def xb_X8_leastOf_0 : List xI := [(.iload_n 0, 1, 0, 0), (.bipush 101, 2, 0, 0), (.if_icmp .eq 9, 3, 12, 0), (.iload_n 0, 1, 0, 0), (.bipush 119, 2, 0, 0), (.if_icmp .ne 7, 3, 16, 0)]
noncomputable def xb_X8_leastOf_12 : List xI := [(.iconst 1, 1, 0, 0), (.goto 34, 3, 47, 0)]
noncomputable def xb_X8_leastOf_16 : List xI := [(.iload_n 0, 1, 0, 0), (.bipush 111, 2, 0, 0), (.if_icmp .ne 7, 3, 26, 0), (.iconst 2, 1, 0, 0), (.goto 24, 3, 47, 0)]
noncomputable def xb_X8_leastOf_26 : List xI := [(.iload_n 0, 1, 0, 0), (.bipush 102, 2, 0, 0), (.if_icmp .ne 7, 3, 36, 0), (.iconst 3, 1, 0, 0), (.goto 14, 3, 47, 0)]
noncomputable def xb_X8_leastOf_36 : List xI := [(.iload_n 0, 1, 0, 0), (.bipush 114, 2, 0, 0), (.if_icmp .ne 7, 3, 46, 0), (.iconst 4, 1, 0, 0), (.goto 4, 3, 47, 0)]
noncomputable def xb_X8_leastOf_46 : List xI := [(.iconst (-1), 1, 0, 0)]
noncomputable def xb_X8_leastOf_47 : List xI := [(.ireturn, 1, 0, 0)]
noncomputable def xm_X8_leastOf : xM := (⟨"PathReaderModel", "leastOf", "(I)I"⟩, 7, cX8_leastOf, 1, (some .int), 0, 0, 0, 7, 1, [(0, xb_X8_leastOf_0), (12, xb_X8_leastOf_12), (16, xb_X8_leastOf_16), (26, xb_X8_leastOf_26), (36, xb_X8_leastOf_36), (46, xb_X8_leastOf_46), (47, xb_X8_leastOf_47)])
noncomputable def xb_X8_fails_0 : List xI := [(.aload_n 0, 1, 0, 0), (.iload_n 1, 1, 0, 0), (.putfield 214, 3, 7, 23), (.iconst 0, 1, 0, 0), (.ireturn, 1, 0, 0)]
noncomputable def xm_X8_fails : xM := (⟨"PathReaderModel", "fails", "(I)Z"⟩, 7, cX8_fails, 2, (some .boolean), 0, 0, 1, 7, 1, [(0, xb_X8_fails_0)])
noncomputable def xb_X8_mostOf_0 : List xI := [(.iload_n 0, 1, 0, 0), (.bipush 119, 2, 0, 0), (.if_icmp .ne 8, 3, 11, 0), (.bipush 6, 2, 0, 0), (.goto 7, 3, 15, 0)]
noncomputable def xb_X8_mostOf_11 : List xI := [(.iload_n 0, 1, 0, 0), (.invokestatic 217, 3, 154, 1)]
noncomputable def xb_X8_mostOf_15 : List xI := [(.ireturn, 1, 0, 0)]
noncomputable def xm_X8_mostOf : xM := (⟨"PathReaderModel", "mostOf", "(I)I"⟩, 7, cX8_mostOf, 1, (some .int), 1, 20, 0, 7, 1, [(0, xb_X8_mostOf_0), (11, xb_X8_mostOf_11), (15, xb_X8_mostOf_15)])
noncomputable def xb_X8_takesNumber_0 : List xI := [(.aload_n 0, 1, 0, 0), (.getfield 208, 3, 7, 22), (.istore_n 2, 1, 0, 0), (.aload_n 0, 1, 0, 0), (.getfield 52, 3, 7, 20), (.iload_n 1, 1, 0, 0), (.iconst 0, 1, 0, 0), (.iastore, 1, 0, 0)]
noncomputable def xb_X8_takesNumber_12 : List xI := [(.aload_n 0, 1, 0, 0), (.bipush 48, 2, 0, 0), (.bipush 57, 2, 0, 0), (.invokevirtual 211, 3, 152, 3), (.ifCond .eq 63, 3, 83, 0), (.aload_n 0, 1, 0, 0), (.getfield 208, 3, 7, 22), (.iload_n 2, 1, 0, 0), (.iconst 2, 1, 0, 0), (.iadd, 1, 0, 0), (.if_icmp .ne 12, 3, 42, 0), (.aload_n 0, 1, 0, 0), (.aload_n 0, 1, 0, 0), (.getfield 208, 3, 7, 22), (.invokevirtual 220, 3, 155, 2), (.ireturn, 1, 0, 0)]
noncomputable def xb_X8_takesNumber_42 : List xI := [(.aload_n 0, 1, 0, 0), (.getfield 52, 3, 7, 20), (.iload_n 1, 1, 0, 0), (.bipush 10, 2, 0, 0), (.aload_n 0, 1, 0, 0), (.getfield 52, 3, 7, 20), (.iload_n 1, 1, 0, 0), (.iaload, 1, 0, 0), (.imul, 1, 0, 0), (.aload_n 0, 1, 0, 0), (.getfield 22, 3, 7, 5), (.aload_n 0, 1, 0, 0), (.getfield 208, 3, 7, 22), (.iaload, 1, 0, 0), (.iadd, 1, 0, 0), (.bipush 48, 2, 0, 0), (.isub, 1, 0, 0), (.iastore, 1, 0, 0), (.aload_n 0, 1, 0, 0), (.dup, 1, 0, 0), (.getfield 208, 3, 7, 22), (.iconst 1, 1, 0, 0), (.iadd, 1, 0, 0), (.putfield 208, 3, 7, 22), (.goto (-68), 3, 12, 0)]
noncomputable def xb_X8_takesNumber_83 : List xI := [(.iconst 1, 1, 0, 0), (.ireturn, 1, 0, 0)]
noncomputable def xm_X8_takesNumber : xM := (⟨"PathReaderModel", "takesNumber", "(I)Z"⟩, 7, cX8_takesNumber, 3, (some .boolean), 2, 44, 1, 7, 1, [(0, xb_X8_takesNumber_0), (12, xb_X8_takesNumber_12), (42, xb_X8_takesNumber_42), (83, xb_X8_takesNumber_83)])
noncomputable def xb_X8_takesNumbers_0 : List xI := [(.aload_n 0, 1, 0, 0), (.getfield 49, 3, 7, 19), (.aload_n 0, 1, 0, 0), (.getfield 223, 3, 7, 21), (.iaload, 1, 0, 0), (.istore_n 2, 1, 0, 0), (.aload_n 0, 1, 0, 0), (.invokevirtual 226, 3, 153, 1)]
noncomputable def xb_X8_takesNumbers_14 : List xI := [(.aload_n 0, 1, 0, 0), (.bipush 59, 2, 0, 0), (.bipush 59, 2, 0, 0), (.invokevirtual 211, 3, 152, 3), (.ifCond .ne 145, 3, 167, 0), (.iload_n 2, 1, 0, 0), (.aload_n 0, 1, 0, 0), (.getfield 49, 3, 7, 19), (.aload_n 0, 1, 0, 0), (.getfield 223, 3, 7, 21), (.iaload, 1, 0, 0), (.isub, 1, 0, 0), (.istore_n 3, 1, 0, 0), (.iload_n 3, 1, 0, 0), (.iload_n 1, 1, 0, 0), (.invokestatic 229, 3, 156, 1), (.if_icmp .ge 7, 3, 49, 0), (.iconst 1, 1, 0, 0), (.goto 4, 3, 50, 0)]
noncomputable def xb_X8_takesNumbers_49 : List xI := [(.iconst 0, 1, 0, 0)]
noncomputable def xb_X8_takesNumbers_50 : List xI := [(.istore 4, 2, 0, 0), (.iload 4, 2, 0, 0), (.ifCond .eq 29, 3, 83, 0), (.iload_n 1, 1, 0, 0), (.bipush 114, 2, 0, 0), (.if_icmp .eq 9, 3, 69, 0), (.iload_n 1, 1, 0, 0), (.bipush 111, 2, 0, 0), (.if_icmp .ne 17, 3, 83, 0)]
noncomputable def xb_X8_takesNumbers_69 : List xI := [(.iload_n 3, 1, 0, 0), (.iload_n 1, 1, 0, 0), (.invokestatic 229, 3, 156, 1), (.iconst 1, 1, 0, 0), (.isub, 1, 0, 0), (.if_icmp .ne 7, 3, 83, 0), (.iconst 1, 1, 0, 0), (.goto 4, 3, 84, 0)]
noncomputable def xb_X8_takesNumbers_83 : List xI := [(.iconst 0, 1, 0, 0)]
noncomputable def xb_X8_takesNumbers_84 : List xI := [(.istore 5, 2, 0, 0), (.iload 4, 2, 0, 0), (.ifCond .eq 24, 3, 112, 0), (.aload_n 0, 1, 0, 0), (.bipush 48, 2, 0, 0), (.bipush 57, 2, 0, 0), (.invokevirtual 211, 3, 152, 3), (.ifCond .eq 13, 3, 112, 0), (.aload_n 0, 1, 0, 0), (.iload_n 2, 1, 0, 0), (.invokevirtual 232, 3, 157, 2), (.ifCond .ne 50, 3, 157, 0), (.iconst 0, 1, 0, 0), (.ireturn, 1, 0, 0)]
noncomputable def xb_X8_takesNumbers_112 : List xI := [(.iload 5, 2, 0, 0), (.ifCond .eq 34, 3, 148, 0), (.aload_n 0, 1, 0, 0), (.bipush 45, 2, 0, 0), (.bipush 45, 2, 0, 0), (.invokevirtual 211, 3, 152, 3), (.ifCond .eq 23, 3, 148, 0), (.aload_n 0, 1, 0, 0), (.getfield 52, 3, 7, 20), (.iload_n 2, 1, 0, 0), (.iconst (-1), 1, 0, 0), (.iastore, 1, 0, 0), (.aload_n 0, 1, 0, 0), (.dup, 1, 0, 0), (.getfield 208, 3, 7, 22), (.iconst 1, 1, 0, 0), (.iadd, 1, 0, 0), (.putfield 208, 3, 7, 22), (.goto 12, 3, 157, 0)]
noncomputable def xb_X8_takesNumbers_148 : List xI := [(.aload_n 0, 1, 0, 0), (.aload_n 0, 1, 0, 0), (.getfield 208, 3, 7, 22), (.invokevirtual 220, 3, 155, 2), (.ireturn, 1, 0, 0)]
noncomputable def xb_X8_takesNumbers_157 : List xI := [(.iinc 2 1, 3, 0, 0), (.aload_n 0, 1, 0, 0), (.invokevirtual 226, 3, 153, 1), (.goto (-150), 3, 14, 0)]
noncomputable def xb_X8_takesNumbers_167 : List xI := [(.iload_n 2, 1, 0, 0), (.aload_n 0, 1, 0, 0), (.getfield 49, 3, 7, 19), (.aload_n 0, 1, 0, 0), (.getfield 223, 3, 7, 21), (.iaload, 1, 0, 0), (.isub, 1, 0, 0), (.iload_n 1, 1, 0, 0), (.invokestatic 217, 3, 154, 1), (.if_icmp .ge 12, 3, 194, 0), (.aload_n 0, 1, 0, 0), (.aload_n 0, 1, 0, 0), (.getfield 208, 3, 7, 22), (.invokevirtual 220, 3, 155, 2), (.ireturn, 1, 0, 0)]
noncomputable def xb_X8_takesNumbers_194 : List xI := [(.aload_n 0, 1, 0, 0), (.dup, 1, 0, 0), (.getfield 208, 3, 7, 22), (.iconst 1, 1, 0, 0), (.iadd, 1, 0, 0), (.putfield 208, 3, 7, 22), (.aload_n 0, 1, 0, 0), (.dup, 1, 0, 0), (.getfield 223, 3, 7, 21), (.iconst 1, 1, 0, 0), (.iadd, 1, 0, 0), (.putfield 223, 3, 7, 21), (.aload_n 0, 1, 0, 0), (.getfield 49, 3, 7, 19), (.aload_n 0, 1, 0, 0), (.getfield 223, 3, 7, 21), (.iload_n 2, 1, 0, 0), (.iastore, 1, 0, 0), (.iconst 1, 1, 0, 0), (.ireturn, 1, 0, 0)]
noncomputable def xm_X8_takesNumbers : xM := (⟨"PathReaderModel", "takesNumbers", "(I)Z"⟩, 7, cX8_takesNumbers, 6, (some .boolean), 3, 66, 1, 7, 1, [(0, xb_X8_takesNumbers_0), (14, xb_X8_takesNumbers_14), (49, xb_X8_takesNumbers_49), (50, xb_X8_takesNumbers_50), (69, xb_X8_takesNumbers_69), (83, xb_X8_takesNumbers_83), (84, xb_X8_takesNumbers_84), (112, xb_X8_takesNumbers_112), (148, xb_X8_takesNumbers_148), (157, xb_X8_takesNumbers_157), (167, xb_X8_takesNumbers_167), (194, xb_X8_takesNumbers_194)])
noncomputable def xb_X8_isRead_0 : List xI := [(.aload_n 0, 1, 0, 0), (.iconst 0, 1, 0, 0), (.putfield 208, 3, 7, 22), (.aload_n 0, 1, 0, 0), (.iconst 0, 1, 0, 0), (.putfield 223, 3, 7, 21), (.aload_n 0, 1, 0, 0), (.getfield 49, 3, 7, 19), (.iconst 0, 1, 0, 0), (.iconst 0, 1, 0, 0), (.iastore, 1, 0, 0), (.aload_n 0, 1, 0, 0), (.invokevirtual 226, 3, 153, 1)]
noncomputable def xb_X8_isRead_21 : List xI := [(.aload_n 0, 1, 0, 0), (.getfield 208, 3, 7, 22), (.aload_n 0, 1, 0, 0), (.getfield 205, 3, 7, 6), (.if_icmp .ge 66, 3, 95, 0), (.aload_n 0, 1, 0, 0), (.getfield 22, 3, 7, 5), (.aload_n 0, 1, 0, 0), (.getfield 208, 3, 7, 22), (.iaload, 1, 0, 0), (.istore_n 1, 1, 0, 0), (.iload_n 1, 1, 0, 0), (.invokestatic 217, 3, 154, 1), (.ifCond .ge 12, 3, 58, 0), (.aload_n 0, 1, 0, 0), (.aload_n 0, 1, 0, 0), (.getfield 208, 3, 7, 22), (.invokevirtual 220, 3, 155, 2), (.ireturn, 1, 0, 0)]
noncomputable def xb_X8_isRead_58 : List xI := [(.aload_n 0, 1, 0, 0), (.getfield 46, 3, 7, 18), (.aload_n 0, 1, 0, 0), (.getfield 223, 3, 7, 21), (.iload_n 1, 1, 0, 0), (.iastore, 1, 0, 0), (.aload_n 0, 1, 0, 0), (.dup, 1, 0, 0), (.getfield 208, 3, 7, 22), (.iconst 1, 1, 0, 0), (.iadd, 1, 0, 0), (.putfield 208, 3, 7, 22), (.aload_n 0, 1, 0, 0), (.iload_n 1, 1, 0, 0), (.invokevirtual 235, 3, 158, 2), (.ifCond .ne 5, 3, 88, 0), (.iconst 0, 1, 0, 0), (.ireturn, 1, 0, 0)]
noncomputable def xb_X8_isRead_88 : List xI := [(.aload_n 0, 1, 0, 0), (.invokevirtual 226, 3, 153, 1), (.goto (-71), 3, 21, 0)]
noncomputable def xb_X8_isRead_95 : List xI := [(.aload_n 0, 1, 0, 0), (.getfield 223, 3, 7, 21), (.ifCond .gt 14, 3, 113, 0), (.aload_n 0, 1, 0, 0), (.aload_n 0, 1, 0, 0), (.getfield 205, 3, 7, 6), (.invokevirtual 220, 3, 155, 2), (.ifCond .eq 7, 3, 117, 0)]
noncomputable def xb_X8_isRead_113 : List xI := [(.iconst 1, 1, 0, 0), (.goto 4, 3, 118, 0)]
noncomputable def xb_X8_isRead_117 : List xI := [(.iconst 0, 1, 0, 0)]
noncomputable def xb_X8_isRead_118 : List xI := [(.ireturn, 1, 0, 0)]
noncomputable def xm_X8_isRead : xM := (⟨"PathReaderModel", "isRead", "()Z"⟩, 7, cX8_isRead, 2, (some .boolean), 4, 91, 1, 7, 0, [(0, xb_X8_isRead_0), (21, xb_X8_isRead_21), (58, xb_X8_isRead_58), (88, xb_X8_isRead_88), (95, xb_X8_isRead_95), (113, xb_X8_isRead_113), (117, xb_X8_isRead_117), (118, xb_X8_isRead_118)])
noncomputable def xb_X8_entersTold_0 : List xI := [(.iload_n 1, 1, 0, 0), (.iload_n 2, 1, 0, 0), (.iload_n 3, 1, 0, 0), (.invokestatic 108, 3, 41, 3), (.ifCond .eq 15, 3, 21, 0), (.aload_n 0, 1, 0, 0), (.getfield 7, 3, 7, 0), (.bipush 78, 2, 0, 0), (.iaload, 1, 0, 0), (.bipush 12, 2, 0, 0), (.if_icmp .ne 5, 3, 23, 0)]
noncomputable def xb_X8_entersTold_21 : List xI := [(.iconst 0, 1, 0, 0), (.ireturn, 1, 0, 0)]
noncomputable def xb_X8_entersTold_23 : List xI := [(.aload_n 0, 1, 0, 0), (.iload_n 1, 1, 0, 0), (.iload_n 2, 1, 0, 0), (.iload_n 3, 1, 0, 0), (.invokevirtual 114, 3, 43, 4), (.pop, 1, 0, 0), (.iconst 1, 1, 0, 0), (.ireturn, 1, 0, 0)]
noncomputable def xm_X8_entersTold : xM := (⟨"PathReaderModel", "entersTold", "(III)Z"⟩, 7, cX8_entersTold, 4, (some .boolean), 3, 65, 1, 7, 3, [(0, xb_X8_entersTold_0), (21, xb_X8_entersTold_21), (23, xb_X8_entersTold_23)])
noncomputable def xb_X8_prices_0 : List xI := [(.iload_n 2, 1, 0, 0), (.ifCond .eq 17, 3, 18, 0), (.iload_n 3, 1, 0, 0), (.invokestatic 91, 3, 28, 1), (.ifCond .eq 10, 3, 18, 0), (.aload_n 0, 1, 0, 0), (.getfield 7, 3, 7, 0), (.iload_n 1, 1, 0, 0), (.iload_n 3, 1, 0, 0), (.iastore, 1, 0, 0)]
noncomputable def xb_X8_prices_18 : List xI := [(.iload_n 2, 1, 0, 0), (.ifCond .eq 14, 3, 33, 0), (.iload_n 3, 1, 0, 0), (.invokestatic 91, 3, 28, 1), (.ifCond .eq 7, 3, 33, 0), (.iconst 1, 1, 0, 0), (.goto 4, 3, 34, 0)]
noncomputable def xb_X8_prices_33 : List xI := [(.iconst 0, 1, 0, 0)]
noncomputable def xb_X8_prices_34 : List xI := [(.ireturn, 1, 0, 0)]
noncomputable def xm_X8_prices : xM := (⟨"PathReaderModel", "prices", "(IZI)Z"⟩, 7, cX8_prices, 4, (some .boolean), 2, 42, 1, 7, 3, [(0, xb_X8_prices_0), (18, xb_X8_prices_18), (33, xb_X8_prices_33), (34, xb_X8_prices_34)])
noncomputable def xb_X8_listensAll_0 : List xI := [(.aload_n 0, 1, 0, 0), (.getfield 49, 3, 7, 19), (.iload_n 1, 1, 0, 0), (.iaload, 1, 0, 0), (.istore_n 2, 1, 0, 0)]
noncomputable def xb_X8_listensAll_7 : List xI := [(.iload_n 2, 1, 0, 0), (.aload_n 0, 1, 0, 0), (.getfield 49, 3, 7, 19), (.iload_n 1, 1, 0, 0), (.iconst 1, 1, 0, 0), (.iadd, 1, 0, 0), (.iaload, 1, 0, 0), (.if_icmp .ge 46, 3, 62, 0), (.aload_n 0, 1, 0, 0), (.aload_n 0, 1, 0, 0), (.getfield 52, 3, 7, 20), (.iload_n 2, 1, 0, 0), (.iaload, 1, 0, 0), (.invokevirtual 117, 3, 55, 2), (.ifCond .eq 15, 3, 44, 0), (.aload_n 0, 1, 0, 0), (.getfield 7, 3, 7, 0), (.bipush 118, 2, 0, 0), (.iaload, 1, 0, 0), (.bipush 6, 2, 0, 0), (.if_icmp .ne 5, 3, 46, 0)]
noncomputable def xb_X8_listensAll_44 : List xI := [(.iconst 0, 1, 0, 0), (.ireturn, 1, 0, 0)]
noncomputable def xb_X8_listensAll_46 : List xI := [(.aload_n 0, 1, 0, 0), (.aload_n 0, 1, 0, 0), (.getfield 52, 3, 7, 20), (.iload_n 2, 1, 0, 0), (.iaload, 1, 0, 0), (.invokevirtual 177, 3, 95, 2), (.iinc 2 1, 3, 0, 0), (.goto (-52), 3, 7, 0)]
noncomputable def xb_X8_listensAll_62 : List xI := [(.iconst 1, 1, 0, 0), (.ireturn, 1, 0, 0)]
noncomputable def xm_X8_listensAll : xM := (⟨"PathReaderModel", "listensAll", "(I)Z"⟩, 7, cX8_listensAll, 3, (some .boolean), 6, 143, 1, 7, 1, [(0, xb_X8_listensAll_0), (7, xb_X8_listensAll_7), (44, xb_X8_listensAll_44), (46, xb_X8_listensAll_46), (62, xb_X8_listensAll_62)])
noncomputable def xb_X8_obeys_0 : List xI := [(.aload_n 0, 1, 0, 0), (.getfield 49, 3, 7, 19), (.iload_n 1, 1, 0, 0), (.iaload, 1, 0, 0), (.istore_n 2, 1, 0, 0), (.aload_n 0, 1, 0, 0), (.getfield 52, 3, 7, 20), (.iload_n 2, 1, 0, 0), (.iaload, 1, 0, 0), (.istore_n 3, 1, 0, 0), (.aload_n 0, 1, 0, 0), (.getfield 46, 3, 7, 18), (.iload_n 1, 1, 0, 0), (.iaload, 1, 0, 0), (.lookupswitch 172 #[(101, 44), (102, 52), (111, 140), (114, 74)], 44, 0, 0)]
noncomputable def xb_X8_obeys_64 : List xI := [(.aload_n 0, 1, 0, 0), (.iload_n 3, 1, 0, 0), (.iconst (-1), 1, 0, 0), (.iconst 0, 1, 0, 0), (.invokevirtual 238, 3, 160, 4), (.ireturn, 1, 0, 0)]
noncomputable def xb_X8_obeys_72 : List xI := [(.aload_n 0, 1, 0, 0), (.iload_n 3, 1, 0, 0), (.aload_n 0, 1, 0, 0), (.getfield 52, 3, 7, 20), (.iload_n 2, 1, 0, 0), (.iconst 1, 1, 0, 0), (.iadd, 1, 0, 0), (.iaload, 1, 0, 0), (.aload_n 0, 1, 0, 0), (.getfield 52, 3, 7, 20), (.iload_n 2, 1, 0, 0), (.iconst 2, 1, 0, 0), (.iadd, 1, 0, 0), (.iaload, 1, 0, 0), (.invokevirtual 238, 3, 160, 4), (.ireturn, 1, 0, 0)]
noncomputable def xb_X8_obeys_94 : List xI := [(.iload_n 3, 1, 0, 0), (.aload_n 0, 1, 0, 0), (.getfield 52, 3, 7, 20), (.iload_n 2, 1, 0, 0), (.iconst 1, 1, 0, 0), (.iadd, 1, 0, 0), (.iaload, 1, 0, 0), (.aload_n 0, 1, 0, 0), (.getfield 52, 3, 7, 20), (.iload_n 2, 1, 0, 0), (.iconst 2, 1, 0, 0), (.iadd, 1, 0, 0), (.iaload, 1, 0, 0), (.invokestatic 88, 3, 27, 3), (.istore 4, 2, 0, 0), (.aload_n 0, 1, 0, 0), (.iload 4, 2, 0, 0), (.ifCond .eq 26, 3, 145, 0), (.iload_n 3, 1, 0, 0), (.aload_n 0, 1, 0, 0), (.getfield 52, 3, 7, 20), (.iload_n 2, 1, 0, 0), (.iconst 1, 1, 0, 0), (.iadd, 1, 0, 0), (.iaload, 1, 0, 0), (.aload_n 0, 1, 0, 0), (.getfield 52, 3, 7, 20), (.iload_n 2, 1, 0, 0), (.iconst 2, 1, 0, 0), (.iadd, 1, 0, 0), (.iaload, 1, 0, 0), (.invokestatic 100, 3, 31, 3), (.goto 4, 3, 146, 0)]
noncomputable def xb_X8_obeys_145 : List xI := [(.iconst 0, 1, 0, 0)]
noncomputable def xb_X8_obeys_146 : List xI := [(.iload 4, 2, 0, 0), (.aload_n 0, 1, 0, 0), (.getfield 52, 3, 7, 20), (.iload_n 2, 1, 0, 0), (.iconst 3, 1, 0, 0), (.iadd, 1, 0, 0), (.iaload, 1, 0, 0), (.invokevirtual 241, 3, 161, 4), (.ireturn, 1, 0, 0)]
noncomputable def xb_X8_obeys_160 : List xI := [(.aload_n 0, 1, 0, 0), (.bipush 72, 2, 0, 0), (.iload_n 3, 1, 0, 0), (.invokestatic 85, 3, 26, 1), (.ifCond .eq 7, 3, 174, 0), (.iload_n 3, 1, 0, 0), (.goto 4, 3, 175, 0)]
noncomputable def xb_X8_obeys_174 : List xI := [(.iconst 0, 1, 0, 0)]
noncomputable def xb_X8_obeys_175 : List xI := [(.iadd, 1, 0, 0), (.iload_n 3, 1, 0, 0), (.invokestatic 85, 3, 26, 1), (.aload_n 0, 1, 0, 0), (.getfield 52, 3, 7, 20), (.iload_n 2, 1, 0, 0), (.iconst 1, 1, 0, 0), (.iadd, 1, 0, 0), (.iaload, 1, 0, 0), (.invokevirtual 241, 3, 161, 4), (.ireturn, 1, 0, 0)]
noncomputable def xb_X8_obeys_192 : List xI := [(.aload_n 0, 1, 0, 0), (.iload_n 1, 1, 0, 0), (.invokevirtual 245, 3, 162, 2), (.ireturn, 1, 0, 0)]
noncomputable def xm_X8_obeys : xM := (⟨"PathReaderModel", "obeys", "(I)Z"⟩, 7, cX8_obeys, 5, (some .boolean), 7, 165, 1, 7, 1, [(0, xb_X8_obeys_0), (64, xb_X8_obeys_64), (72, xb_X8_obeys_72), (94, xb_X8_obeys_94), (145, xb_X8_obeys_145), (146, xb_X8_obeys_146), (160, xb_X8_obeys_160), (174, xb_X8_obeys_174), (175, xb_X8_obeys_175), (192, xb_X8_obeys_192)])
noncomputable def xb_X8_turns_0 : List xI := [(.iconst 0, 1, 0, 0), (.istore_n 1, 1, 0, 0)]
noncomputable def xb_X8_turns_2 : List xI := [(.iload_n 1, 1, 0, 0), (.sipush 149, 3, 0, 0), (.if_icmp .ge 35, 3, 41, 0), (.aload_n 0, 1, 0, 0), (.getfield 7, 3, 7, 0), (.iload_n 1, 1, 0, 0), (.iaload, 1, 0, 0), (.istore_n 2, 1, 0, 0), (.aload_n 0, 1, 0, 0), (.getfield 7, 3, 7, 0), (.iload_n 1, 1, 0, 0), (.aload_n 0, 1, 0, 0), (.getfield 13, 3, 7, 1), (.iload_n 1, 1, 0, 0), (.iaload, 1, 0, 0), (.iastore, 1, 0, 0), (.aload_n 0, 1, 0, 0), (.getfield 13, 3, 7, 1), (.iload_n 1, 1, 0, 0), (.iload_n 2, 1, 0, 0), (.iastore, 1, 0, 0), (.iinc 1 1, 3, 0, 0), (.goto (-36), 3, 2, 0)]
noncomputable def xb_X8_turns_41 : List xI := [(.return_, 1, 0, 0)]
noncomputable def xm_X8_turns : xM := (⟨"PathReaderModel", "turns", "()V"⟩, 7, cX8_turns, 3, none, 0, 0, 1, 7, 0, [(0, xb_X8_turns_0), (2, xb_X8_turns_2), (41, xb_X8_turns_41)])
noncomputable def xb_X8_does_0 : List xI := [(.aload_n 0, 1, 0, 0), (.invokevirtual 248, 3, 159, 1), (.ifCond .ne 11, 3, 15, 0), (.bipush (-10), 2, 0, 0), (.aload_n 0, 1, 0, 0), (.getfield 214, 3, 7, 23), (.isub, 1, 0, 0), (.ireturn, 1, 0, 0)]
noncomputable def xb_X8_does_15 : List xI := [(.iconst 0, 1, 0, 0), (.istore_n 1, 1, 0, 0)]
noncomputable def xb_X8_does_17 : List xI := [(.iload_n 1, 1, 0, 0), (.sipush 149, 3, 0, 0), (.if_icmp .ge 21, 3, 42, 0), (.aload_n 0, 1, 0, 0), (.getfield 13, 3, 7, 1), (.iload_n 1, 1, 0, 0), (.aload_n 0, 1, 0, 0), (.getfield 7, 3, 7, 0), (.iload_n 1, 1, 0, 0), (.iaload, 1, 0, 0), (.iastore, 1, 0, 0), (.iinc 1 1, 3, 0, 0), (.goto (-22), 3, 17, 0)]
noncomputable def xb_X8_does_42 : List xI := [(.iconst 0, 1, 0, 0), (.istore_n 1, 1, 0, 0)]
noncomputable def xb_X8_does_44 : List xI := [(.iload_n 1, 1, 0, 0), (.aload_n 0, 1, 0, 0), (.getfield 223, 3, 7, 21), (.if_icmp .ge 27, 3, 76, 0), (.aload_n 0, 1, 0, 0), (.iload_n 1, 1, 0, 0), (.invokevirtual 251, 3, 163, 2), (.ifCond .ne 13, 3, 70, 0), (.aload_n 0, 1, 0, 0), (.invokevirtual 254, 3, 164, 1), (.sipush (-1000), 3, 0, 0), (.iload_n 1, 1, 0, 0), (.isub, 1, 0, 0), (.ireturn, 1, 0, 0)]
noncomputable def xb_X8_does_70 : List xI := [(.iinc 1 1, 3, 0, 0), (.goto (-29), 3, 44, 0)]
noncomputable def xb_X8_does_76 : List xI := [(.aload_n 0, 1, 0, 0), (.invokevirtual 254, 3, 164, 1), (.aload_n 0, 1, 0, 0), (.invokevirtual 97, 3, 30, 1), (.aload_n 0, 1, 0, 0), (.invokevirtual 254, 3, 164, 1), (.aload_n 0, 1, 0, 0), (.getfield 223, 3, 7, 21), (.ireturn, 1, 0, 0)]
noncomputable def xm_X8_does : xM := (⟨"PathReaderModel", "does", "()I"⟩, 7, cX8_does, 2, (some .int), 8, 189, 1, 7, 0, [(0, xb_X8_does_0), (15, xb_X8_does_15), (17, xb_X8_does_17), (42, xb_X8_does_42), (44, xb_X8_does_44), (70, xb_X8_does_70), (76, xb_X8_does_76)])
noncomputable def xb_X5_pop_0 : List xI := [(.aload_n 0, 1, 0, 0), (.getfield 21, 3, 4, 2), (.ifCond .le 42, 3, 46, 0), (.aload_n 0, 1, 0, 0), (.aload_n 0, 1, 0, 0), (.getfield 17, 3, 4, 1), (.bipush 6, 2, 0, 0), (.iadd, 1, 0, 0), (.iconst 1, 1, 0, 0), (.isub, 1, 0, 0), (.bipush 6, 2, 0, 0), (.irem, 1, 0, 0), (.putfield 17, 3, 4, 1), (.aload_n 0, 1, 0, 0), (.dup, 1, 0, 0), (.getfield 21, 3, 4, 2), (.iconst 1, 1, 0, 0), (.isub, 1, 0, 0), (.putfield 21, 3, 4, 2), (.aload_n 1, 1, 0, 0), (.aload_n 0, 1, 0, 0), (.getfield 11, 3, 4, 0), (.aload_n 0, 1, 0, 0), (.getfield 17, 3, 4, 1), (.aaload, 1, 0, 0), (.invokevirtual 25, 3, 21, 2)]
noncomputable def xb_X5_pop_46 : List xI := [(.return_, 1, 0, 0)]
noncomputable def xm_X5_pop : xM := (⟨"PathReader$Shelf", "pop", "(LPathReader$State;)V"⟩, 4, cX5_pop, 2, none, 3, 68, 1, 4, 1, [(0, xb_X5_pop_0), (46, xb_X5_pop_46)])
noncomputable def xb_X7_back_0 : List xI := [(.aload_n 0, 1, 0, 0), (.getfield 22, 3, 6, 2), (.getfield 211, 3, 4, 2), (.ifCond .ne 10, 3, 17, 0), (.aload_n 0, 1, 0, 0), (.bipush (-3), 2, 0, 0), (.invokevirtual 54, 3, 18, 2), (.ireturn, 1, 0, 0)]
noncomputable def xb_X7_back_17 : List xI := [(.aload_n 0, 1, 0, 0), (.getfield 22, 3, 6, 2), (.aload_n 0, 1, 0, 0), (.getfield 10, 3, 6, 0), (.invokevirtual 212, 3, 166, 2), (.aload_n 0, 1, 0, 0), (.getfield 22, 3, 6, 2), (.getfield 211, 3, 4, 2), (.ireturn, 1, 0, 0)]
noncomputable def xm_X7_back : xM := (⟨"PathReader", "back", "()I"⟩, 6, cX7_back, 1, (some .int), 4, 89, 1, 6, 0, [(0, xb_X7_back_0), (17, xb_X7_back_17)])
noncomputable def xb_X8_back_0 : List xI := [(.aload_n 0, 1, 0, 0), (.getfield 58, 3, 7, 3), (.ifCond .ne 8, 3, 12, 0), (.aload_n 0, 1, 0, 0), (.invokevirtual 62, 3, 98, 1), (.ireturn, 1, 0, 0)]
noncomputable def xb_X8_back_12 : List xI := [(.aload_n 0, 1, 0, 0), (.dup, 1, 0, 0), (.getfield 58, 3, 7, 3), (.iconst 1, 1, 0, 0), (.isub, 1, 0, 0), (.putfield 58, 3, 7, 3), (.iconst 0, 1, 0, 0), (.istore_n 1, 1, 0, 0)]
noncomputable def xb_X8_back_24 : List xI := [(.iload_n 1, 1, 0, 0), (.sipush 149, 3, 0, 0), (.if_icmp .ge 30, 3, 58, 0), (.aload_n 0, 1, 0, 0), (.getfield 7, 3, 7, 0), (.iload_n 1, 1, 0, 0), (.aload_n 0, 1, 0, 0), (.getfield 16, 3, 7, 2), (.sipush 149, 3, 0, 0), (.aload_n 0, 1, 0, 0), (.getfield 58, 3, 7, 3), (.imul, 1, 0, 0), (.iload_n 1, 1, 0, 0), (.iadd, 1, 0, 0), (.iaload, 1, 0, 0), (.iastore, 1, 0, 0), (.iinc 1 1, 3, 0, 0), (.goto (-31), 3, 24, 0)]
noncomputable def xb_X8_back_58 : List xI := [(.aload_n 0, 1, 0, 0), (.getfield 58, 3, 7, 3), (.ireturn, 1, 0, 0)]
noncomputable def xm_X8_back : xM := (⟨"PathReaderModel", "back", "()I"⟩, 7, cX8_back, 2, (some .int), 1, 20, 1, 7, 0, [(0, xb_X8_back_0), (12, xb_X8_back_12), (24, xb_X8_back_24), (58, xb_X8_back_58)])
noncomputable def xb_X7_told_0 : List xI := [(.iload_n 1, 1, 0, 0), (.tableswitch 138 0 8 #[51, 58, 65, 72, 83, 96, 109, 122, 130], 51, 0, 0)]
noncomputable def xb_X7_told_52 : List xI := [(.aload_n 0, 1, 0, 0), (.getfield 40, 3, 6, 5), (.iconst 0, 1, 0, 0), (.iaload, 1, 0, 0), (.ireturn, 1, 0, 0)]
noncomputable def xb_X7_told_59 : List xI := [(.aload_n 0, 1, 0, 0), (.getfield 40, 3, 6, 5), (.iconst 1, 1, 0, 0), (.iaload, 1, 0, 0), (.ireturn, 1, 0, 0)]
noncomputable def xb_X7_told_66 : List xI := [(.aload_n 0, 1, 0, 0), (.getfield 40, 3, 6, 5), (.iconst 2, 1, 0, 0), (.iaload, 1, 0, 0), (.ireturn, 1, 0, 0)]
noncomputable def xb_X7_told_73 : List xI := [(.aload_n 0, 1, 0, 0), (.getfield 10, 3, 6, 0), (.getfield 44, 3, 5, 0), (.getfield 215, 3, 1, 5), (.ireturn, 1, 0, 0)]
noncomputable def xb_X7_told_84 : List xI := [(.aload_n 0, 1, 0, 0), (.getfield 10, 3, 6, 0), (.getfield 44, 3, 5, 0), (.getfield 218, 3, 1, 4), (.iconst 0, 1, 0, 0), (.iaload, 1, 0, 0), (.ireturn, 1, 0, 0)]
noncomputable def xb_X7_told_97 : List xI := [(.aload_n 0, 1, 0, 0), (.getfield 10, 3, 6, 0), (.getfield 44, 3, 5, 0), (.getfield 218, 3, 1, 4), (.iconst 1, 1, 0, 0), (.iaload, 1, 0, 0), (.ireturn, 1, 0, 0)]
noncomputable def xb_X7_told_110 : List xI := [(.aload_n 0, 1, 0, 0), (.getfield 10, 3, 6, 0), (.getfield 44, 3, 5, 0), (.getfield 218, 3, 1, 4), (.iconst 2, 1, 0, 0), (.iaload, 1, 0, 0), (.ireturn, 1, 0, 0)]
noncomputable def xb_X7_told_123 : List xI := [(.aload_n 0, 1, 0, 0), (.getfield 36, 3, 6, 4), (.getfield 186, 3, 2, 7), (.ireturn, 1, 0, 0)]
noncomputable def xb_X7_told_131 : List xI := [(.aload_n 0, 1, 0, 0), (.getfield 22, 3, 6, 2), (.getfield 211, 3, 4, 2), (.ireturn, 1, 0, 0)]
noncomputable def xb_X7_told_139 : List xI := [(.aload_n 0, 1, 0, 0), (.bipush (-2), 2, 0, 0), (.invokevirtual 54, 3, 18, 2), (.ireturn, 1, 0, 0)]
noncomputable def xm_X7_told : xM := (⟨"PathReader", "told", "(I)I"⟩, 6, cX7_told, 2, (some .int), 1, 21, 1, 6, 1, [(0, xb_X7_told_0), (52, xb_X7_told_52), (59, xb_X7_told_59), (66, xb_X7_told_66), (73, xb_X7_told_73), (84, xb_X7_told_84), (97, xb_X7_told_97), (110, xb_X7_told_110), (123, xb_X7_told_123), (131, xb_X7_told_131), (139, xb_X7_told_139)])
noncomputable def xb_X8_toldOf_0 : List xI := [(.iload_n 1, 1, 0, 0), (.iconst 3, 1, 0, 0), (.if_icmp .ge 12, 3, 14, 0), (.aload_n 0, 1, 0, 0), (.getfield 19, 3, 7, 4), (.iload_n 1, 1, 0, 0), (.iaload, 1, 0, 0), (.goto 55, 3, 66, 0)]
noncomputable def xb_X8_toldOf_14 : List xI := [(.iload_n 1, 1, 0, 0), (.iconst 3, 1, 0, 0), (.if_icmp .ne 13, 3, 29, 0), (.aload_n 0, 1, 0, 0), (.getfield 7, 3, 7, 0), (.bipush 78, 2, 0, 0), (.iaload, 1, 0, 0), (.goto 40, 3, 66, 0)]
noncomputable def xb_X8_toldOf_29 : List xI := [(.iload_n 1, 1, 0, 0), (.bipush 7, 2, 0, 0), (.if_icmp .ge 17, 3, 49, 0), (.aload_n 0, 1, 0, 0), (.getfield 7, 3, 7, 0), (.bipush 115, 2, 0, 0), (.iload_n 1, 1, 0, 0), (.iadd, 1, 0, 0), (.iconst 4, 1, 0, 0), (.isub, 1, 0, 0), (.iaload, 1, 0, 0), (.goto 20, 3, 66, 0)]
noncomputable def xb_X8_toldOf_49 : List xI := [(.iload_n 1, 1, 0, 0), (.bipush 7, 2, 0, 0), (.if_icmp .ne 10, 3, 62, 0), (.aload_n 0, 1, 0, 0), (.getfield 205, 3, 7, 6), (.goto 7, 3, 66, 0)]
noncomputable def xb_X8_toldOf_62 : List xI := [(.aload_n 0, 1, 0, 0), (.getfield 58, 3, 7, 3)]
noncomputable def xb_X8_toldOf_66 : List xI := [(.ireturn, 1, 0, 0)]
noncomputable def xm_X8_toldOf : xM := (⟨"PathReaderModel", "toldOf", "(I)I"⟩, 7, cX8_toldOf, 2, (some .int), 0, 0, 1, 7, 1, [(0, xb_X8_toldOf_0), (14, xb_X8_toldOf_14), (29, xb_X8_toldOf_29), (49, xb_X8_toldOf_49), (62, xb_X8_toldOf_62), (66, xb_X8_toldOf_66)])
noncomputable def xb_X8_told_0 : List xI := [(.iload_n 1, 1, 0, 0), (.iconst 0, 1, 0, 0), (.bipush 8, 2, 0, 0), (.invokestatic 81, 3, 25, 3), (.ifCond .eq 11, 3, 18, 0), (.aload_n 0, 1, 0, 0), (.iload_n 1, 1, 0, 0), (.invokevirtual 257, 3, 170, 2), (.goto 7, 3, 22, 0)]
noncomputable def xb_X8_told_18 : List xI := [(.aload_n 0, 1, 0, 0), (.invokevirtual 94, 3, 29, 1)]
noncomputable def xb_X8_told_22 : List xI := [(.ireturn, 1, 0, 0)]
noncomputable def xm_X8_told : xM := (⟨"PathReaderModel", "told", "(I)I"⟩, 7, cX8_told, 2, (some .int), 1, 22, 1, 7, 1, [(0, xb_X8_told_0), (18, xb_X8_told_18), (22, xb_X8_told_22)])
noncomputable def xb_X7_digestOfSentence_0 : List xI := [(.lload_n 1, 1, 0, 0), (.lstore_n 3, 1, 0, 0), (.iconst 0, 1, 0, 0), (.istore 5, 2, 0, 0)]
noncomputable def xb_X7_digestOfSentence_5 : List xI := [(.iload 5, 2, 0, 0), (.bipush 6, 2, 0, 0), (.if_icmp .gt 23, 3, 32, 0), (.ldc2_w 223, 3, 31, 0), (.lload_n 3, 1, 0, 0), (.lmul, 1, 0, 0), (.aload_n 0, 1, 0, 0), (.iload 5, 2, 0, 0), (.invokevirtual 238, 3, 115, 2), (.i2l, 1, 0, 0), (.ladd, 1, 0, 0), (.lstore_n 3, 1, 0, 0), (.iinc 5 1, 3, 0, 0), (.goto (-24), 3, 5, 0)]
noncomputable def xb_X7_digestOfSentence_32 : List xI := [(.iconst 1, 1, 0, 0), (.istore 5, 2, 0, 0)]
noncomputable def xb_X7_digestOfSentence_35 : List xI := [(.iload 5, 2, 0, 0), (.aload_n 0, 1, 0, 0), (.getfield 10, 3, 6, 0), (.getfield 113, 3, 5, 1), (.getfield 126, 3, 3, 5), (.if_icmp .gt 40, 3, 87, 0), (.iconst 0, 1, 0, 0), (.istore 6, 2, 0, 0)]
noncomputable def xb_X7_digestOfSentence_53 : List xI := [(.iload 6, 2, 0, 0), (.iconst 5, 1, 0, 0), (.if_icmp .gt 25, 3, 81, 0), (.ldc2_w 223, 3, 31, 0), (.lload_n 3, 1, 0, 0), (.lmul, 1, 0, 0), (.aload_n 0, 1, 0, 0), (.iload 5, 2, 0, 0), (.iload 6, 2, 0, 0), (.invokevirtual 241, 3, 108, 3), (.i2l, 1, 0, 0), (.ladd, 1, 0, 0), (.lstore_n 3, 1, 0, 0), (.iinc 6 1, 3, 0, 0), (.goto (-25), 3, 53, 0)]
noncomputable def xb_X7_digestOfSentence_81 : List xI := [(.iinc 5 1, 3, 0, 0), (.goto (-49), 3, 35, 0)]
noncomputable def xb_X7_digestOfSentence_87 : List xI := [(.lload_n 3, 1, 0, 0), (.lreturn, 1, 0, 0)]
noncomputable def xm_X7_digestOfSentence : xM := (⟨"PathReader", "digestOfSentence", "(J)J"⟩, 6, cX7_digestOfSentence, 7, (some .long), 4, 90, 1, 6, 1, [(0, xb_X7_digestOfSentence_0), (5, xb_X7_digestOfSentence_5), (32, xb_X7_digestOfSentence_32), (35, xb_X7_digestOfSentence_35), (53, xb_X7_digestOfSentence_53), (81, xb_X7_digestOfSentence_81), (87, xb_X7_digestOfSentence_87)])
noncomputable def xb_X7_digestOfGrammar_0 : List xI := [(.lload_n 1, 1, 0, 0), (.lstore_n 3, 1, 0, 0), (.iconst 0, 1, 0, 0), (.istore 5, 2, 0, 0)]
noncomputable def xb_X7_digestOfGrammar_5 : List xI := [(.iload 5, 2, 0, 0), (.aload_n 0, 1, 0, 0), (.getfield 10, 3, 6, 0), (.getfield 44, 3, 5, 0), (.getfield 215, 3, 1, 5), (.if_icmp .ge 40, 3, 57, 0), (.iconst 0, 1, 0, 0), (.istore 6, 2, 0, 0)]
noncomputable def xb_X7_digestOfGrammar_23 : List xI := [(.iload 6, 2, 0, 0), (.iconst 2, 1, 0, 0), (.if_icmp .gt 25, 3, 51, 0), (.ldc2_w 223, 3, 31, 0), (.lload_n 3, 1, 0, 0), (.lmul, 1, 0, 0), (.aload_n 0, 1, 0, 0), (.iload 5, 2, 0, 0), (.iload 6, 2, 0, 0), (.invokevirtual 244, 3, 54, 3), (.i2l, 1, 0, 0), (.ladd, 1, 0, 0), (.lstore_n 3, 1, 0, 0), (.iinc 6 1, 3, 0, 0), (.goto (-25), 3, 23, 0)]
noncomputable def xb_X7_digestOfGrammar_51 : List xI := [(.iinc 5 1, 3, 0, 0), (.goto (-49), 3, 5, 0)]
noncomputable def xb_X7_digestOfGrammar_57 : List xI := [(.iconst 0, 1, 0, 0), (.istore 5, 2, 0, 0)]
noncomputable def xb_X7_digestOfGrammar_60 : List xI := [(.iload 5, 2, 0, 0), (.bipush 6, 2, 0, 0), (.if_icmp .ge 30, 3, 94, 0), (.ldc2_w 223, 3, 31, 0), (.lload_n 3, 1, 0, 0), (.lmul, 1, 0, 0), (.aload_n 0, 1, 0, 0), (.getfield 10, 3, 6, 0), (.getfield 44, 3, 5, 0), (.getfield 247, 3, 1, 1), (.iload 5, 2, 0, 0), (.iaload, 1, 0, 0), (.i2l, 1, 0, 0), (.ladd, 1, 0, 0), (.lstore_n 3, 1, 0, 0), (.iinc 5 1, 3, 0, 0), (.goto (-31), 3, 60, 0)]
noncomputable def xb_X7_digestOfGrammar_94 : List xI := [(.iconst 0, 1, 0, 0), (.istore 5, 2, 0, 0)]
noncomputable def xb_X7_digestOfGrammar_97 : List xI := [(.iload 5, 2, 0, 0), (.bipush 6, 2, 0, 0), (.if_icmp .ge 58, 3, 159, 0), (.iconst 0, 1, 0, 0), (.istore 6, 2, 0, 0)]
noncomputable def xb_X7_digestOfGrammar_107 : List xI := [(.iload 6, 2, 0, 0), (.bipush 6, 2, 0, 0), (.if_icmp .ge 42, 3, 153, 0), (.iconst 0, 1, 0, 0), (.istore 7, 2, 0, 0)]
noncomputable def xb_X7_digestOfGrammar_117 : List xI := [(.iload 7, 2, 0, 0), (.iconst 2, 1, 0, 0), (.if_icmp .ge 27, 3, 147, 0), (.ldc2_w 223, 3, 31, 0), (.lload_n 3, 1, 0, 0), (.lmul, 1, 0, 0), (.aload_n 0, 1, 0, 0), (.iload 5, 2, 0, 0), (.iload 6, 2, 0, 0), (.iload 7, 2, 0, 0), (.invokevirtual 250, 3, 49, 4), (.i2l, 1, 0, 0), (.ladd, 1, 0, 0), (.lstore_n 3, 1, 0, 0), (.iinc 7 1, 3, 0, 0), (.goto (-27), 3, 117, 0)]
noncomputable def xb_X7_digestOfGrammar_147 : List xI := [(.iinc 6 1, 3, 0, 0), (.goto (-43), 3, 107, 0)]
noncomputable def xb_X7_digestOfGrammar_153 : List xI := [(.iinc 5 1, 3, 0, 0), (.goto (-59), 3, 97, 0)]
noncomputable def xb_X7_digestOfGrammar_159 : List xI := [(.lload_n 3, 1, 0, 0), (.lreturn, 1, 0, 0)]
noncomputable def xm_X7_digestOfGrammar : xM := (⟨"PathReader", "digestOfGrammar", "(J)J"⟩, 6, cX7_digestOfGrammar, 8, (some .long), 3, 66, 1, 6, 1, [(0, xb_X7_digestOfGrammar_0), (5, xb_X7_digestOfGrammar_5), (23, xb_X7_digestOfGrammar_23), (51, xb_X7_digestOfGrammar_51), (57, xb_X7_digestOfGrammar_57), (60, xb_X7_digestOfGrammar_60), (94, xb_X7_digestOfGrammar_94), (97, xb_X7_digestOfGrammar_97), (107, xb_X7_digestOfGrammar_107), (117, xb_X7_digestOfGrammar_117), (147, xb_X7_digestOfGrammar_147), (153, xb_X7_digestOfGrammar_153), (159, xb_X7_digestOfGrammar_159)])
noncomputable def xb_X7_digest_0 : List xI := [(.ldc2_w 221, 3, 2605, 0), (.lstore_n 1, 1, 0, 0), (.iconst 0, 1, 0, 0), (.istore_n 3, 1, 0, 0)]
noncomputable def xb_X7_digest_6 : List xI := [(.iload_n 3, 1, 0, 0), (.bipush 8, 2, 0, 0), (.if_icmp .gt 22, 3, 31, 0), (.ldc2_w 223, 3, 31, 0), (.lload_n 1, 1, 0, 0), (.lmul, 1, 0, 0), (.aload_n 0, 1, 0, 0), (.iload_n 3, 1, 0, 0), (.invokevirtual 225, 3, 169, 2), (.i2l, 1, 0, 0), (.ladd, 1, 0, 0), (.lstore_n 1, 1, 0, 0), (.iinc 3 1, 3, 0, 0), (.goto (-22), 3, 6, 0)]
noncomputable def xb_X7_digest_31 : List xI := [(.aload_n 0, 1, 0, 0), (.lload_n 1, 1, 0, 0), (.invokevirtual 228, 3, 172, 2), (.lstore_n 1, 1, 0, 0), (.aload_n 0, 1, 0, 0), (.lload_n 1, 1, 0, 0), (.invokevirtual 232, 3, 173, 2), (.lstore_n 1, 1, 0, 0), (.ldc2_w 223, 3, 31, 0), (.lload_n 1, 1, 0, 0), (.lmul, 1, 0, 0), (.aload_n 0, 1, 0, 0), (.invokevirtual 235, 3, 129, 1), (.i2l, 1, 0, 0), (.ladd, 1, 0, 0), (.lreturn, 1, 0, 0)]
noncomputable def xm_X7_digest : xM := (⟨"PathReader", "digest", "()J"⟩, 6, cX7_digest, 4, (some .long), 5, 116, 1, 6, 0, [(0, xb_X7_digest_0), (6, xb_X7_digest_6), (31, xb_X7_digest_31)])
noncomputable def xb_X8_mix_0 : List xI := [(.aload_n 0, 1, 0, 0), (.ldc2_w 260, 3, 31, 0), (.aload_n 0, 1, 0, 0), (.getfield 262, 3, 7, 24), (.lmul, 1, 0, 0), (.lload_n 1, 1, 0, 0), (.ladd, 1, 0, 0), (.putfield 262, 3, 7, 24), (.return_, 1, 0, 0)]
noncomputable def xm_X8_mix : xM := (⟨"PathReaderModel", "mix", "(J)V"⟩, 7, cX8_mix, 3, none, 0, 0, 1, 7, 1, [(0, xb_X8_mix_0)])
noncomputable def xb_X8_digest_0 : List xI := [(.aload_n 0, 1, 0, 0), (.ldc2_w 266, 3, 2605, 0), (.putfield 262, 3, 7, 24), (.iconst 0, 1, 0, 0), (.istore_n 1, 1, 0, 0)]
noncomputable def xb_X8_digest_9 : List xI := [(.iload_n 1, 1, 0, 0), (.bipush 9, 2, 0, 0), (.if_icmp .ge 19, 3, 31, 0), (.aload_n 0, 1, 0, 0), (.aload_n 0, 1, 0, 0), (.iload_n 1, 1, 0, 0), (.invokevirtual 257, 3, 170, 2), (.i2l, 1, 0, 0), (.invokevirtual 268, 3, 175, 2), (.iinc 1 1, 3, 0, 0), (.goto (-19), 3, 9, 0)]
noncomputable def xb_X8_digest_31 : List xI := [(.iconst 0, 1, 0, 0), (.istore_n 1, 1, 0, 0)]
noncomputable def xb_X8_digest_33 : List xI := [(.iload_n 1, 1, 0, 0), (.bipush 7, 2, 0, 0), (.if_icmp .ge 19, 3, 55, 0), (.aload_n 0, 1, 0, 0), (.aload_n 0, 1, 0, 0), (.iload_n 1, 1, 0, 0), (.invokevirtual 196, 3, 118, 2), (.i2l, 1, 0, 0), (.invokevirtual 268, 3, 175, 2), (.iinc 1 1, 3, 0, 0), (.goto (-19), 3, 33, 0)]
noncomputable def xb_X8_digest_55 : List xI := [(.iconst 1, 1, 0, 0), (.istore_n 1, 1, 0, 0)]
noncomputable def xb_X8_digest_57 : List xI := [(.iload_n 1, 1, 0, 0), (.aload_n 0, 1, 0, 0), (.getfield 7, 3, 7, 0), (.bipush 118, 2, 0, 0), (.iaload, 1, 0, 0), (.if_icmp .gt 34, 3, 99, 0), (.iconst 0, 1, 0, 0), (.istore_n 2, 1, 0, 0)]
noncomputable def xb_X8_digest_70 : List xI := [(.iload_n 2, 1, 0, 0), (.bipush 6, 2, 0, 0), (.if_icmp .ge 20, 3, 93, 0), (.aload_n 0, 1, 0, 0), (.aload_n 0, 1, 0, 0), (.iload_n 1, 1, 0, 0), (.iload_n 2, 1, 0, 0), (.invokevirtual 187, 3, 109, 3), (.i2l, 1, 0, 0), (.invokevirtual 268, 3, 175, 2), (.iinc 2 1, 3, 0, 0), (.goto (-20), 3, 70, 0)]
noncomputable def xb_X8_digest_93 : List xI := [(.iinc 1 1, 3, 0, 0), (.goto (-39), 3, 57, 0)]
noncomputable def xb_X8_digest_99 : List xI := [(.iconst 0, 1, 0, 0), (.istore_n 1, 1, 0, 0)]
noncomputable def xb_X8_digest_101 : List xI := [(.iload_n 1, 1, 0, 0), (.iconst 3, 1, 0, 0), (.aload_n 0, 1, 0, 0), (.getfield 7, 3, 7, 0), (.bipush 78, 2, 0, 0), (.iaload, 1, 0, 0), (.imul, 1, 0, 0), (.if_icmp .ge 23, 3, 134, 0), (.aload_n 0, 1, 0, 0), (.aload_n 0, 1, 0, 0), (.getfield 7, 3, 7, 0), (.bipush 79, 2, 0, 0), (.iload_n 1, 1, 0, 0), (.iadd, 1, 0, 0), (.iaload, 1, 0, 0), (.i2l, 1, 0, 0), (.invokevirtual 268, 3, 175, 2), (.iinc 1 1, 3, 0, 0), (.goto (-30), 3, 101, 0)]
noncomputable def xb_X8_digest_134 : List xI := [(.iconst 0, 1, 0, 0), (.istore_n 1, 1, 0, 0)]
noncomputable def xb_X8_digest_136 : List xI := [(.iload_n 1, 1, 0, 0), (.bipush 6, 2, 0, 0), (.if_icmp .ge 23, 3, 162, 0), (.aload_n 0, 1, 0, 0), (.aload_n 0, 1, 0, 0), (.getfield 7, 3, 7, 0), (.bipush 72, 2, 0, 0), (.iload_n 1, 1, 0, 0), (.iadd, 1, 0, 0), (.iaload, 1, 0, 0), (.i2l, 1, 0, 0), (.invokevirtual 268, 3, 175, 2), (.iinc 1 1, 3, 0, 0), (.goto (-23), 3, 136, 0)]
noncomputable def xb_X8_digest_162 : List xI := [(.iconst 0, 1, 0, 0), (.istore_n 1, 1, 0, 0)]
noncomputable def xb_X8_digest_164 : List xI := [(.iload_n 1, 1, 0, 0), (.bipush 72, 2, 0, 0), (.if_icmp .ge 22, 3, 189, 0), (.aload_n 0, 1, 0, 0), (.aload_n 0, 1, 0, 0), (.getfield 7, 3, 7, 0), (.iconst 0, 1, 0, 0), (.iload_n 1, 1, 0, 0), (.iadd, 1, 0, 0), (.iaload, 1, 0, 0), (.i2l, 1, 0, 0), (.invokevirtual 268, 3, 175, 2), (.iinc 1 1, 3, 0, 0), (.goto (-22), 3, 164, 0)]
noncomputable def xb_X8_digest_189 : List xI := [(.aload_n 0, 1, 0, 0), (.aload_n 0, 1, 0, 0), (.invokevirtual 202, 3, 130, 1), (.i2l, 1, 0, 0), (.invokevirtual 268, 3, 175, 2), (.aload_n 0, 1, 0, 0), (.getfield 262, 3, 7, 24), (.lreturn, 1, 0, 0)]
noncomputable def xm_X8_digest : xM := (⟨"PathReaderModel", "digest", "()J"⟩, 7, cX8_digest, 3, (some .long), 4, 91, 1, 7, 0, [(0, xb_X8_digest_0), (9, xb_X8_digest_9), (31, xb_X8_digest_31), (33, xb_X8_digest_33), (55, xb_X8_digest_55), (57, xb_X8_digest_57), (70, xb_X8_digest_70), (93, xb_X8_digest_93), (99, xb_X8_digest_99), (101, xb_X8_digest_101), (134, xb_X8_digest_134), (136, xb_X8_digest_136), (162, xb_X8_digest_162), (164, xb_X8_digest_164), (189, xb_X8_digest_189)])
noncomputable def xb_law_0 : List xI := [(.new 7, 3, 6, 0), (.dup, 1, 0, 0), (.invokespecial 9, 3, 7, 1), (.astore_n 1, 1, 0, 0), (.new 10, 3, 7, 0), (.dup, 1, 0, 0), (.invokespecial 12, 3, 13, 1), (.astore_n 2, 1, 0, 0), (.iconst 0, 1, 0, 0), (.istore_n 3, 1, 0, 0)]
noncomputable def xb_law_18 : List xI := [(.iload_n 3, 1, 0, 0), (.aload_n 0, 1, 0, 0), (.arraylength, 1, 0, 0), (.iconst 5, 1, 0, 0), (.isub, 1, 0, 0), (.if_icmp .gt 629, 3, 652, 0), (.aload_n 0, 1, 0, 0), (.iload_n 3, 1, 0, 0), (.iaload, 1, 0, 0), (.bipush 31, 2, 0, 0), (.iand, 1, 0, 0), (.tableswitch 614 0 20 #[100, 153, 186, 229, 262, 305, 338, 361, 374, 387, 400, 433, 456, 489, 502, 515, 538, 551, 564, 577, 600], 100, 0, 0)]
noncomputable def xb_law_132 : List xI := [(.aload_n 1, 1, 0, 0), (.aload_n 0, 1, 0, 0), (.iload_n 3, 1, 0, 0), (.iconst 1, 1, 0, 0), (.iadd, 1, 0, 0), (.iaload, 1, 0, 0), (.aload_n 0, 1, 0, 0), (.iload_n 3, 1, 0, 0), (.iconst 2, 1, 0, 0), (.iadd, 1, 0, 0), (.iaload, 1, 0, 0), (.aload_n 0, 1, 0, 0), (.iload_n 3, 1, 0, 0), (.iconst 3, 1, 0, 0), (.iadd, 1, 0, 0), (.iaload, 1, 0, 0), (.aload_n 0, 1, 0, 0), (.iload_n 3, 1, 0, 0), (.iconst 4, 1, 0, 0), (.iadd, 1, 0, 0), (.iaload, 1, 0, 0), (.invokevirtual 13, 3, 24, 5), (.aload_n 2, 1, 0, 0), (.aload_n 0, 1, 0, 0), (.iload_n 3, 1, 0, 0), (.iconst 1, 1, 0, 0), (.iadd, 1, 0, 0), (.iaload, 1, 0, 0), (.aload_n 0, 1, 0, 0), (.iload_n 3, 1, 0, 0), (.iconst 2, 1, 0, 0), (.iadd, 1, 0, 0), (.iaload, 1, 0, 0), (.aload_n 0, 1, 0, 0), (.iload_n 3, 1, 0, 0), (.iconst 3, 1, 0, 0), (.iadd, 1, 0, 0), (.iaload, 1, 0, 0), (.aload_n 0, 1, 0, 0), (.iload_n 3, 1, 0, 0), (.iconst 4, 1, 0, 0), (.iadd, 1, 0, 0), (.iaload, 1, 0, 0), (.invokevirtual 17, 3, 33, 5), (.if_icmp .eq 466, 3, 646, 0), (.iconst 0, 1, 0, 0), (.ireturn, 1, 0, 0)]
noncomputable def xb_law_185 : List xI := [(.aload_n 1, 1, 0, 0), (.aload_n 0, 1, 0, 0), (.iload_n 3, 1, 0, 0), (.iconst 1, 1, 0, 0), (.iadd, 1, 0, 0), (.iaload, 1, 0, 0), (.aload_n 0, 1, 0, 0), (.iload_n 3, 1, 0, 0), (.iconst 2, 1, 0, 0), (.iadd, 1, 0, 0), (.iaload, 1, 0, 0), (.invokevirtual 18, 3, 36, 3), (.aload_n 2, 1, 0, 0), (.aload_n 0, 1, 0, 0), (.iload_n 3, 1, 0, 0), (.iconst 1, 1, 0, 0), (.iadd, 1, 0, 0), (.iaload, 1, 0, 0), (.aload_n 0, 1, 0, 0), (.iload_n 3, 1, 0, 0), (.iconst 2, 1, 0, 0), (.iadd, 1, 0, 0), (.iaload, 1, 0, 0), (.invokevirtual 22, 3, 37, 3), (.if_icmp .eq 433, 3, 646, 0), (.iconst 0, 1, 0, 0), (.ireturn, 1, 0, 0)]
noncomputable def xb_law_218 : List xI := [(.aload_n 1, 1, 0, 0), (.aload_n 0, 1, 0, 0), (.iload_n 3, 1, 0, 0), (.iconst 1, 1, 0, 0), (.iadd, 1, 0, 0), (.iaload, 1, 0, 0), (.aload_n 0, 1, 0, 0), (.iload_n 3, 1, 0, 0), (.iconst 2, 1, 0, 0), (.iadd, 1, 0, 0), (.iaload, 1, 0, 0), (.aload_n 0, 1, 0, 0), (.iload_n 3, 1, 0, 0), (.iconst 3, 1, 0, 0), (.iadd, 1, 0, 0), (.iaload, 1, 0, 0), (.invokevirtual 23, 3, 40, 4), (.aload_n 2, 1, 0, 0), (.aload_n 0, 1, 0, 0), (.iload_n 3, 1, 0, 0), (.iconst 1, 1, 0, 0), (.iadd, 1, 0, 0), (.iaload, 1, 0, 0), (.aload_n 0, 1, 0, 0), (.iload_n 3, 1, 0, 0), (.iconst 2, 1, 0, 0), (.iadd, 1, 0, 0), (.iaload, 1, 0, 0), (.aload_n 0, 1, 0, 0), (.iload_n 3, 1, 0, 0), (.iconst 3, 1, 0, 0), (.iadd, 1, 0, 0), (.iaload, 1, 0, 0), (.invokevirtual 27, 3, 44, 4), (.if_icmp .eq 390, 3, 646, 0), (.iconst 0, 1, 0, 0), (.ireturn, 1, 0, 0)]
noncomputable def xb_law_261 : List xI := [(.aload_n 1, 1, 0, 0), (.aload_n 0, 1, 0, 0), (.iload_n 3, 1, 0, 0), (.iconst 1, 1, 0, 0), (.iadd, 1, 0, 0), (.iaload, 1, 0, 0), (.aload_n 0, 1, 0, 0), (.iload_n 3, 1, 0, 0), (.iconst 2, 1, 0, 0), (.iadd, 1, 0, 0), (.iaload, 1, 0, 0), (.invokevirtual 28, 3, 46, 3), (.aload_n 2, 1, 0, 0), (.aload_n 0, 1, 0, 0), (.iload_n 3, 1, 0, 0), (.iconst 1, 1, 0, 0), (.iadd, 1, 0, 0), (.iaload, 1, 0, 0), (.aload_n 0, 1, 0, 0), (.iload_n 3, 1, 0, 0), (.iconst 2, 1, 0, 0), (.iadd, 1, 0, 0), (.iaload, 1, 0, 0), (.invokevirtual 31, 3, 47, 3), (.if_icmp .eq 357, 3, 646, 0), (.iconst 0, 1, 0, 0), (.ireturn, 1, 0, 0)]
noncomputable def xb_law_294 : List xI := [(.aload_n 1, 1, 0, 0), (.aload_n 0, 1, 0, 0), (.iload_n 3, 1, 0, 0), (.iconst 1, 1, 0, 0), (.iadd, 1, 0, 0), (.iaload, 1, 0, 0), (.aload_n 0, 1, 0, 0), (.iload_n 3, 1, 0, 0), (.iconst 2, 1, 0, 0), (.iadd, 1, 0, 0), (.iaload, 1, 0, 0), (.aload_n 0, 1, 0, 0), (.iload_n 3, 1, 0, 0), (.iconst 3, 1, 0, 0), (.iadd, 1, 0, 0), (.iaload, 1, 0, 0), (.invokevirtual 32, 3, 49, 4), (.aload_n 2, 1, 0, 0), (.aload_n 0, 1, 0, 0), (.iload_n 3, 1, 0, 0), (.iconst 1, 1, 0, 0), (.iadd, 1, 0, 0), (.iaload, 1, 0, 0), (.aload_n 0, 1, 0, 0), (.iload_n 3, 1, 0, 0), (.iconst 2, 1, 0, 0), (.iadd, 1, 0, 0), (.iaload, 1, 0, 0), (.aload_n 0, 1, 0, 0), (.iload_n 3, 1, 0, 0), (.iconst 3, 1, 0, 0), (.iadd, 1, 0, 0), (.iaload, 1, 0, 0), (.invokevirtual 35, 3, 50, 4), (.if_icmp .eq 314, 3, 646, 0), (.iconst 0, 1, 0, 0), (.ireturn, 1, 0, 0)]
noncomputable def xb_law_337 : List xI := [(.aload_n 1, 1, 0, 0), (.aload_n 0, 1, 0, 0), (.iload_n 3, 1, 0, 0), (.iconst 1, 1, 0, 0), (.iadd, 1, 0, 0), (.iaload, 1, 0, 0), (.aload_n 0, 1, 0, 0), (.iload_n 3, 1, 0, 0), (.iconst 2, 1, 0, 0), (.iadd, 1, 0, 0), (.iaload, 1, 0, 0), (.invokevirtual 36, 3, 54, 3), (.aload_n 2, 1, 0, 0), (.aload_n 0, 1, 0, 0), (.iload_n 3, 1, 0, 0), (.iconst 1, 1, 0, 0), (.iadd, 1, 0, 0), (.iaload, 1, 0, 0), (.aload_n 0, 1, 0, 0), (.iload_n 3, 1, 0, 0), (.iconst 2, 1, 0, 0), (.iadd, 1, 0, 0), (.iaload, 1, 0, 0), (.invokevirtual 39, 3, 56, 3), (.if_icmp .eq 281, 3, 646, 0), (.iconst 0, 1, 0, 0), (.ireturn, 1, 0, 0)]
noncomputable def xb_law_370 : List xI := [(.aload_n 1, 1, 0, 0), (.aload_n 0, 1, 0, 0), (.iload_n 3, 1, 0, 0), (.iconst 1, 1, 0, 0), (.iadd, 1, 0, 0), (.iaload, 1, 0, 0), (.invokevirtual 40, 3, 80, 2), (.aload_n 2, 1, 0, 0), (.aload_n 0, 1, 0, 0), (.iload_n 3, 1, 0, 0), (.iconst 1, 1, 0, 0), (.iadd, 1, 0, 0), (.iaload, 1, 0, 0), (.invokevirtual 44, 3, 96, 2), (.if_icmp .eq 258, 3, 646, 0), (.iconst 0, 1, 0, 0), (.ireturn, 1, 0, 0)]
noncomputable def xb_law_393 : List xI := [(.aload_n 1, 1, 0, 0), (.invokevirtual 45, 3, 97, 1), (.aload_n 2, 1, 0, 0), (.invokevirtual 49, 3, 99, 1), (.if_icmp .eq 245, 3, 646, 0), (.iconst 0, 1, 0, 0), (.ireturn, 1, 0, 0)]
noncomputable def xb_law_406 : List xI := [(.aload_n 1, 1, 0, 0), (.invokevirtual 50, 3, 100, 1), (.aload_n 2, 1, 0, 0), (.invokevirtual 53, 3, 101, 1), (.if_icmp .eq 232, 3, 646, 0), (.iconst 0, 1, 0, 0), (.ireturn, 1, 0, 0)]
noncomputable def xb_law_419 : List xI := [(.aload_n 1, 1, 0, 0), (.invokevirtual 54, 3, 104, 1), (.aload_n 2, 1, 0, 0), (.invokevirtual 57, 3, 107, 1), (.if_icmp .eq 219, 3, 646, 0), (.iconst 0, 1, 0, 0), (.ireturn, 1, 0, 0)]
noncomputable def xb_law_432 : List xI := [(.aload_n 1, 1, 0, 0), (.aload_n 0, 1, 0, 0), (.iload_n 3, 1, 0, 0), (.iconst 1, 1, 0, 0), (.iadd, 1, 0, 0), (.iaload, 1, 0, 0), (.aload_n 0, 1, 0, 0), (.iload_n 3, 1, 0, 0), (.iconst 2, 1, 0, 0), (.iadd, 1, 0, 0), (.iaload, 1, 0, 0), (.invokevirtual 58, 3, 108, 3), (.aload_n 2, 1, 0, 0), (.aload_n 0, 1, 0, 0), (.iload_n 3, 1, 0, 0), (.iconst 1, 1, 0, 0), (.iadd, 1, 0, 0), (.iaload, 1, 0, 0), (.aload_n 0, 1, 0, 0), (.iload_n 3, 1, 0, 0), (.iconst 2, 1, 0, 0), (.iadd, 1, 0, 0), (.iaload, 1, 0, 0), (.invokevirtual 61, 3, 110, 3), (.if_icmp .eq 186, 3, 646, 0), (.iconst 0, 1, 0, 0), (.ireturn, 1, 0, 0)]
noncomputable def xb_law_465 : List xI := [(.aload_n 1, 1, 0, 0), (.aload_n 0, 1, 0, 0), (.iload_n 3, 1, 0, 0), (.iconst 1, 1, 0, 0), (.iadd, 1, 0, 0), (.iaload, 1, 0, 0), (.invokevirtual 62, 3, 115, 2), (.aload_n 2, 1, 0, 0), (.aload_n 0, 1, 0, 0), (.iload_n 3, 1, 0, 0), (.iconst 1, 1, 0, 0), (.iadd, 1, 0, 0), (.iaload, 1, 0, 0), (.invokevirtual 65, 3, 119, 2), (.if_icmp .eq 163, 3, 646, 0), (.iconst 0, 1, 0, 0), (.ireturn, 1, 0, 0)]
noncomputable def xb_law_488 : List xI := [(.aload_n 1, 1, 0, 0), (.aload_n 0, 1, 0, 0), (.iload_n 3, 1, 0, 0), (.iconst 1, 1, 0, 0), (.iadd, 1, 0, 0), (.iaload, 1, 0, 0), (.aload_n 0, 1, 0, 0), (.iload_n 3, 1, 0, 0), (.iconst 2, 1, 0, 0), (.iadd, 1, 0, 0), (.iaload, 1, 0, 0), (.invokevirtual 66, 3, 120, 3), (.aload_n 2, 1, 0, 0), (.aload_n 0, 1, 0, 0), (.iload_n 3, 1, 0, 0), (.iconst 1, 1, 0, 0), (.iadd, 1, 0, 0), (.iaload, 1, 0, 0), (.aload_n 0, 1, 0, 0), (.iload_n 3, 1, 0, 0), (.iconst 2, 1, 0, 0), (.iadd, 1, 0, 0), (.iaload, 1, 0, 0), (.invokevirtual 69, 3, 122, 3), (.if_icmp .eq 130, 3, 646, 0), (.iconst 0, 1, 0, 0), (.ireturn, 1, 0, 0)]
noncomputable def xb_law_521 : List xI := [(.aload_n 1, 1, 0, 0), (.invokevirtual 70, 3, 124, 1), (.aload_n 2, 1, 0, 0), (.invokevirtual 73, 3, 125, 1), (.if_icmp .eq 117, 3, 646, 0), (.iconst 0, 1, 0, 0), (.ireturn, 1, 0, 0)]
noncomputable def xb_law_534 : List xI := [(.aload_n 1, 1, 0, 0), (.invokevirtual 74, 3, 129, 1), (.aload_n 2, 1, 0, 0), (.invokevirtual 77, 3, 131, 1), (.if_icmp .eq 104, 3, 646, 0), (.iconst 0, 1, 0, 0), (.ireturn, 1, 0, 0)]
noncomputable def xb_law_547 : List xI := [(.aload_n 1, 1, 0, 0), (.aload_n 0, 1, 0, 0), (.iload_n 3, 1, 0, 0), (.iconst 1, 1, 0, 0), (.iadd, 1, 0, 0), (.iaload, 1, 0, 0), (.invokevirtual 78, 3, 133, 2), (.aload_n 2, 1, 0, 0), (.aload_n 0, 1, 0, 0), (.iload_n 3, 1, 0, 0), (.iconst 1, 1, 0, 0), (.iadd, 1, 0, 0), (.iaload, 1, 0, 0), (.invokevirtual 81, 3, 134, 2), (.if_icmp .eq 81, 3, 646, 0), (.iconst 0, 1, 0, 0), (.ireturn, 1, 0, 0)]
noncomputable def xb_law_570 : List xI := [(.aload_n 1, 1, 0, 0), (.invokevirtual 82, 3, 135, 1), (.aload_n 2, 1, 0, 0), (.invokevirtual 85, 3, 136, 1), (.if_icmp .eq 68, 3, 646, 0), (.iconst 0, 1, 0, 0), (.ireturn, 1, 0, 0)]
noncomputable def xb_law_583 : List xI := [(.aload_n 1, 1, 0, 0), (.invokevirtual 86, 3, 151, 1), (.aload_n 2, 1, 0, 0), (.invokevirtual 89, 3, 165, 1), (.if_icmp .eq 55, 3, 646, 0), (.iconst 0, 1, 0, 0), (.ireturn, 1, 0, 0)]
noncomputable def xb_law_596 : List xI := [(.aload_n 1, 1, 0, 0), (.invokevirtual 90, 3, 167, 1), (.aload_n 2, 1, 0, 0), (.invokevirtual 93, 3, 168, 1), (.if_icmp .eq 42, 3, 646, 0), (.iconst 0, 1, 0, 0), (.ireturn, 1, 0, 0)]
noncomputable def xb_law_609 : List xI := [(.aload_n 1, 1, 0, 0), (.aload_n 0, 1, 0, 0), (.iload_n 3, 1, 0, 0), (.iconst 1, 1, 0, 0), (.iadd, 1, 0, 0), (.iaload, 1, 0, 0), (.invokevirtual 94, 3, 169, 2), (.aload_n 2, 1, 0, 0), (.aload_n 0, 1, 0, 0), (.iload_n 3, 1, 0, 0), (.iconst 1, 1, 0, 0), (.iadd, 1, 0, 0), (.iaload, 1, 0, 0), (.invokevirtual 97, 3, 171, 2), (.if_icmp .eq 19, 3, 646, 0), (.iconst 0, 1, 0, 0), (.ireturn, 1, 0, 0)]
noncomputable def xb_law_632 : List xI := [(.aload_n 1, 1, 0, 0), (.invokevirtual 98, 3, 174, 1), (.aload_n 2, 1, 0, 0), (.invokevirtual 102, 3, 176, 1), (.lcmp, 1, 0, 0), (.ifCond .eq 5, 3, 646, 0), (.iconst 0, 1, 0, 0), (.ireturn, 1, 0, 0)]
noncomputable def xb_law_646 : List xI := [(.iinc 3 5, 3, 0, 0), (.goto (-631), 3, 18, 0)]
noncomputable def xb_law_652 : List xI := [(.iconst 1, 1, 0, 0), (.ireturn, 1, 0, 0)]
noncomputable def xm_law : xM := (⟨"PathReaderLaw", "law", "([I)Z"⟩, 9, code, 4, (some .boolean), 11, 420, 0, 0, 1, [(0, xb_law_0), (18, xb_law_18), (132, xb_law_132), (185, xb_law_185), (218, xb_law_218), (261, xb_law_261), (294, xb_law_294), (337, xb_law_337), (370, xb_law_370), (393, xb_law_393), (406, xb_law_406), (419, xb_law_419), (432, xb_law_432), (465, xb_law_465), (488, xb_law_488), (521, xb_law_521), (534, xb_law_534), (547, xb_law_547), (570, xb_law_570), (583, xb_law_583), (596, xb_law_596), (609, xb_law_609), (632, xb_law_632), (646, xb_law_646), (652, xb_law_652)])
noncomputable def x_Pg : List xM := [xm_X1_init, xm_X4_init, xm_X6_init, xm_X5_init, xm_X0_spanPlace, xm_X0_init, xm_X3_init, xm_X7_init, xm_X8_laysHeads, xm_X8_comesTo, xm_X8_isBridged, xm_X8_isTree, xm_X8_laysTrees, xm_X8_init, xm_X7_isBelow, xm_X7_isRulePlace, xm_X7_isPriceOrNone, xm_X1_whyNoPrice, xm_X7_refuse, xm_X1_copyFrom, xm_X4_copyFrom, xm_X6_copyFrom, xm_X5_push, xm_X1_putPrice, xm_X7_rules, xm_X8_in, xm_X8_isSort, xm_X8_isRule, xm_X8_isPrice, xm_X8_bad, xm_X8_remembers, xm_X8_ruleAt, xm_X8_exchanges, xm_X8_rules, xm_X1_whyNoRootPrice, xm_X1_putRootPrice, xm_X7_roots, xm_X8_roots, xm_X1_whyNoEntry, xm_X1_addEntry, xm_X7_entry, xm_X8_canEnter, xm_X8_full, xm_X8_enters, xm_X8_entry, xm_X1_putSetting, xm_X7_sets, xm_X8_sets, xm_X1_price, xm_X7_rule, xm_X8_rule, xm_X1_hasEntry, xm_X1_sortOf, xm_X1_extraOf, xm_X7_of, xm_X8_isEntry, xm_X8_of, xm_X6_whyNoWord, xm_X4_heldRow, xm_X4_isStuck, xm_X2_headOf, xm_X2_readingOf, xm_X0_repairOf, xm_X2_part, xm_X0_costOfLink, xm_X0_linkPlace, xm_X0_share, xm_X0_reckonLinks, xm_X0_reckonTree, xm_X0_reckonTrees, xm_X0_reckonSpan, xm_X0_costOfRoot, xm_X0_reckonRoots, xm_X0_reckon, xm_X0_hasAnalysis, xm_X4_putReckoned, xm_X0_leastRepair, xm_X0_leastRow, xm_X0_leastCost, xm_X6_hear, xm_X7_hears, xm_X8_wordAt, xm_X8_holds, xm_X8_laysHeld, xm_X8_laysAhead, xm_X8_entryAt, xm_X8_laysReadings, xm_X8_priceOf, xm_X8_betweenOf, xm_X8_costOf, xm_X8_repairOf, xm_X8_codeOf, xm_X8_isBetter, xm_X8_tries, xm_X8_finds, xm_X8_listens, xm_X8_hears, xm_X7_unhears, xm_X8_no, xm_X8_unhears, xm_X7_silence, xm_X8_silence, xm_X6_hearAllAnew, xm_X4_sumOfStumbles, xm_X7_rereads, xm_X8_isStuck, xm_X8_sumOf, xm_X8_rereads, xm_X7_word, xm_X8_wordOf, xm_X8_word, xm_X4_sumOfRepairs, xm_X2_rootOf, xm_X2_levelOf, xm_X2_deepestLevel, xm_X7_held, xm_X8_levelOf, xm_X8_heldOf, xm_X8_aboutHeld, xm_X8_held, xm_X7_best, xm_X8_digitOf, xm_X8_best, xm_X0_countOfAnalyses, xm_X7_ways, xm_X8_ways, xm_X6_sortIn, xm_X6_isHangingAllowed, xm_X6_isHeldStillAllowed, xm_X7_sound, xm_X8_soundOf, xm_X8_sound, xm_X3_append, xm_X7_type, xm_X8_type, xm_X7_clear, xm_X8_clear, xm_X3_skipBlanks, xm_X3_here, xm_X3_mostNumbers, xm_X3_isFigureHere, xm_X3_keepNumber, xm_X3_readNumber, xm_X3_readOrder, xm_X3_readWhole, xm_X3_kind, xm_X3_numberCount, xm_X3_number, xm_X7_doWords, xm_X7_doEntry, xm_X7_doOrder, xm_X7_does, xm_X8_isAt, xm_X8_blanks, xm_X8_leastOf, xm_X8_fails, xm_X8_mostOf, xm_X8_takesNumber, xm_X8_takesNumbers, xm_X8_isRead, xm_X8_entersTold, xm_X8_prices, xm_X8_listensAll, xm_X8_obeys, xm_X8_turns, xm_X8_does, xm_X5_pop, xm_X7_back, xm_X8_back, xm_X7_told, xm_X8_toldOf, xm_X8_told, xm_X7_digestOfSentence, xm_X7_digestOfGrammar, xm_X7_digest, xm_X8_mix, xm_X8_digest, xm_law]
def xLMp : List (Nat × Nat × Nat × Nat × Nat) := [(9, 9, 7, 81, 0), (5, 11, 0, 95, 0), (5, 20, 1, 128, 0), (6, 21, 3, 174, 0), (6, 28, 5, 194, 0), (0, 40, 4, 199, 0), (9, 13, 24, 280, 0), (6, 48, 17, 284, 0), (6, 82, 14, 291, 0), (6, 54, 18, 297, 0), (6, 58, 22, 301, 0), (4, 25, 21, 305, 0), (5, 25, 19, 309, 0), (5, 29, 20, 316, 0), (6, 62, 23, 324, 0), (9, 18, 36, 328, 0), (6, 65, 34, 332, 0), (6, 69, 35, 337, 0), (9, 23, 40, 341, 0), (6, 72, 38, 345, 0), (6, 76, 39, 349, 0), (9, 28, 46, 353, 0), (6, 86, 45, 359, 0), (9, 32, 49, 363, 0), (6, 89, 15, 367, 0), (6, 93, 48, 368, 0), (9, 36, 54, 372, 0), (6, 96, 51, 376, 0), (6, 100, 52, 380, 0), (6, 103, 53, 384, 0), (9, 40, 80, 388, 0), (6, 106, 57, 392, 0), (5, 32, 51, 396, 0), (6, 109, 79, 397, 0), (5, 40, 59, 401, 0), (3, 37, 58, 405, 0), (5, 51, 73, 409, 0), (0, 61, 67, 413, 0), (0, 73, 62, 417, 0), (0, 126, 60, 420, 0), (0, 129, 61, 423, 0), (0, 77, 63, 426, 0), (0, 81, 64, 429, 0), (0, 99, 52, 432, 0), (0, 105, 48, 433, 0), (0, 114, 53, 437, 0), (0, 85, 65, 438, 0), (0, 88, 66, 441, 0), (0, 65, 70, 444, 0), (0, 132, 68, 448, 0), (0, 136, 69, 455, 0), (0, 69, 72, 459, 0), (0, 143, 71, 463, 0), (5, 57, 74, 466, 0), (5, 60, 75, 470, 0), (5, 64, 76, 474, 0), (5, 68, 77, 478, 0), (5, 71, 78, 483, 0), (0, 46, 76, 487, 0), (6, 117, 59, 488, 0), (9, 45, 97, 489, 0), (9, 50, 100, 493, 0), (9, 54, 104, 497, 0), (6, 130, 102, 501, 0), (5, 74, 79, 505, 0), (6, 134, 103, 506, 0), (9, 58, 108, 510, 0), (6, 138, 58, 514, 0), (6, 144, 61, 515, 0), (6, 149, 60, 516, 0), (9, 62, 115, 517, 0), (6, 158, 111, 521, 0), (6, 161, 112, 525, 0), (8, 11, 60, 528, 0), (6, 164, 114, 529, 0), (8, 15, 113, 532, 0), (9, 66, 120, 538, 0), (6, 167, 73, 542, 0), (6, 171, 74, 543, 0), (6, 174, 78, 544, 0), (6, 177, 77, 545, 0), (9, 70, 124, 546, 0), (6, 180, 123, 550, 0), (9, 74, 129, 554, 0), (6, 183, 128, 558, 0), (5, 78, 58, 562, 0), (5, 81, 127, 563, 0), (5, 85, 60, 567, 0), (5, 91, 126, 568, 0), (5, 101, 61, 572, 0), (5, 104, 52, 573, 0), (5, 97, 48, 574, 0), (9, 78, 133, 575, 0), (6, 189, 132, 579, 0), (9, 82, 135, 583, 0), (9, 86, 151, 587, 0), (6, 193, 144, 591, 0), (2, 40, 137, 595, 0), (2, 43, 143, 599, 0), (2, 47, 138, 603, 0), (2, 51, 139, 607, 0), (2, 55, 140, 610, 0), (2, 58, 142, 614, 0), (2, 62, 141, 618, 0), (6, 196, 21, 622, 0), (6, 202, 145, 623, 0), (6, 205, 148, 627, 0), (6, 259, 146, 631, 0), (6, 253, 147, 635, 0), (6, 208, 150, 639, 0), (6, 256, 149, 643, 0), (9, 90, 167, 647, 0), (6, 212, 166, 651, 0), (9, 94, 169, 655, 0), (9, 98, 174, 659, 0), (6, 225, 169, 665, 0), (6, 228, 172, 666, 0), (6, 238, 115, 670, 0), (6, 241, 108, 671, 0), (6, 232, 173, 672, 0), (6, 244, 54, 676, 0), (6, 250, 49, 677, 0), (6, 235, 129, 678, 0), (9, 12, 13, 681, 0), (7, 55, 12, 685, 0), (7, 74, 8, 689, 0), (7, 78, 11, 693, 0), (7, 66, 9, 697, 0), (7, 70, 10, 701, 0), (9, 93, 168, 781, 0), (7, 62, 98, 785, 0), (9, 17, 33, 789, 0), (7, 88, 27, 793, 0), (7, 85, 26, 796, 0), (7, 81, 25, 799, 0), (7, 91, 28, 802, 0), (7, 94, 29, 805, 0), (7, 97, 30, 809, 0), (7, 100, 31, 813, 0), (7, 104, 32, 816, 0), (9, 22, 37, 820, 0), (9, 27, 44, 824, 0), (7, 108, 41, 828, 0), (7, 111, 42, 831, 0), (7, 114, 43, 835, 0), (9, 31, 47, 839, 0), (9, 35, 50, 843, 0), (9, 39, 56, 847, 0), (7, 117, 55, 851, 0), (9, 44, 96, 855, 0), (7, 177, 95, 859, 0), (7, 120, 81, 863, 0), (7, 168, 82, 867, 0), (7, 171, 84, 871, 0), (7, 164, 83, 875, 0), (7, 174, 94, 879, 0), (7, 157, 86, 883, 0), (7, 124, 85, 887, 0), (7, 160, 93, 891, 0), (7, 145, 89, 895, 0), (7, 127, 87, 899, 0), (7, 130, 88, 903, 0), (7, 148, 90, 907, 0), (7, 151, 91, 911, 0), (7, 154, 92, 915, 0), (9, 49, 99, 919, 0), (9, 53, 101, 923, 0), (9, 57, 107, 927, 0), (7, 180, 105, 931, 0), (7, 184, 106, 935, 0), (9, 61, 110, 939, 0), (7, 187, 109, 943, 0), (9, 65, 119, 947, 0), (7, 196, 118, 951, 0), (7, 193, 117, 955, 0), (7, 190, 116, 959, 0), (9, 69, 122, 963, 0), (7, 199, 121, 967, 0), (9, 73, 125, 971, 0), (9, 77, 131, 975, 0), (7, 202, 130, 979, 0), (9, 81, 134, 983, 0), (9, 85, 136, 987, 0), (9, 89, 165, 991, 0), (7, 248, 159, 995, 0), (7, 226, 153, 999, 0), (7, 211, 152, 1003, 0), (7, 217, 154, 1007, 0), (7, 220, 155, 1010, 0), (7, 235, 158, 1014, 0), (7, 229, 156, 1018, 0), (7, 232, 157, 1021, 0), (7, 251, 163, 1025, 0), (7, 238, 160, 1029, 0), (7, 241, 161, 1033, 0), (7, 245, 162, 1037, 0), (7, 254, 164, 1041, 0), (9, 97, 171, 1045, 0), (7, 257, 170, 1049, 0), (9, 102, 176, 1053, 0), (7, 268, 175, 1058, 0), (6, 9, 2, 89, 1), (4, 24, 2, 180, 1), (6, 35, 6, 227, 1), (1, 37, 15, 288, 1), (1, 41, 16, 294, 1), (1, 45, 14, 336, 1)]
def x_LM : List (Nat × Nat × Nat) := xLMp.map (fun q => (q.1, q.2.1, q.2.2.1))
def xLKp : List (Nat × Nat × Nat × Nat × Nat) := [(0, 97, 70, 96, 0), (1, 130, 71, 129, 0), (2, 91, 69, 90, 0), (3, 176, 72, 175, 0), (4, 201, 73, 200, 0), (5, 196, 73, 195, 0), (6, 229, 74, 228, 0), (7, 83, 68, 82, 0), (8, 692, 75, 691, 20), (9, 700, 75, 699, 22), (10, 704, 75, 703, 23), (11, 696, 75, 695, 21), (12, 688, 75, 687, 19), (13, 683, 75, 682, 0), (14, 293, 68, 292, 0), (15, 290, 68, 289, 0), (16, 296, 68, 295, 0), (17, 287, 70, 285, 286), (18, 300, 68, 299, 0), (19, 312, 70, 310, 311), (20, 319, 71, 317, 318), (21, 308, 69, 306, 307), (22, 304, 72, 302, 303), (23, 327, 70, 325, 326), (24, 283, 68, 281, 282), (25, 801, 75, 800, 0), (26, 798, 75, 797, 0), (27, 795, 75, 794, 0), (28, 804, 75, 803, 0), (29, 808, 75, 807, 25), (30, 812, 75, 811, 26), (31, 815, 75, 814, 0), (32, 819, 75, 818, 27), (33, 792, 75, 790, 791), (34, 335, 70, 333, 334), (35, 340, 70, 338, 339), (36, 331, 68, 329, 330), (37, 823, 75, 821, 822), (38, 348, 70, 346, 347), (39, 352, 70, 350, 351), (40, 344, 68, 342, 343), (41, 830, 75, 829, 0), (42, 834, 75, 833, 28), (43, 838, 75, 837, 29), (44, 827, 75, 825, 826), (45, 362, 70, 360, 361), (46, 356, 68, 354, 355), (47, 842, 75, 840, 841), (48, 371, 70, 369, 370), (49, 366, 68, 364, 365), (50, 846, 75, 844, 845), (51, 379, 70, 377, 378), (52, 383, 70, 381, 382), (53, 387, 70, 385, 386), (54, 375, 68, 373, 374), (55, 854, 75, 853, 30), (56, 850, 75, 848, 849), (57, 395, 69, 393, 394), (58, 408, 71, 406, 407), (59, 404, 71, 402, 403), (60, 422, 78, 421, 0), (61, 425, 78, 424, 0), (62, 419, 73, 418, 0), (63, 428, 78, 427, 0), (64, 431, 73, 430, 0), (65, 440, 73, 439, 0), (66, 443, 73, 442, 0), (67, 416, 73, 415, 1), (68, 451, 73, 450, 3), (69, 458, 73, 457, 4), (70, 447, 73, 446, 2), (71, 465, 73, 464, 0), (72, 462, 73, 461, 5), (73, 412, 73, 410, 411), (74, 469, 73, 467, 468), (75, 473, 71, 471, 472), (76, 477, 73, 475, 476), (77, 481, 73, 479, 480), (78, 486, 73, 484, 485), (79, 400, 69, 398, 399), (80, 391, 68, 389, 390), (81, 866, 75, 865, 32), (82, 870, 75, 869, 33), (83, 878, 75, 877, 35), (84, 874, 75, 873, 34), (85, 890, 75, 889, 38), (86, 886, 75, 885, 37), (87, 902, 75, 901, 41), (88, 906, 75, 905, 42), (89, 898, 75, 897, 40), (90, 910, 75, 909, 43), (91, 914, 75, 913, 44), (92, 918, 75, 917, 45), (93, 894, 75, 893, 39), (94, 882, 75, 881, 36), (95, 862, 75, 861, 31), (96, 858, 75, 856, 857), (97, 492, 68, 490, 491), (98, 788, 75, 787, 24), (99, 922, 75, 920, 921), (100, 496, 68, 494, 495), (101, 926, 75, 924, 925), (102, 504, 69, 502, 503), (103, 509, 71, 507, 508), (104, 500, 68, 498, 499), (105, 934, 75, 933, 46), (106, 938, 75, 937, 47), (107, 930, 75, 928, 929), (108, 513, 68, 511, 512), (109, 946, 75, 945, 48), (110, 942, 75, 940, 941), (111, 524, 71, 522, 523), (112, 527, 78, 526, 0), (113, 534, 78, 533, 0), (114, 531, 78, 530, 0), (115, 520, 68, 518, 519), (116, 962, 75, 961, 51), (117, 958, 75, 957, 50), (118, 954, 75, 953, 49), (119, 950, 75, 948, 949), (120, 541, 68, 539, 540), (121, 970, 75, 969, 52), (122, 966, 75, 964, 965), (123, 553, 73, 551, 552), (124, 549, 68, 547, 548), (125, 974, 75, 972, 973), (126, 571, 69, 570, 7), (127, 566, 69, 565, 6), (128, 561, 69, 559, 560), (129, 557, 68, 555, 556), (130, 982, 75, 981, 53), (131, 978, 75, 976, 977), (132, 582, 74, 580, 581), (133, 578, 68, 576, 577), (134, 986, 75, 984, 985), (135, 586, 68, 584, 585), (136, 990, 75, 988, 989), (137, 598, 74, 597, 8), (138, 606, 74, 605, 10), (139, 609, 74, 608, 0), (140, 613, 74, 612, 11), (141, 621, 74, 620, 13), (142, 617, 74, 616, 12), (143, 602, 74, 601, 9), (144, 594, 74, 592, 593), (145, 626, 74, 624, 625), (146, 634, 74, 632, 633), (147, 638, 74, 636, 637), (148, 630, 68, 629, 14), (149, 646, 68, 645, 16), (150, 642, 68, 641, 15), (151, 590, 68, 588, 589), (152, 1006, 75, 1005, 56), (153, 1002, 75, 1001, 55), (154, 1009, 75, 1008, 0), (155, 1013, 75, 1012, 57), (156, 1020, 75, 1019, 0), (157, 1024, 75, 1023, 59), (158, 1017, 75, 1016, 58), (159, 998, 75, 997, 54), (160, 1032, 75, 1031, 61), (161, 1036, 75, 1035, 62), (162, 1040, 75, 1039, 63), (163, 1028, 75, 1027, 60), (164, 1044, 75, 1043, 64), (165, 994, 75, 992, 993), (166, 654, 72, 652, 653), (167, 650, 68, 648, 649), (168, 784, 75, 782, 783), (169, 658, 68, 656, 657), (170, 1052, 75, 1051, 65), (171, 1048, 75, 1046, 1047), (172, 669, 68, 668, 17), (173, 675, 68, 674, 18), (174, 662, 68, 660, 661), (175, 1061, 75, 1060, 66), (176, 1056, 75, 1054, 1055)]
noncomputable def x_okK (q : Nat × Nat × Nat × Nat × Nat) : Bool := match x_Pg[q.1]? with
  | some K => plainName (xm_y K).cls && x_has q.2.1 (.code (xm_y K) (xm_cc K) (xm_L K) (xm_rt K)) && x_has q.2.2.1 (.initialized (xm_y K).cls) && decide ((xm_y K).cls ≠ "java/lang/invoke/MethodHandle") && decide ((xm_y K).cls ≠ "java/lang/invoke/VarHandle") && decide ((parseMethodDescriptor (xm_y K).desc).map (fun d => d.parameters.length) = some (xm_np K)) && decide ((xm_y K).cls = x_on (xm_o K)) &&
    ((decide (xm_k K = 0) && x_has q.2.2.2.1 (.static (xm_y K))) || (decide (xm_k K = 1) && x_has q.2.2.2.1 (.instanceMethod (xm_y K)) && x_has q.2.2.2.2 (.selects (xm_y K).cls (xm_y K) (xm_y K)) && decide ((vwCl[xm_ci K]?).map (fun r => r.1) = some (xm_y K).cls)) || (decide (xm_k K = 2) && decide ((xm_y K).name = "<init>") && x_has q.2.2.2.1 (.instanceMethod (xm_y K)) && decide (xm_rt K = none)))
  | none => false
theorem x_okK_in {q : Nat × Nat × Nat × Nat × Nat} (h : x_okK q = true) : ∃ K, x_Pg[q.1]? = some K ∧ x_MOK K := by
  unfold x_okK at h
  split at h
  · rename_i K hK
    simp only [Bool.and_eq_true, Bool.or_eq_true, decide_eq_true_eq] at h
    obtain ⟨⟨⟨⟨⟨⟨⟨h1, h2⟩, h3⟩, h4⟩, h5⟩, h6⟩, h7⟩, h8⟩ := h
    refine ⟨K, hK, h1, x_has_in h2, x_has_in h3, ⟨h4, h5, h6⟩, h7, ?_⟩
    rcases h8 with (⟨a, b⟩ | ⟨⟨⟨a, b⟩, c⟩, d⟩) | ⟨⟨⟨a, b⟩, c⟩, d⟩
    · exact Or.inl ⟨a, x_has_in b⟩
    · refine Or.inr (Or.inl ⟨a, x_has_in b, x_has_in c, ?_⟩)
      cases hz : vwCl[xm_ci K]? with
      | none => rw [hz] at d; cases d
      | some r =>
        rw [hz] at d
        obtain ⟨r1, r2, r3⟩ := r
        cases d
        exact ⟨r2, r3, rfl⟩
    · exact Or.inr (Or.inr ⟨a, b, x_has_in c, d⟩)
  · cases h
end
section
theorem xLK_ok_0 : x_okK (0, 97, 70, 96, 0) = true := by decide +kernel
theorem xLK_ok_1 : x_okK (1, 130, 71, 129, 0) = true := by decide +kernel
theorem xLK_ok_2 : x_okK (2, 91, 69, 90, 0) = true := by decide +kernel
theorem xLK_ok_3 : x_okK (3, 176, 72, 175, 0) = true := by decide +kernel
theorem xLK_ok_4 : x_okK (4, 201, 73, 200, 0) = true := by decide +kernel
theorem xLK_ok_5 : x_okK (5, 196, 73, 195, 0) = true := by decide +kernel
theorem xLK_ok_6 : x_okK (6, 229, 74, 228, 0) = true := by decide +kernel
theorem xLK_ok_7 : x_okK (7, 83, 68, 82, 0) = true := by decide +kernel
theorem xLK_ok_8 : x_okK (8, 692, 75, 691, 20) = true := by decide +kernel
theorem xLK_ok_9 : x_okK (9, 700, 75, 699, 22) = true := by decide +kernel
theorem xLK_ok_10 : x_okK (10, 704, 75, 703, 23) = true := by decide +kernel
theorem xLK_ok_11 : x_okK (11, 696, 75, 695, 21) = true := by decide +kernel
theorem xLK_ok_12 : x_okK (12, 688, 75, 687, 19) = true := by decide +kernel
theorem xLK_ok_13 : x_okK (13, 683, 75, 682, 0) = true := by decide +kernel
theorem xLK_ok_14 : x_okK (14, 293, 68, 292, 0) = true := by decide +kernel
theorem xLK_ok_15 : x_okK (15, 290, 68, 289, 0) = true := by decide +kernel
theorem xLK_ok_16 : x_okK (16, 296, 68, 295, 0) = true := by decide +kernel
theorem xLK_ok_17 : x_okK (17, 287, 70, 285, 286) = true := by decide +kernel
theorem xLK_ok_18 : x_okK (18, 300, 68, 299, 0) = true := by decide +kernel
theorem xLK_ok_19 : x_okK (19, 312, 70, 310, 311) = true := by decide +kernel
theorem xLK_ok_20 : x_okK (20, 319, 71, 317, 318) = true := by decide +kernel
theorem xLK_ok_21 : x_okK (21, 308, 69, 306, 307) = true := by decide +kernel
theorem xLK_ok_22 : x_okK (22, 304, 72, 302, 303) = true := by decide +kernel
theorem xLK_ok_23 : x_okK (23, 327, 70, 325, 326) = true := by decide +kernel
theorem xLK_ok_24 : x_okK (24, 283, 68, 281, 282) = true := by decide +kernel
theorem xLK_ok_25 : x_okK (25, 801, 75, 800, 0) = true := by decide +kernel
theorem xLK_ok_26 : x_okK (26, 798, 75, 797, 0) = true := by decide +kernel
theorem xLK_ok_27 : x_okK (27, 795, 75, 794, 0) = true := by decide +kernel
theorem xLK_ok_28 : x_okK (28, 804, 75, 803, 0) = true := by decide +kernel
theorem xLK_ok_29 : x_okK (29, 808, 75, 807, 25) = true := by decide +kernel
theorem xLK_ok_30 : x_okK (30, 812, 75, 811, 26) = true := by decide +kernel
theorem xLK_ok_31 : x_okK (31, 815, 75, 814, 0) = true := by decide +kernel
theorem xLK_ok_32 : x_okK (32, 819, 75, 818, 27) = true := by decide +kernel
theorem xLK_ok_33 : x_okK (33, 792, 75, 790, 791) = true := by decide +kernel
theorem xLK_ok_34 : x_okK (34, 335, 70, 333, 334) = true := by decide +kernel
theorem xLK_ok_35 : x_okK (35, 340, 70, 338, 339) = true := by decide +kernel
theorem xLK_ok_36 : x_okK (36, 331, 68, 329, 330) = true := by decide +kernel
theorem xLK_ok_37 : x_okK (37, 823, 75, 821, 822) = true := by decide +kernel
theorem xLK_ok_38 : x_okK (38, 348, 70, 346, 347) = true := by decide +kernel
theorem xLK_ok_39 : x_okK (39, 352, 70, 350, 351) = true := by decide +kernel
theorem xLK_ok_40 : x_okK (40, 344, 68, 342, 343) = true := by decide +kernel
theorem xLK_ok_41 : x_okK (41, 830, 75, 829, 0) = true := by decide +kernel
theorem xLK_ok_42 : x_okK (42, 834, 75, 833, 28) = true := by decide +kernel
theorem xLK_ok_43 : x_okK (43, 838, 75, 837, 29) = true := by decide +kernel
theorem xLK_ok_44 : x_okK (44, 827, 75, 825, 826) = true := by decide +kernel
theorem xLK_ok_45 : x_okK (45, 362, 70, 360, 361) = true := by decide +kernel
theorem xLK_ok_46 : x_okK (46, 356, 68, 354, 355) = true := by decide +kernel
theorem xLK_ok_47 : x_okK (47, 842, 75, 840, 841) = true := by decide +kernel
theorem xLK_ok_48 : x_okK (48, 371, 70, 369, 370) = true := by decide +kernel
theorem xLK_ok_49 : x_okK (49, 366, 68, 364, 365) = true := by decide +kernel
theorem xLK_ok_50 : x_okK (50, 846, 75, 844, 845) = true := by decide +kernel
theorem xLK_ok_51 : x_okK (51, 379, 70, 377, 378) = true := by decide +kernel
theorem xLK_ok_52 : x_okK (52, 383, 70, 381, 382) = true := by decide +kernel
theorem xLK_ok_53 : x_okK (53, 387, 70, 385, 386) = true := by decide +kernel
theorem xLK_ok_54 : x_okK (54, 375, 68, 373, 374) = true := by decide +kernel
theorem xLK_ok_55 : x_okK (55, 854, 75, 853, 30) = true := by decide +kernel
theorem xLK_ok_56 : x_okK (56, 850, 75, 848, 849) = true := by decide +kernel
theorem xLK_ok_57 : x_okK (57, 395, 69, 393, 394) = true := by decide +kernel
theorem xLK_ok_58 : x_okK (58, 408, 71, 406, 407) = true := by decide +kernel
theorem xLK_ok_59 : x_okK (59, 404, 71, 402, 403) = true := by decide +kernel
theorem xLK_ok_60 : x_okK (60, 422, 78, 421, 0) = true := by decide +kernel
theorem xLK_ok_61 : x_okK (61, 425, 78, 424, 0) = true := by decide +kernel
theorem xLK_ok_62 : x_okK (62, 419, 73, 418, 0) = true := by decide +kernel
theorem xLK_ok_63 : x_okK (63, 428, 78, 427, 0) = true := by decide +kernel
theorem xLK_ok_64 : x_okK (64, 431, 73, 430, 0) = true := by decide +kernel
theorem xLK_ok_65 : x_okK (65, 440, 73, 439, 0) = true := by decide +kernel
theorem xLK_ok_66 : x_okK (66, 443, 73, 442, 0) = true := by decide +kernel
theorem xLK_ok_67 : x_okK (67, 416, 73, 415, 1) = true := by decide +kernel
theorem xLK_ok_68 : x_okK (68, 451, 73, 450, 3) = true := by decide +kernel
theorem xLK_ok_69 : x_okK (69, 458, 73, 457, 4) = true := by decide +kernel
theorem xLK_ok_70 : x_okK (70, 447, 73, 446, 2) = true := by decide +kernel
theorem xLK_ok_71 : x_okK (71, 465, 73, 464, 0) = true := by decide +kernel
theorem xLK_ok_72 : x_okK (72, 462, 73, 461, 5) = true := by decide +kernel
theorem xLK_ok_73 : x_okK (73, 412, 73, 410, 411) = true := by decide +kernel
theorem xLK_ok_74 : x_okK (74, 469, 73, 467, 468) = true := by decide +kernel
theorem xLK_ok_75 : x_okK (75, 473, 71, 471, 472) = true := by decide +kernel
theorem xLK_ok_76 : x_okK (76, 477, 73, 475, 476) = true := by decide +kernel
theorem xLK_ok_77 : x_okK (77, 481, 73, 479, 480) = true := by decide +kernel
theorem xLK_ok_78 : x_okK (78, 486, 73, 484, 485) = true := by decide +kernel
theorem xLK_ok_79 : x_okK (79, 400, 69, 398, 399) = true := by decide +kernel
theorem xLK_ok_80 : x_okK (80, 391, 68, 389, 390) = true := by decide +kernel
theorem xLK_ok_81 : x_okK (81, 866, 75, 865, 32) = true := by decide +kernel
theorem xLK_ok_82 : x_okK (82, 870, 75, 869, 33) = true := by decide +kernel
theorem xLK_ok_83 : x_okK (83, 878, 75, 877, 35) = true := by decide +kernel
theorem xLK_ok_84 : x_okK (84, 874, 75, 873, 34) = true := by decide +kernel
theorem xLK_ok_85 : x_okK (85, 890, 75, 889, 38) = true := by decide +kernel
theorem xLK_ok_86 : x_okK (86, 886, 75, 885, 37) = true := by decide +kernel
theorem xLK_ok_87 : x_okK (87, 902, 75, 901, 41) = true := by decide +kernel
theorem xLK_ok_88 : x_okK (88, 906, 75, 905, 42) = true := by decide +kernel
theorem xLK_ok_89 : x_okK (89, 898, 75, 897, 40) = true := by decide +kernel
theorem xLK_ok_90 : x_okK (90, 910, 75, 909, 43) = true := by decide +kernel
theorem xLK_ok_91 : x_okK (91, 914, 75, 913, 44) = true := by decide +kernel
theorem xLK_ok_92 : x_okK (92, 918, 75, 917, 45) = true := by decide +kernel
theorem xLK_ok_93 : x_okK (93, 894, 75, 893, 39) = true := by decide +kernel
theorem xLK_ok_94 : x_okK (94, 882, 75, 881, 36) = true := by decide +kernel
theorem xLK_ok_95 : x_okK (95, 862, 75, 861, 31) = true := by decide +kernel
theorem xLK_ok_96 : x_okK (96, 858, 75, 856, 857) = true := by decide +kernel
theorem xLK_ok_97 : x_okK (97, 492, 68, 490, 491) = true := by decide +kernel
theorem xLK_ok_98 : x_okK (98, 788, 75, 787, 24) = true := by decide +kernel
theorem xLK_ok_99 : x_okK (99, 922, 75, 920, 921) = true := by decide +kernel
theorem xLK_ok_100 : x_okK (100, 496, 68, 494, 495) = true := by decide +kernel
theorem xLK_ok_101 : x_okK (101, 926, 75, 924, 925) = true := by decide +kernel
theorem xLK_ok_102 : x_okK (102, 504, 69, 502, 503) = true := by decide +kernel
theorem xLK_ok_103 : x_okK (103, 509, 71, 507, 508) = true := by decide +kernel
theorem xLK_ok_104 : x_okK (104, 500, 68, 498, 499) = true := by decide +kernel
theorem xLK_ok_105 : x_okK (105, 934, 75, 933, 46) = true := by decide +kernel
theorem xLK_ok_106 : x_okK (106, 938, 75, 937, 47) = true := by decide +kernel
theorem xLK_ok_107 : x_okK (107, 930, 75, 928, 929) = true := by decide +kernel
theorem xLK_ok_108 : x_okK (108, 513, 68, 511, 512) = true := by decide +kernel
theorem xLK_ok_109 : x_okK (109, 946, 75, 945, 48) = true := by decide +kernel
theorem xLK_ok_110 : x_okK (110, 942, 75, 940, 941) = true := by decide +kernel
theorem xLK_ok_111 : x_okK (111, 524, 71, 522, 523) = true := by decide +kernel
theorem xLK_ok_112 : x_okK (112, 527, 78, 526, 0) = true := by decide +kernel
theorem xLK_ok_113 : x_okK (113, 534, 78, 533, 0) = true := by decide +kernel
theorem xLK_ok_114 : x_okK (114, 531, 78, 530, 0) = true := by decide +kernel
theorem xLK_ok_115 : x_okK (115, 520, 68, 518, 519) = true := by decide +kernel
theorem xLK_ok_116 : x_okK (116, 962, 75, 961, 51) = true := by decide +kernel
theorem xLK_ok_117 : x_okK (117, 958, 75, 957, 50) = true := by decide +kernel
theorem xLK_ok_118 : x_okK (118, 954, 75, 953, 49) = true := by decide +kernel
theorem xLK_ok_119 : x_okK (119, 950, 75, 948, 949) = true := by decide +kernel
theorem xLK_ok_120 : x_okK (120, 541, 68, 539, 540) = true := by decide +kernel
theorem xLK_ok_121 : x_okK (121, 970, 75, 969, 52) = true := by decide +kernel
theorem xLK_ok_122 : x_okK (122, 966, 75, 964, 965) = true := by decide +kernel
theorem xLK_ok_123 : x_okK (123, 553, 73, 551, 552) = true := by decide +kernel
theorem xLK_ok_124 : x_okK (124, 549, 68, 547, 548) = true := by decide +kernel
theorem xLK_ok_125 : x_okK (125, 974, 75, 972, 973) = true := by decide +kernel
theorem xLK_ok_126 : x_okK (126, 571, 69, 570, 7) = true := by decide +kernel
theorem xLK_ok_127 : x_okK (127, 566, 69, 565, 6) = true := by decide +kernel
theorem xLK_ok_128 : x_okK (128, 561, 69, 559, 560) = true := by decide +kernel
theorem xLK_ok_129 : x_okK (129, 557, 68, 555, 556) = true := by decide +kernel
theorem xLK_ok_130 : x_okK (130, 982, 75, 981, 53) = true := by decide +kernel
theorem xLK_ok_131 : x_okK (131, 978, 75, 976, 977) = true := by decide +kernel
theorem xLK_ok_132 : x_okK (132, 582, 74, 580, 581) = true := by decide +kernel
theorem xLK_ok_133 : x_okK (133, 578, 68, 576, 577) = true := by decide +kernel
theorem xLK_ok_134 : x_okK (134, 986, 75, 984, 985) = true := by decide +kernel
theorem xLK_ok_135 : x_okK (135, 586, 68, 584, 585) = true := by decide +kernel
theorem xLK_ok_136 : x_okK (136, 990, 75, 988, 989) = true := by decide +kernel
theorem xLK_ok_137 : x_okK (137, 598, 74, 597, 8) = true := by decide +kernel
theorem xLK_ok_138 : x_okK (138, 606, 74, 605, 10) = true := by decide +kernel
theorem xLK_ok_139 : x_okK (139, 609, 74, 608, 0) = true := by decide +kernel
theorem xLK_ok_140 : x_okK (140, 613, 74, 612, 11) = true := by decide +kernel
theorem xLK_ok_141 : x_okK (141, 621, 74, 620, 13) = true := by decide +kernel
theorem xLK_ok_142 : x_okK (142, 617, 74, 616, 12) = true := by decide +kernel
theorem xLK_ok_143 : x_okK (143, 602, 74, 601, 9) = true := by decide +kernel
theorem xLK_ok_144 : x_okK (144, 594, 74, 592, 593) = true := by decide +kernel
theorem xLK_ok_145 : x_okK (145, 626, 74, 624, 625) = true := by decide +kernel
theorem xLK_ok_146 : x_okK (146, 634, 74, 632, 633) = true := by decide +kernel
theorem xLK_ok_147 : x_okK (147, 638, 74, 636, 637) = true := by decide +kernel
theorem xLK_ok_148 : x_okK (148, 630, 68, 629, 14) = true := by decide +kernel
theorem xLK_ok_149 : x_okK (149, 646, 68, 645, 16) = true := by decide +kernel
theorem xLK_ok_150 : x_okK (150, 642, 68, 641, 15) = true := by decide +kernel
theorem xLK_ok_151 : x_okK (151, 590, 68, 588, 589) = true := by decide +kernel
theorem xLK_ok_152 : x_okK (152, 1006, 75, 1005, 56) = true := by decide +kernel
theorem xLK_ok_153 : x_okK (153, 1002, 75, 1001, 55) = true := by decide +kernel
theorem xLK_ok_154 : x_okK (154, 1009, 75, 1008, 0) = true := by decide +kernel
theorem xLK_ok_155 : x_okK (155, 1013, 75, 1012, 57) = true := by decide +kernel
theorem xLK_ok_156 : x_okK (156, 1020, 75, 1019, 0) = true := by decide +kernel
theorem xLK_ok_157 : x_okK (157, 1024, 75, 1023, 59) = true := by decide +kernel
theorem xLK_ok_158 : x_okK (158, 1017, 75, 1016, 58) = true := by decide +kernel
theorem xLK_ok_159 : x_okK (159, 998, 75, 997, 54) = true := by decide +kernel
theorem xLK_ok_160 : x_okK (160, 1032, 75, 1031, 61) = true := by decide +kernel
theorem xLK_ok_161 : x_okK (161, 1036, 75, 1035, 62) = true := by decide +kernel
theorem xLK_ok_162 : x_okK (162, 1040, 75, 1039, 63) = true := by decide +kernel
theorem xLK_ok_163 : x_okK (163, 1028, 75, 1027, 60) = true := by decide +kernel
theorem xLK_ok_164 : x_okK (164, 1044, 75, 1043, 64) = true := by decide +kernel
theorem xLK_ok_165 : x_okK (165, 994, 75, 992, 993) = true := by decide +kernel
theorem xLK_ok_166 : x_okK (166, 654, 72, 652, 653) = true := by decide +kernel
theorem xLK_ok_167 : x_okK (167, 650, 68, 648, 649) = true := by decide +kernel
theorem xLK_ok_168 : x_okK (168, 784, 75, 782, 783) = true := by decide +kernel
theorem xLK_ok_169 : x_okK (169, 658, 68, 656, 657) = true := by decide +kernel
theorem xLK_ok_170 : x_okK (170, 1052, 75, 1051, 65) = true := by decide +kernel
theorem xLK_ok_171 : x_okK (171, 1048, 75, 1046, 1047) = true := by decide +kernel
theorem xLK_ok_172 : x_okK (172, 669, 68, 668, 17) = true := by decide +kernel
theorem xLK_ok_173 : x_okK (173, 675, 68, 674, 18) = true := by decide +kernel
theorem xLK_ok_174 : x_okK (174, 662, 68, 660, 661) = true := by decide +kernel
theorem xLK_ok_175 : x_okK (175, 1061, 75, 1060, 66) = true := by decide +kernel
theorem xLK_ok_176 : x_okK (176, 1056, 75, 1054, 1055) = true := by decide +kernel
set_option maxRecDepth 100000 in
theorem xLK_ok : ∀ q ∈ xLKp, x_okK q = true := by
  unfold xLKp
  exact List.forall_mem_cons.mpr ⟨xLK_ok_0, List.forall_mem_cons.mpr ⟨xLK_ok_1, List.forall_mem_cons.mpr ⟨xLK_ok_2, List.forall_mem_cons.mpr ⟨xLK_ok_3, List.forall_mem_cons.mpr ⟨xLK_ok_4, List.forall_mem_cons.mpr ⟨xLK_ok_5, List.forall_mem_cons.mpr ⟨xLK_ok_6, List.forall_mem_cons.mpr ⟨xLK_ok_7, List.forall_mem_cons.mpr ⟨xLK_ok_8, List.forall_mem_cons.mpr ⟨xLK_ok_9, List.forall_mem_cons.mpr ⟨xLK_ok_10, List.forall_mem_cons.mpr ⟨xLK_ok_11, List.forall_mem_cons.mpr ⟨xLK_ok_12, List.forall_mem_cons.mpr ⟨xLK_ok_13, List.forall_mem_cons.mpr ⟨xLK_ok_14, List.forall_mem_cons.mpr ⟨xLK_ok_15, List.forall_mem_cons.mpr ⟨xLK_ok_16, List.forall_mem_cons.mpr ⟨xLK_ok_17, List.forall_mem_cons.mpr ⟨xLK_ok_18, List.forall_mem_cons.mpr ⟨xLK_ok_19, List.forall_mem_cons.mpr ⟨xLK_ok_20, List.forall_mem_cons.mpr ⟨xLK_ok_21, List.forall_mem_cons.mpr ⟨xLK_ok_22, List.forall_mem_cons.mpr ⟨xLK_ok_23, List.forall_mem_cons.mpr ⟨xLK_ok_24, List.forall_mem_cons.mpr ⟨xLK_ok_25, List.forall_mem_cons.mpr ⟨xLK_ok_26, List.forall_mem_cons.mpr ⟨xLK_ok_27, List.forall_mem_cons.mpr ⟨xLK_ok_28, List.forall_mem_cons.mpr ⟨xLK_ok_29, List.forall_mem_cons.mpr ⟨xLK_ok_30, List.forall_mem_cons.mpr ⟨xLK_ok_31, List.forall_mem_cons.mpr ⟨xLK_ok_32, List.forall_mem_cons.mpr ⟨xLK_ok_33, List.forall_mem_cons.mpr ⟨xLK_ok_34, List.forall_mem_cons.mpr ⟨xLK_ok_35, List.forall_mem_cons.mpr ⟨xLK_ok_36, List.forall_mem_cons.mpr ⟨xLK_ok_37, List.forall_mem_cons.mpr ⟨xLK_ok_38, List.forall_mem_cons.mpr ⟨xLK_ok_39, List.forall_mem_cons.mpr ⟨xLK_ok_40, List.forall_mem_cons.mpr ⟨xLK_ok_41, List.forall_mem_cons.mpr ⟨xLK_ok_42, List.forall_mem_cons.mpr ⟨xLK_ok_43, List.forall_mem_cons.mpr ⟨xLK_ok_44, List.forall_mem_cons.mpr ⟨xLK_ok_45, List.forall_mem_cons.mpr ⟨xLK_ok_46, List.forall_mem_cons.mpr ⟨xLK_ok_47, List.forall_mem_cons.mpr ⟨xLK_ok_48, List.forall_mem_cons.mpr ⟨xLK_ok_49, List.forall_mem_cons.mpr ⟨xLK_ok_50, List.forall_mem_cons.mpr ⟨xLK_ok_51, List.forall_mem_cons.mpr ⟨xLK_ok_52, List.forall_mem_cons.mpr ⟨xLK_ok_53, List.forall_mem_cons.mpr ⟨xLK_ok_54, List.forall_mem_cons.mpr ⟨xLK_ok_55, List.forall_mem_cons.mpr ⟨xLK_ok_56, List.forall_mem_cons.mpr ⟨xLK_ok_57, List.forall_mem_cons.mpr ⟨xLK_ok_58, List.forall_mem_cons.mpr ⟨xLK_ok_59, List.forall_mem_cons.mpr ⟨xLK_ok_60, List.forall_mem_cons.mpr ⟨xLK_ok_61, List.forall_mem_cons.mpr ⟨xLK_ok_62, List.forall_mem_cons.mpr ⟨xLK_ok_63, List.forall_mem_cons.mpr ⟨xLK_ok_64, List.forall_mem_cons.mpr ⟨xLK_ok_65, List.forall_mem_cons.mpr ⟨xLK_ok_66, List.forall_mem_cons.mpr ⟨xLK_ok_67, List.forall_mem_cons.mpr ⟨xLK_ok_68, List.forall_mem_cons.mpr ⟨xLK_ok_69, List.forall_mem_cons.mpr ⟨xLK_ok_70, List.forall_mem_cons.mpr ⟨xLK_ok_71, List.forall_mem_cons.mpr ⟨xLK_ok_72, List.forall_mem_cons.mpr ⟨xLK_ok_73, List.forall_mem_cons.mpr ⟨xLK_ok_74, List.forall_mem_cons.mpr ⟨xLK_ok_75, List.forall_mem_cons.mpr ⟨xLK_ok_76, List.forall_mem_cons.mpr ⟨xLK_ok_77, List.forall_mem_cons.mpr ⟨xLK_ok_78, List.forall_mem_cons.mpr ⟨xLK_ok_79, List.forall_mem_cons.mpr ⟨xLK_ok_80, List.forall_mem_cons.mpr ⟨xLK_ok_81, List.forall_mem_cons.mpr ⟨xLK_ok_82, List.forall_mem_cons.mpr ⟨xLK_ok_83, List.forall_mem_cons.mpr ⟨xLK_ok_84, List.forall_mem_cons.mpr ⟨xLK_ok_85, List.forall_mem_cons.mpr ⟨xLK_ok_86, List.forall_mem_cons.mpr ⟨xLK_ok_87, List.forall_mem_cons.mpr ⟨xLK_ok_88, List.forall_mem_cons.mpr ⟨xLK_ok_89, List.forall_mem_cons.mpr ⟨xLK_ok_90, List.forall_mem_cons.mpr ⟨xLK_ok_91, List.forall_mem_cons.mpr ⟨xLK_ok_92, List.forall_mem_cons.mpr ⟨xLK_ok_93, List.forall_mem_cons.mpr ⟨xLK_ok_94, List.forall_mem_cons.mpr ⟨xLK_ok_95, List.forall_mem_cons.mpr ⟨xLK_ok_96, List.forall_mem_cons.mpr ⟨xLK_ok_97, List.forall_mem_cons.mpr ⟨xLK_ok_98, List.forall_mem_cons.mpr ⟨xLK_ok_99, List.forall_mem_cons.mpr ⟨xLK_ok_100, List.forall_mem_cons.mpr ⟨xLK_ok_101, List.forall_mem_cons.mpr ⟨xLK_ok_102, List.forall_mem_cons.mpr ⟨xLK_ok_103, List.forall_mem_cons.mpr ⟨xLK_ok_104, List.forall_mem_cons.mpr ⟨xLK_ok_105, List.forall_mem_cons.mpr ⟨xLK_ok_106, List.forall_mem_cons.mpr ⟨xLK_ok_107, List.forall_mem_cons.mpr ⟨xLK_ok_108, List.forall_mem_cons.mpr ⟨xLK_ok_109, List.forall_mem_cons.mpr ⟨xLK_ok_110, List.forall_mem_cons.mpr ⟨xLK_ok_111, List.forall_mem_cons.mpr ⟨xLK_ok_112, List.forall_mem_cons.mpr ⟨xLK_ok_113, List.forall_mem_cons.mpr ⟨xLK_ok_114, List.forall_mem_cons.mpr ⟨xLK_ok_115, List.forall_mem_cons.mpr ⟨xLK_ok_116, List.forall_mem_cons.mpr ⟨xLK_ok_117, List.forall_mem_cons.mpr ⟨xLK_ok_118, List.forall_mem_cons.mpr ⟨xLK_ok_119, List.forall_mem_cons.mpr ⟨xLK_ok_120, List.forall_mem_cons.mpr ⟨xLK_ok_121, List.forall_mem_cons.mpr ⟨xLK_ok_122, List.forall_mem_cons.mpr ⟨xLK_ok_123, List.forall_mem_cons.mpr ⟨xLK_ok_124, List.forall_mem_cons.mpr ⟨xLK_ok_125, List.forall_mem_cons.mpr ⟨xLK_ok_126, List.forall_mem_cons.mpr ⟨xLK_ok_127, List.forall_mem_cons.mpr ⟨xLK_ok_128, List.forall_mem_cons.mpr ⟨xLK_ok_129, List.forall_mem_cons.mpr ⟨xLK_ok_130, List.forall_mem_cons.mpr ⟨xLK_ok_131, List.forall_mem_cons.mpr ⟨xLK_ok_132, List.forall_mem_cons.mpr ⟨xLK_ok_133, List.forall_mem_cons.mpr ⟨xLK_ok_134, List.forall_mem_cons.mpr ⟨xLK_ok_135, List.forall_mem_cons.mpr ⟨xLK_ok_136, List.forall_mem_cons.mpr ⟨xLK_ok_137, List.forall_mem_cons.mpr ⟨xLK_ok_138, List.forall_mem_cons.mpr ⟨xLK_ok_139, List.forall_mem_cons.mpr ⟨xLK_ok_140, List.forall_mem_cons.mpr ⟨xLK_ok_141, List.forall_mem_cons.mpr ⟨xLK_ok_142, List.forall_mem_cons.mpr ⟨xLK_ok_143, List.forall_mem_cons.mpr ⟨xLK_ok_144, List.forall_mem_cons.mpr ⟨xLK_ok_145, List.forall_mem_cons.mpr ⟨xLK_ok_146, List.forall_mem_cons.mpr ⟨xLK_ok_147, List.forall_mem_cons.mpr ⟨xLK_ok_148, List.forall_mem_cons.mpr ⟨xLK_ok_149, List.forall_mem_cons.mpr ⟨xLK_ok_150, List.forall_mem_cons.mpr ⟨xLK_ok_151, List.forall_mem_cons.mpr ⟨xLK_ok_152, List.forall_mem_cons.mpr ⟨xLK_ok_153, List.forall_mem_cons.mpr ⟨xLK_ok_154, List.forall_mem_cons.mpr ⟨xLK_ok_155, List.forall_mem_cons.mpr ⟨xLK_ok_156, List.forall_mem_cons.mpr ⟨xLK_ok_157, List.forall_mem_cons.mpr ⟨xLK_ok_158, List.forall_mem_cons.mpr ⟨xLK_ok_159, List.forall_mem_cons.mpr ⟨xLK_ok_160, List.forall_mem_cons.mpr ⟨xLK_ok_161, List.forall_mem_cons.mpr ⟨xLK_ok_162, List.forall_mem_cons.mpr ⟨xLK_ok_163, List.forall_mem_cons.mpr ⟨xLK_ok_164, List.forall_mem_cons.mpr ⟨xLK_ok_165, List.forall_mem_cons.mpr ⟨xLK_ok_166, List.forall_mem_cons.mpr ⟨xLK_ok_167, List.forall_mem_cons.mpr ⟨xLK_ok_168, List.forall_mem_cons.mpr ⟨xLK_ok_169, List.forall_mem_cons.mpr ⟨xLK_ok_170, List.forall_mem_cons.mpr ⟨xLK_ok_171, List.forall_mem_cons.mpr ⟨xLK_ok_172, List.forall_mem_cons.mpr ⟨xLK_ok_173, List.forall_mem_cons.mpr ⟨xLK_ok_174, List.forall_mem_cons.mpr ⟨xLK_ok_175, List.forall_mem_cons.mpr ⟨xLK_ok_176, fun _ h => absurd h List.not_mem_nil⟩⟩⟩⟩⟩⟩⟩⟩⟩⟩⟩⟩⟩⟩⟩⟩⟩⟩⟩⟩⟩⟩⟩⟩⟩⟩⟩⟩⟩⟩⟩⟩⟩⟩⟩⟩⟩⟩⟩⟩⟩⟩⟩⟩⟩⟩⟩⟩⟩⟩⟩⟩⟩⟩⟩⟩⟩⟩⟩⟩⟩⟩⟩⟩⟩⟩⟩⟩⟩⟩⟩⟩⟩⟩⟩⟩⟩⟩⟩⟩⟩⟩⟩⟩⟩⟩⟩⟩⟩⟩⟩⟩⟩⟩⟩⟩⟩⟩⟩⟩⟩⟩⟩⟩⟩⟩⟩⟩⟩⟩⟩⟩⟩⟩⟩⟩⟩⟩⟩⟩⟩⟩⟩⟩⟩⟩⟩⟩⟩⟩⟩⟩⟩⟩⟩⟩⟩⟩⟩⟩⟩⟩⟩⟩⟩⟩⟩⟩⟩⟩⟩⟩⟩⟩⟩⟩⟩⟩⟩⟩⟩⟩⟩⟩⟩⟩⟩⟩⟩⟩⟩⟩⟩⟩⟩⟩⟩
theorem xLK_nums : xLKp.map (fun q => q.1) = List.range 177 := by decide +kernel
noncomputable def x_okM (q : Nat × Nat × Nat × Nat × Nat) : Bool := decide (q.2.2.1 < 177) && (match x_Pg[q.2.2.1]? with
  | some K => if q.2.2.2.2 = 0 then x_has q.2.2.2.1 (.methodLink (x_on q.1) q.2.1 (xm_y K)) else x_has q.2.2.2.1 (.methodLinkNest (x_on q.1) q.2.1 (xm_y K) "PathReader")
  | none => false)
theorem xLM_ok : xLMp.all x_okM = true := by decide +kernel
theorem x_HL : ∀ z ∈ x_LM, ∃ K, x_Pg[z.2.2]? = some K ∧ x_MOK K ∧ x_Link z.1 z.2.1 K := by
  intro z hz
  obtain ⟨q, hq, rfl⟩ := List.mem_map.mp hz
  have h := List.all_eq_true.mp xLM_ok q hq
  unfold x_okM at h
  simp only [Bool.and_eq_true, decide_eq_true_eq] at h
  obtain ⟨hlt, h⟩ := h
  have h1 : q.2.2.1 ∈ xLKp.map (fun q => q.1) := by rw [xLK_nums]; exact List.mem_range.mpr hlt
  obtain ⟨q2, hq2, e2⟩ := List.mem_map.mp h1
  obtain ⟨K, hK, hMOK⟩ := x_okK_in (xLK_ok q2 hq2)
  rw [e2] at hK
  refine ⟨K, hK, hMOK, ?_⟩
  dsimp only
  rw [hK] at h
  dsimp only at h
  split at h
  · exact Or.inl (x_has_in h)
  · exact Or.inr ⟨_, x_has_in h⟩
end
section
/-! every instruction of ours is the one that the bytes spell, its links are the tables' -/
noncomputable def x_okMB (M : xM) : Bool := (xm_bl M).all (fun z => x_okB x_Pg x_LM M z.1 z.2)
theorem xk_X1_init : x_okMB xm_X1_init = true := by decide +kernel
theorem xk_X4_init : x_okMB xm_X4_init = true := by decide +kernel
theorem xk_X6_init : x_okMB xm_X6_init = true := by decide +kernel
theorem xk_X5_init : x_okMB xm_X5_init = true := by decide +kernel
theorem xk_X0_spanPlace : x_okMB xm_X0_spanPlace = true := by decide +kernel
theorem xk_X0_init : x_okMB xm_X0_init = true := by decide +kernel
theorem xk_X3_init : x_okMB xm_X3_init = true := by decide +kernel
theorem xk_X7_init : x_okMB xm_X7_init = true := by decide +kernel
theorem xk_X8_laysHeads : x_okMB xm_X8_laysHeads = true := by decide +kernel
theorem xk_X8_comesTo : x_okMB xm_X8_comesTo = true := by decide +kernel
theorem xk_X8_isBridged : x_okMB xm_X8_isBridged = true := by decide +kernel
theorem xk_X8_isTree : x_okMB xm_X8_isTree = true := by decide +kernel
theorem xk_X8_laysTrees : x_okMB xm_X8_laysTrees = true := by decide +kernel
theorem xk_X8_init : x_okMB xm_X8_init = true := by decide +kernel
theorem xk_X7_isBelow : x_okMB xm_X7_isBelow = true := by decide +kernel
theorem xk_X7_isRulePlace : x_okMB xm_X7_isRulePlace = true := by decide +kernel
theorem xk_X7_isPriceOrNone : x_okMB xm_X7_isPriceOrNone = true := by decide +kernel
theorem xk_X1_whyNoPrice : x_okMB xm_X1_whyNoPrice = true := by decide +kernel
theorem xk_X7_refuse : x_okMB xm_X7_refuse = true := by decide +kernel
theorem xk_X1_copyFrom : x_okMB xm_X1_copyFrom = true := by decide +kernel
theorem xk_X4_copyFrom : x_okMB xm_X4_copyFrom = true := by decide +kernel
theorem xk_X6_copyFrom : x_okMB xm_X6_copyFrom = true := by decide +kernel
theorem xk_X5_push : x_okMB xm_X5_push = true := by decide +kernel
theorem xk_X1_putPrice : x_okMB xm_X1_putPrice = true := by decide +kernel
theorem xk_X7_rules : x_okMB xm_X7_rules = true := by decide +kernel
theorem xk_X8_in : x_okMB xm_X8_in = true := by decide +kernel
theorem xk_X8_isSort : x_okMB xm_X8_isSort = true := by decide +kernel
theorem xk_X8_isRule : x_okMB xm_X8_isRule = true := by decide +kernel
theorem xk_X8_isPrice : x_okMB xm_X8_isPrice = true := by decide +kernel
theorem xk_X8_bad : x_okMB xm_X8_bad = true := by decide +kernel
theorem xk_X8_remembers : x_okMB xm_X8_remembers = true := by decide +kernel
theorem xk_X8_ruleAt : x_okMB xm_X8_ruleAt = true := by decide +kernel
theorem xk_X8_exchanges : x_okMB xm_X8_exchanges = true := by decide +kernel
theorem xk_X8_rules : x_okMB xm_X8_rules = true := by decide +kernel
theorem xk_X1_whyNoRootPrice : x_okMB xm_X1_whyNoRootPrice = true := by decide +kernel
theorem xk_X1_putRootPrice : x_okMB xm_X1_putRootPrice = true := by decide +kernel
theorem xk_X7_roots : x_okMB xm_X7_roots = true := by decide +kernel
theorem xk_X8_roots : x_okMB xm_X8_roots = true := by decide +kernel
theorem xk_X1_whyNoEntry : x_okMB xm_X1_whyNoEntry = true := by decide +kernel
theorem xk_X1_addEntry : x_okMB xm_X1_addEntry = true := by decide +kernel
theorem xk_X7_entry : x_okMB xm_X7_entry = true := by decide +kernel
theorem xk_X8_canEnter : x_okMB xm_X8_canEnter = true := by decide +kernel
theorem xk_X8_full : x_okMB xm_X8_full = true := by decide +kernel
theorem xk_X8_enters : x_okMB xm_X8_enters = true := by decide +kernel
theorem xk_X8_entry : x_okMB xm_X8_entry = true := by decide +kernel
theorem xk_X1_putSetting : x_okMB xm_X1_putSetting = true := by decide +kernel
theorem xk_X7_sets : x_okMB xm_X7_sets = true := by decide +kernel
theorem xk_X8_sets : x_okMB xm_X8_sets = true := by decide +kernel
theorem xk_X1_price : x_okMB xm_X1_price = true := by decide +kernel
theorem xk_X7_rule : x_okMB xm_X7_rule = true := by decide +kernel
theorem xk_X8_rule : x_okMB xm_X8_rule = true := by decide +kernel
theorem xk_X1_hasEntry : x_okMB xm_X1_hasEntry = true := by decide +kernel
theorem xk_X1_sortOf : x_okMB xm_X1_sortOf = true := by decide +kernel
theorem xk_X1_extraOf : x_okMB xm_X1_extraOf = true := by decide +kernel
theorem xk_X7_of : x_okMB xm_X7_of = true := by decide +kernel
theorem xk_X8_isEntry : x_okMB xm_X8_isEntry = true := by decide +kernel
theorem xk_X8_of : x_okMB xm_X8_of = true := by decide +kernel
theorem xk_X6_whyNoWord : x_okMB xm_X6_whyNoWord = true := by decide +kernel
theorem xk_X4_heldRow : x_okMB xm_X4_heldRow = true := by decide +kernel
theorem xk_X4_isStuck : x_okMB xm_X4_isStuck = true := by decide +kernel
theorem xk_X2_headOf : x_okMB xm_X2_headOf = true := by decide +kernel
theorem xk_X2_readingOf : x_okMB xm_X2_readingOf = true := by decide +kernel
theorem xk_X0_repairOf : x_okMB xm_X0_repairOf = true := by decide +kernel
theorem xk_X2_part : x_okMB xm_X2_part = true := by decide +kernel
theorem xk_X0_costOfLink : x_okMB xm_X0_costOfLink = true := by decide +kernel
theorem xk_X0_linkPlace : x_okMB xm_X0_linkPlace = true := by decide +kernel
theorem xk_X0_share : x_okMB xm_X0_share = true := by decide +kernel
theorem xk_X0_reckonLinks : x_okMB xm_X0_reckonLinks = true := by decide +kernel
theorem xk_X0_reckonTree : x_okMB xm_X0_reckonTree = true := by decide +kernel
theorem xk_X0_reckonTrees : x_okMB xm_X0_reckonTrees = true := by decide +kernel
theorem xk_X0_reckonSpan : x_okMB xm_X0_reckonSpan = true := by decide +kernel
theorem xk_X0_costOfRoot : x_okMB xm_X0_costOfRoot = true := by decide +kernel
theorem xk_X0_reckonRoots : x_okMB xm_X0_reckonRoots = true := by decide +kernel
theorem xk_X0_reckon : x_okMB xm_X0_reckon = true := by decide +kernel
theorem xk_X0_hasAnalysis : x_okMB xm_X0_hasAnalysis = true := by decide +kernel
theorem xk_X4_putReckoned : x_okMB xm_X4_putReckoned = true := by decide +kernel
theorem xk_X0_leastRepair : x_okMB xm_X0_leastRepair = true := by decide +kernel
theorem xk_X0_leastRow : x_okMB xm_X0_leastRow = true := by decide +kernel
theorem xk_X0_leastCost : x_okMB xm_X0_leastCost = true := by decide +kernel
theorem xk_X6_hear : x_okMB xm_X6_hear = true := by decide +kernel
theorem xk_X7_hears : x_okMB xm_X7_hears = true := by decide +kernel
theorem xk_X8_wordAt : x_okMB xm_X8_wordAt = true := by decide +kernel
theorem xk_X8_holds : x_okMB xm_X8_holds = true := by decide +kernel
theorem xk_X8_laysHeld : x_okMB xm_X8_laysHeld = true := by decide +kernel
theorem xk_X8_laysAhead : x_okMB xm_X8_laysAhead = true := by decide +kernel
theorem xk_X8_entryAt : x_okMB xm_X8_entryAt = true := by decide +kernel
theorem xk_X8_laysReadings : x_okMB xm_X8_laysReadings = true := by decide +kernel
theorem xk_X8_priceOf : x_okMB xm_X8_priceOf = true := by decide +kernel
theorem xk_X8_betweenOf : x_okMB xm_X8_betweenOf = true := by decide +kernel
theorem xk_X8_costOf : x_okMB xm_X8_costOf = true := by decide +kernel
theorem xk_X8_repairOf : x_okMB xm_X8_repairOf = true := by decide +kernel
theorem xk_X8_codeOf : x_okMB xm_X8_codeOf = true := by decide +kernel
theorem xk_X8_isBetter : x_okMB xm_X8_isBetter = true := by decide +kernel
theorem xk_X8_tries : x_okMB xm_X8_tries = true := by decide +kernel
theorem xk_X8_finds : x_okMB xm_X8_finds = true := by decide +kernel
theorem xk_X8_listens : x_okMB xm_X8_listens = true := by decide +kernel
theorem xk_X8_hears : x_okMB xm_X8_hears = true := by decide +kernel
theorem xk_X7_unhears : x_okMB xm_X7_unhears = true := by decide +kernel
theorem xk_X8_no : x_okMB xm_X8_no = true := by decide +kernel
theorem xk_X8_unhears : x_okMB xm_X8_unhears = true := by decide +kernel
theorem xk_X7_silence : x_okMB xm_X7_silence = true := by decide +kernel
theorem xk_X8_silence : x_okMB xm_X8_silence = true := by decide +kernel
theorem xk_X6_hearAllAnew : x_okMB xm_X6_hearAllAnew = true := by decide +kernel
theorem xk_X4_sumOfStumbles : x_okMB xm_X4_sumOfStumbles = true := by decide +kernel
theorem xk_X7_rereads : x_okMB xm_X7_rereads = true := by decide +kernel
theorem xk_X8_isStuck : x_okMB xm_X8_isStuck = true := by decide +kernel
theorem xk_X8_sumOf : x_okMB xm_X8_sumOf = true := by decide +kernel
theorem xk_X8_rereads : x_okMB xm_X8_rereads = true := by decide +kernel
theorem xk_X7_word : x_okMB xm_X7_word = true := by decide +kernel
theorem xk_X8_wordOf : x_okMB xm_X8_wordOf = true := by decide +kernel
theorem xk_X8_word : x_okMB xm_X8_word = true := by decide +kernel
theorem xk_X4_sumOfRepairs : x_okMB xm_X4_sumOfRepairs = true := by decide +kernel
theorem xk_X2_rootOf : x_okMB xm_X2_rootOf = true := by decide +kernel
theorem xk_X2_levelOf : x_okMB xm_X2_levelOf = true := by decide +kernel
theorem xk_X2_deepestLevel : x_okMB xm_X2_deepestLevel = true := by decide +kernel
theorem xk_X7_held : x_okMB xm_X7_held = true := by decide +kernel
theorem xk_X8_levelOf : x_okMB xm_X8_levelOf = true := by decide +kernel
theorem xk_X8_heldOf : x_okMB xm_X8_heldOf = true := by decide +kernel
theorem xk_X8_aboutHeld : x_okMB xm_X8_aboutHeld = true := by decide +kernel
theorem xk_X8_held : x_okMB xm_X8_held = true := by decide +kernel
theorem xk_X7_best : x_okMB xm_X7_best = true := by decide +kernel
theorem xk_X8_digitOf : x_okMB xm_X8_digitOf = true := by decide +kernel
theorem xk_X8_best : x_okMB xm_X8_best = true := by decide +kernel
theorem xk_X0_countOfAnalyses : x_okMB xm_X0_countOfAnalyses = true := by decide +kernel
theorem xk_X7_ways : x_okMB xm_X7_ways = true := by decide +kernel
theorem xk_X8_ways : x_okMB xm_X8_ways = true := by decide +kernel
theorem xk_X6_sortIn : x_okMB xm_X6_sortIn = true := by decide +kernel
theorem xk_X6_isHangingAllowed : x_okMB xm_X6_isHangingAllowed = true := by decide +kernel
theorem xk_X6_isHeldStillAllowed : x_okMB xm_X6_isHeldStillAllowed = true := by decide +kernel
theorem xk_X7_sound : x_okMB xm_X7_sound = true := by decide +kernel
theorem xk_X8_soundOf : x_okMB xm_X8_soundOf = true := by decide +kernel
theorem xk_X8_sound : x_okMB xm_X8_sound = true := by decide +kernel
theorem xk_X3_append : x_okMB xm_X3_append = true := by decide +kernel
theorem xk_X7_type : x_okMB xm_X7_type = true := by decide +kernel
theorem xk_X8_type : x_okMB xm_X8_type = true := by decide +kernel
theorem xk_X7_clear : x_okMB xm_X7_clear = true := by decide +kernel
theorem xk_X8_clear : x_okMB xm_X8_clear = true := by decide +kernel
theorem xk_X3_skipBlanks : x_okMB xm_X3_skipBlanks = true := by decide +kernel
theorem xk_X3_here : x_okMB xm_X3_here = true := by decide +kernel
theorem xk_X3_mostNumbers : x_okMB xm_X3_mostNumbers = true := by decide +kernel
theorem xk_X3_isFigureHere : x_okMB xm_X3_isFigureHere = true := by decide +kernel
theorem xk_X3_keepNumber : x_okMB xm_X3_keepNumber = true := by decide +kernel
theorem xk_X3_readNumber : x_okMB xm_X3_readNumber = true := by decide +kernel
theorem xk_X3_readOrder : x_okMB xm_X3_readOrder = true := by decide +kernel
theorem xk_X3_readWhole : x_okMB xm_X3_readWhole = true := by decide +kernel
theorem xk_X3_kind : x_okMB xm_X3_kind = true := by decide +kernel
theorem xk_X3_numberCount : x_okMB xm_X3_numberCount = true := by decide +kernel
theorem xk_X3_number : x_okMB xm_X3_number = true := by decide +kernel
theorem xk_X7_doWords : x_okMB xm_X7_doWords = true := by decide +kernel
theorem xk_X7_doEntry : x_okMB xm_X7_doEntry = true := by decide +kernel
theorem xk_X7_doOrder : x_okMB xm_X7_doOrder = true := by decide +kernel
theorem xk_X7_does : x_okMB xm_X7_does = true := by decide +kernel
theorem xk_X8_isAt : x_okMB xm_X8_isAt = true := by decide +kernel
theorem xk_X8_blanks : x_okMB xm_X8_blanks = true := by decide +kernel
theorem xk_X8_leastOf : x_okMB xm_X8_leastOf = true := by decide +kernel
theorem xk_X8_fails : x_okMB xm_X8_fails = true := by decide +kernel
theorem xk_X8_mostOf : x_okMB xm_X8_mostOf = true := by decide +kernel
theorem xk_X8_takesNumber : x_okMB xm_X8_takesNumber = true := by decide +kernel
theorem xk_X8_takesNumbers : x_okMB xm_X8_takesNumbers = true := by decide +kernel
theorem xk_X8_isRead : x_okMB xm_X8_isRead = true := by decide +kernel
theorem xk_X8_entersTold : x_okMB xm_X8_entersTold = true := by decide +kernel
theorem xk_X8_prices : x_okMB xm_X8_prices = true := by decide +kernel
theorem xk_X8_listensAll : x_okMB xm_X8_listensAll = true := by decide +kernel
theorem xk_X8_obeys : x_okMB xm_X8_obeys = true := by decide +kernel
theorem xk_X8_turns : x_okMB xm_X8_turns = true := by decide +kernel
theorem xk_X8_does : x_okMB xm_X8_does = true := by decide +kernel
theorem xk_X5_pop : x_okMB xm_X5_pop = true := by decide +kernel
theorem xk_X7_back : x_okMB xm_X7_back = true := by decide +kernel
theorem xk_X8_back : x_okMB xm_X8_back = true := by decide +kernel
theorem xk_X7_told : x_okMB xm_X7_told = true := by decide +kernel
theorem xk_X8_toldOf : x_okMB xm_X8_toldOf = true := by decide +kernel
theorem xk_X8_told : x_okMB xm_X8_told = true := by decide +kernel
theorem xk_X7_digestOfSentence : x_okMB xm_X7_digestOfSentence = true := by decide +kernel
theorem xk_X7_digestOfGrammar : x_okMB xm_X7_digestOfGrammar = true := by decide +kernel
theorem xk_X7_digest : x_okMB xm_X7_digest = true := by decide +kernel
theorem xk_X8_mix : x_okMB xm_X8_mix = true := by decide +kernel
theorem xk_X8_digest : x_okMB xm_X8_digest = true := by decide +kernel
theorem xk_law : x_okMB xm_law = true := by decide +kernel
set_option maxRecDepth 100000 in
theorem xk_all : ∀ M ∈ x_Pg, x_okMB M = true := by
  unfold x_Pg
  exact List.forall_mem_cons.mpr ⟨xk_X1_init, List.forall_mem_cons.mpr ⟨xk_X4_init, List.forall_mem_cons.mpr ⟨xk_X6_init, List.forall_mem_cons.mpr ⟨xk_X5_init, List.forall_mem_cons.mpr ⟨xk_X0_spanPlace, List.forall_mem_cons.mpr ⟨xk_X0_init, List.forall_mem_cons.mpr ⟨xk_X3_init, List.forall_mem_cons.mpr ⟨xk_X7_init, List.forall_mem_cons.mpr ⟨xk_X8_laysHeads, List.forall_mem_cons.mpr ⟨xk_X8_comesTo, List.forall_mem_cons.mpr ⟨xk_X8_isBridged, List.forall_mem_cons.mpr ⟨xk_X8_isTree, List.forall_mem_cons.mpr ⟨xk_X8_laysTrees, List.forall_mem_cons.mpr ⟨xk_X8_init, List.forall_mem_cons.mpr ⟨xk_X7_isBelow, List.forall_mem_cons.mpr ⟨xk_X7_isRulePlace, List.forall_mem_cons.mpr ⟨xk_X7_isPriceOrNone, List.forall_mem_cons.mpr ⟨xk_X1_whyNoPrice, List.forall_mem_cons.mpr ⟨xk_X7_refuse, List.forall_mem_cons.mpr ⟨xk_X1_copyFrom, List.forall_mem_cons.mpr ⟨xk_X4_copyFrom, List.forall_mem_cons.mpr ⟨xk_X6_copyFrom, List.forall_mem_cons.mpr ⟨xk_X5_push, List.forall_mem_cons.mpr ⟨xk_X1_putPrice, List.forall_mem_cons.mpr ⟨xk_X7_rules, List.forall_mem_cons.mpr ⟨xk_X8_in, List.forall_mem_cons.mpr ⟨xk_X8_isSort, List.forall_mem_cons.mpr ⟨xk_X8_isRule, List.forall_mem_cons.mpr ⟨xk_X8_isPrice, List.forall_mem_cons.mpr ⟨xk_X8_bad, List.forall_mem_cons.mpr ⟨xk_X8_remembers, List.forall_mem_cons.mpr ⟨xk_X8_ruleAt, List.forall_mem_cons.mpr ⟨xk_X8_exchanges, List.forall_mem_cons.mpr ⟨xk_X8_rules, List.forall_mem_cons.mpr ⟨xk_X1_whyNoRootPrice, List.forall_mem_cons.mpr ⟨xk_X1_putRootPrice, List.forall_mem_cons.mpr ⟨xk_X7_roots, List.forall_mem_cons.mpr ⟨xk_X8_roots, List.forall_mem_cons.mpr ⟨xk_X1_whyNoEntry, List.forall_mem_cons.mpr ⟨xk_X1_addEntry, List.forall_mem_cons.mpr ⟨xk_X7_entry, List.forall_mem_cons.mpr ⟨xk_X8_canEnter, List.forall_mem_cons.mpr ⟨xk_X8_full, List.forall_mem_cons.mpr ⟨xk_X8_enters, List.forall_mem_cons.mpr ⟨xk_X8_entry, List.forall_mem_cons.mpr ⟨xk_X1_putSetting, List.forall_mem_cons.mpr ⟨xk_X7_sets, List.forall_mem_cons.mpr ⟨xk_X8_sets, List.forall_mem_cons.mpr ⟨xk_X1_price, List.forall_mem_cons.mpr ⟨xk_X7_rule, List.forall_mem_cons.mpr ⟨xk_X8_rule, List.forall_mem_cons.mpr ⟨xk_X1_hasEntry, List.forall_mem_cons.mpr ⟨xk_X1_sortOf, List.forall_mem_cons.mpr ⟨xk_X1_extraOf, List.forall_mem_cons.mpr ⟨xk_X7_of, List.forall_mem_cons.mpr ⟨xk_X8_isEntry, List.forall_mem_cons.mpr ⟨xk_X8_of, List.forall_mem_cons.mpr ⟨xk_X6_whyNoWord, List.forall_mem_cons.mpr ⟨xk_X4_heldRow, List.forall_mem_cons.mpr ⟨xk_X4_isStuck, List.forall_mem_cons.mpr ⟨xk_X2_headOf, List.forall_mem_cons.mpr ⟨xk_X2_readingOf, List.forall_mem_cons.mpr ⟨xk_X0_repairOf, List.forall_mem_cons.mpr ⟨xk_X2_part, List.forall_mem_cons.mpr ⟨xk_X0_costOfLink, List.forall_mem_cons.mpr ⟨xk_X0_linkPlace, List.forall_mem_cons.mpr ⟨xk_X0_share, List.forall_mem_cons.mpr ⟨xk_X0_reckonLinks, List.forall_mem_cons.mpr ⟨xk_X0_reckonTree, List.forall_mem_cons.mpr ⟨xk_X0_reckonTrees, List.forall_mem_cons.mpr ⟨xk_X0_reckonSpan, List.forall_mem_cons.mpr ⟨xk_X0_costOfRoot, List.forall_mem_cons.mpr ⟨xk_X0_reckonRoots, List.forall_mem_cons.mpr ⟨xk_X0_reckon, List.forall_mem_cons.mpr ⟨xk_X0_hasAnalysis, List.forall_mem_cons.mpr ⟨xk_X4_putReckoned, List.forall_mem_cons.mpr ⟨xk_X0_leastRepair, List.forall_mem_cons.mpr ⟨xk_X0_leastRow, List.forall_mem_cons.mpr ⟨xk_X0_leastCost, List.forall_mem_cons.mpr ⟨xk_X6_hear, List.forall_mem_cons.mpr ⟨xk_X7_hears, List.forall_mem_cons.mpr ⟨xk_X8_wordAt, List.forall_mem_cons.mpr ⟨xk_X8_holds, List.forall_mem_cons.mpr ⟨xk_X8_laysHeld, List.forall_mem_cons.mpr ⟨xk_X8_laysAhead, List.forall_mem_cons.mpr ⟨xk_X8_entryAt, List.forall_mem_cons.mpr ⟨xk_X8_laysReadings, List.forall_mem_cons.mpr ⟨xk_X8_priceOf, List.forall_mem_cons.mpr ⟨xk_X8_betweenOf, List.forall_mem_cons.mpr ⟨xk_X8_costOf, List.forall_mem_cons.mpr ⟨xk_X8_repairOf, List.forall_mem_cons.mpr ⟨xk_X8_codeOf, List.forall_mem_cons.mpr ⟨xk_X8_isBetter, List.forall_mem_cons.mpr ⟨xk_X8_tries, List.forall_mem_cons.mpr ⟨xk_X8_finds, List.forall_mem_cons.mpr ⟨xk_X8_listens, List.forall_mem_cons.mpr ⟨xk_X8_hears, List.forall_mem_cons.mpr ⟨xk_X7_unhears, List.forall_mem_cons.mpr ⟨xk_X8_no, List.forall_mem_cons.mpr ⟨xk_X8_unhears, List.forall_mem_cons.mpr ⟨xk_X7_silence, List.forall_mem_cons.mpr ⟨xk_X8_silence, List.forall_mem_cons.mpr ⟨xk_X6_hearAllAnew, List.forall_mem_cons.mpr ⟨xk_X4_sumOfStumbles, List.forall_mem_cons.mpr ⟨xk_X7_rereads, List.forall_mem_cons.mpr ⟨xk_X8_isStuck, List.forall_mem_cons.mpr ⟨xk_X8_sumOf, List.forall_mem_cons.mpr ⟨xk_X8_rereads, List.forall_mem_cons.mpr ⟨xk_X7_word, List.forall_mem_cons.mpr ⟨xk_X8_wordOf, List.forall_mem_cons.mpr ⟨xk_X8_word, List.forall_mem_cons.mpr ⟨xk_X4_sumOfRepairs, List.forall_mem_cons.mpr ⟨xk_X2_rootOf, List.forall_mem_cons.mpr ⟨xk_X2_levelOf, List.forall_mem_cons.mpr ⟨xk_X2_deepestLevel, List.forall_mem_cons.mpr ⟨xk_X7_held, List.forall_mem_cons.mpr ⟨xk_X8_levelOf, List.forall_mem_cons.mpr ⟨xk_X8_heldOf, List.forall_mem_cons.mpr ⟨xk_X8_aboutHeld, List.forall_mem_cons.mpr ⟨xk_X8_held, List.forall_mem_cons.mpr ⟨xk_X7_best, List.forall_mem_cons.mpr ⟨xk_X8_digitOf, List.forall_mem_cons.mpr ⟨xk_X8_best, List.forall_mem_cons.mpr ⟨xk_X0_countOfAnalyses, List.forall_mem_cons.mpr ⟨xk_X7_ways, List.forall_mem_cons.mpr ⟨xk_X8_ways, List.forall_mem_cons.mpr ⟨xk_X6_sortIn, List.forall_mem_cons.mpr ⟨xk_X6_isHangingAllowed, List.forall_mem_cons.mpr ⟨xk_X6_isHeldStillAllowed, List.forall_mem_cons.mpr ⟨xk_X7_sound, List.forall_mem_cons.mpr ⟨xk_X8_soundOf, List.forall_mem_cons.mpr ⟨xk_X8_sound, List.forall_mem_cons.mpr ⟨xk_X3_append, List.forall_mem_cons.mpr ⟨xk_X7_type, List.forall_mem_cons.mpr ⟨xk_X8_type, List.forall_mem_cons.mpr ⟨xk_X7_clear, List.forall_mem_cons.mpr ⟨xk_X8_clear, List.forall_mem_cons.mpr ⟨xk_X3_skipBlanks, List.forall_mem_cons.mpr ⟨xk_X3_here, List.forall_mem_cons.mpr ⟨xk_X3_mostNumbers, List.forall_mem_cons.mpr ⟨xk_X3_isFigureHere, List.forall_mem_cons.mpr ⟨xk_X3_keepNumber, List.forall_mem_cons.mpr ⟨xk_X3_readNumber, List.forall_mem_cons.mpr ⟨xk_X3_readOrder, List.forall_mem_cons.mpr ⟨xk_X3_readWhole, List.forall_mem_cons.mpr ⟨xk_X3_kind, List.forall_mem_cons.mpr ⟨xk_X3_numberCount, List.forall_mem_cons.mpr ⟨xk_X3_number, List.forall_mem_cons.mpr ⟨xk_X7_doWords, List.forall_mem_cons.mpr ⟨xk_X7_doEntry, List.forall_mem_cons.mpr ⟨xk_X7_doOrder, List.forall_mem_cons.mpr ⟨xk_X7_does, List.forall_mem_cons.mpr ⟨xk_X8_isAt, List.forall_mem_cons.mpr ⟨xk_X8_blanks, List.forall_mem_cons.mpr ⟨xk_X8_leastOf, List.forall_mem_cons.mpr ⟨xk_X8_fails, List.forall_mem_cons.mpr ⟨xk_X8_mostOf, List.forall_mem_cons.mpr ⟨xk_X8_takesNumber, List.forall_mem_cons.mpr ⟨xk_X8_takesNumbers, List.forall_mem_cons.mpr ⟨xk_X8_isRead, List.forall_mem_cons.mpr ⟨xk_X8_entersTold, List.forall_mem_cons.mpr ⟨xk_X8_prices, List.forall_mem_cons.mpr ⟨xk_X8_listensAll, List.forall_mem_cons.mpr ⟨xk_X8_obeys, List.forall_mem_cons.mpr ⟨xk_X8_turns, List.forall_mem_cons.mpr ⟨xk_X8_does, List.forall_mem_cons.mpr ⟨xk_X5_pop, List.forall_mem_cons.mpr ⟨xk_X7_back, List.forall_mem_cons.mpr ⟨xk_X8_back, List.forall_mem_cons.mpr ⟨xk_X7_told, List.forall_mem_cons.mpr ⟨xk_X8_toldOf, List.forall_mem_cons.mpr ⟨xk_X8_told, List.forall_mem_cons.mpr ⟨xk_X7_digestOfSentence, List.forall_mem_cons.mpr ⟨xk_X7_digestOfGrammar, List.forall_mem_cons.mpr ⟨xk_X7_digest, List.forall_mem_cons.mpr ⟨xk_X8_mix, List.forall_mem_cons.mpr ⟨xk_X8_digest, List.forall_mem_cons.mpr ⟨xk_law, fun _ h => absurd h List.not_mem_nil⟩⟩⟩⟩⟩⟩⟩⟩⟩⟩⟩⟩⟩⟩⟩⟩⟩⟩⟩⟩⟩⟩⟩⟩⟩⟩⟩⟩⟩⟩⟩⟩⟩⟩⟩⟩⟩⟩⟩⟩⟩⟩⟩⟩⟩⟩⟩⟩⟩⟩⟩⟩⟩⟩⟩⟩⟩⟩⟩⟩⟩⟩⟩⟩⟩⟩⟩⟩⟩⟩⟩⟩⟩⟩⟩⟩⟩⟩⟩⟩⟩⟩⟩⟩⟩⟩⟩⟩⟩⟩⟩⟩⟩⟩⟩⟩⟩⟩⟩⟩⟩⟩⟩⟩⟩⟩⟩⟩⟩⟩⟩⟩⟩⟩⟩⟩⟩⟩⟩⟩⟩⟩⟩⟩⟩⟩⟩⟩⟩⟩⟩⟩⟩⟩⟩⟩⟩⟩⟩⟩⟩⟩⟩⟩⟩⟩⟩⟩⟩⟩⟩⟩⟩⟩⟩⟩⟩⟩⟩⟩⟩⟩⟩⟩⟩⟩⟩⟩⟩⟩⟩⟩⟩⟩⟩⟩⟩⟩
theorem x_HB : ∀ (j : Nat) (M : xM), x_Pg[j]? = some M → ∀ z ∈ xm_bl M, x_okB x_Pg x_LM M z.1 z.2 = true := by
  intro j M hM z hz
  exact List.all_eq_true.mp (xk_all M (List.mem_of_getElem? hM)) z hz
end
section
def R_law : String := "PathReaderLaw"
def lw_P (b : Addr) (xs : List Int32) (args : Array Value) (s : State) : Prop := args = #[.ref b] ∧ s.IntsAt b xs ∧ xs.length ≤ 2560 ∧ (Jvm.Cond.and given_1 narrow_1).before args s = true
def lw_Q (_ : Array Value) (s : State) (o : Outcome) (t : State) : Prop := o = .returned (some (.int 1)) ∧ Framed s o t [] 600000 7302250
def lw_Z (below : List Frame) (a : Array Value) (s : State) : State → Prop := fun t => ∃ o, t.status = .running ∧ Ended t below o ∧ lw_Q a s o t
/-- the law's own end, with 1 on the stack, nothing written that was there before, its room as the claim has it -/
theorem lw_ret {p : Program} {l : Launch} {e : Env} {s : State} {m : MethodId} {below : List Frame} {meth : Method} {c : Code} {b : Nat} (hx : p.tables.exec = Jvm.exec) (hb : c.code = code) (hr : meth.sig.returnType = ret) (hlocks : meth.locks = false) {pc : Nat} {H : Heap} {ls : Array Slot} (hdg : decode code pc = .ok (.ireturn, 1)) : W p l e room_1 s m #[Value.ref b] below meth c H [] 600000 7302250 (lw_Z below #[Value.ref b] s) (F0 m pc ls [.int 1]) := by
  intro T hT X
  obtain ⟨fs, hret, hrun, hended, hW, hframe⟩ := X.leave (v := some (.int 1)) (hlocks := hlocks) (fun h => by rw [hr] at h; cases h)
  have hmeth' : T.vm.method? m = some meth := X.method'
  refine ⟨T.setFrames fs, ?_, .returned (some (.int 1)), hrun, hended, rfl, ⟨_, rfl⟩, hW, hframe⟩
  jvm_step X.here [X.here.top, hx, hb, hdg, hmeth', hr, ret, narrow_b1]
  (try refine ⟨rfl, ?_⟩); (try refine ⟨rfl, ?_⟩)
  first | (intro acts; rw [hret _ acts rfl rfl rfl]) | rw [hret _ _ rfl rfl rfl]
  exact Steps.refl _
/-- what holds at the law's entry: the machine, the code, the tables' words (any of lw_tbl by 'hts w (by decide +kernel)'), the script of L ints xs at the cell b, what the Statement gives of the start (any of its parts by flat_of_before) -/
def lw_At (p : Program) (s : State) (m : MethodId) (meth : Method) (c : Code) (b L : Nat) (xs : Nat → Int32) : Prop :=
  p.tables.exec = Jvm.exec ∧ c.code = code ∧ meth.sig.returnType = ret ∧ c.maxLocals = 4 ∧ s.vm.findClass R_law = some m.cls ∧ (∀ w ∈ lw_tbl, w.before #[Value.ref b] s = true) ∧ va_X b L xs s s.heap ∧ b < s.heap.size ∧ meth.locks = false ∧ (Jvm.Cond.and given_1 narrow_1).before #[Value.ref b] s = true

theorem x_GW_of {s : State} {args : Array Value} (hts : ∀ w ∈ lw_tbl, w.before args s = true) : x_GW s := by
  intro w hw
  obtain ⟨h1, h2⟩ := List.mem_filter.mp hw
  have h3 := hts w h1
  unfold x_mv at h2
  rw [Bool.or_eq_true] at h2
  rcases h2 with h2 | h2
  · exact word_at (State.WarmedH.refl s) (good_of_word h2) h3
  · split at h2
    · exact va_Nw.of rfl h3
    · exact h3
    · cases h2
/-- our heap at the law's entry: the script, the settings' bounds -/
def x_h0 (ys : List Int32) : xH := [.inl (.int, ys.map Value.int), .inl (.int, [.int 3, .int 9, .int 99])]
/-- what is left to show: our machine, from there, answers 1 -/
def x_Law : Prop := ∀ ys : List Int32, ys.length ≤ 2560 → ∃ h' : xH, x_Ev x_nm x_tf x_fn x_Pg 177 0 (x_entry 4 [.ref 0]) [] (x_h0 ys) (some (.int 1)) h' ∧ h'.length ≤ 600000 ∧ x_sz h' ≤ 7302250
set_option maxHeartbeats 4000000 in
set_option maxRecDepth 100000 in
theorem x_start (hlaw : x_Law) {p : Program} {e : Env} {s : State} {m : MethodId} {below : List Frame} {meth : Method} {c : Code} (l : Launch) (hmn : meth.name = "law") {b L : Nat} {xs : Nat → Int32} (hL : L ≤ 2560) (C0 : lw_At p s m meth c b L xs) : W p l e room_1 s m #[Value.ref b] below meth c s.heap [] 0 0 (lw_Z below #[Value.ref b] s) (entryFrame m ([Value.ref b] : List Value).toArray 4) := by
  obtain ⟨hx, hb, hr, hml, hown, hts, hX, hbl, hlocks, hgv⟩ := C0
  have hG : x_GW s := x_GW_of hts
  have hK : ∀ ci : Nat, ∃ (cC : ClassId) (iS : Nat → Nat), ∀ r : vw_C, vwCl[ci]? = some r → u_Kn s r.1 r.2.1 r.2.2 cC iS := by
    intro ci
    cases h : vwCl[ci]? with
    | none => exact ⟨0, fun _ => 0, fun r hr => by cases hr⟩
    | some r =>
      obtain ⟨cC, iS, hk⟩ := u_known (C := r.1) (T := r.2.1) (N := r.2.2) (n := r.2.2) (fun w hw => hG.use hw #[Value.ref b]) (x_clF h).2.2.1 (hG.use (x_clF h).1 _)
      exact ⟨cC, iS, fun r' hr' => by cases hr'; exact hk⟩
  obtain ⟨dC, hdC⟩ := Classical.axiomOfChoice hK
  obtain ⟨dI, hdI⟩ := Classical.axiomOfChoice hdC
  have hKD : x_K (dC, dI) s := fun ci r hc => hdI ci r hc
  have hs := flat_of_before _ hgv
  have hA : ∀ a : Nat, a < s.heap.size → ¬ (fun a => s.heap.size ≤ a) a := fun a ha => Nat.not_le.mpr ha
  obtain ⟨q, hq, hT⟩ := va_Tof (tm := .static x_sC x_sN x_sD) (ty := .int) (N := 3) (f := fun j => if j = 0 then .int 3 else if j = 1 then .int 9 else .int 99) (by decide) (hs (Cond.arrayOf (.static x_sC x_sN x_sD) .int) (by decide +kernel)) (va_eqt (hs (Cond.eq (.length (.static x_sC x_sN x_sD)) (.int 3)) (by decide +kernel)))
    (fun j hj => by
      rcases (show j = 0 ∨ j = 1 ∨ j = 2 by omega) with rfl | rfl | rfl
      · exact va_eqt (hs (Cond.eq (.elem (.static x_sC x_sN x_sD) (.int 0)) (.int 3)) (by decide +kernel))
      · exact va_eqt (hs (Cond.eq (.elem (.static x_sC x_sN x_sD) (.int 1)) (.int 9)) (by decide +kernel))
      · exact va_eqt (hs (Cond.eq (.elem (.static x_sC x_sN x_sD) (.int 2)) (.int 99)) (by decide +kernel))) hA
  have hZ : va_Z x_sC x_sN x_sD (.ref q) (fun a => s.heap.size ≤ a) s s.heap := va_Zof (hts _ (List.mem_of_getElem? (i := 358) (by decide +kernel))) (hts _ (List.mem_of_getElem? (i := 68) (by decide +kernel))) hq hA
  obtain ⟨tc, t1, t2, t3, t4, t5, t6, -⟩ := hT
  obtain ⟨scr, c1, c2, c3, c4, c5⟩ := hX
  have hql : q < s.heap.size := (Array.getElem?_eq_some_iff.mp t1).1
  have hlen : ((List.range L).map xs).length ≤ 2560 := by simpa using hL
  obtain ⟨h', hE, hl', hz'⟩ := hlaw ((List.range L).map xs) hlen
  have hRel : x_Rel (dC, dI) b q s.heap.size (x_h0 ((List.range L).map xs)) s s.heap := by
    refine ⟨hbl, hql, Nat.le_refl 2, rfl, hKD, hZ, fun k e0 hk => ?_⟩
    match k, hk with
    | 0, hk =>
      cases hk
      refine ⟨scr, c1, c2, c3, ⟨by simp [c4], by simp [c4], fun j v hj => ?_⟩, fun C hC => by cases hC⟩
      have hjl : j < L := by
        have := (List.getElem?_eq_some_iff.mp hj).1
        simpa using this
      rw [List.getElem?_map, List.getElem?_map, List.getElem?_range hjl] at hj
      cases hj
      exact c5 j hjl
    | 1, hk =>
      cases hk
      refine ⟨tc, t1, t2, t3, ⟨t4, t5, fun j v hj => ?_⟩, fun C hC => by cases hC⟩
      match j, hj with
      | 0, hj => cases hj; exact t6 0 (by decide)
      | 1, hj => cases hj; exact t6 1 (by decide)
      | 2, hj => cases hj; exact t6 2 (by decide)
      | n + 3, hj => simp at hj
    | n + 2, hk => simp [x_h0] at hk
  have hS := x_followed (l := l) (D := (dC, dI)) (b := b) (q := q) (base := s.heap.size) x_HL x_HB hE
  rw [lg_entry_eq]
  refine hS.2.2 xm_law rfl rfl p e room_1 s m #[Value.ref b] below meth c (lw_Z below #[Value.ref b] s) 600000 7302250 ⟨hx, hb, hml, hown, hG, Nat.le_refl _, Nat.le_refl _⟩ hmn rfl rfl ?_ s.heap [] 0 0 _ (by omega) (by omega) hRel (x_lv_entry (vs := [.ref 0]) (Nat.le_of_ble_eq_true rfl)) (fun z hz => by cases hz)
  intro H locs cells slots pc lsr ins h1 h2 hR2 hlocs hd hrok
  rcases hrok with ⟨rfl, v, hv, -⟩ | ⟨-, hrt, -⟩ | ⟨-, hrt, -⟩
  · cases hv
    exact va_forget hlocs (W.widen h1 h2 (lw_ret hx hb hr hlocks hd))
  · cases hrt
  · cases hrt
end
section
/-! step rules of our machine: rewrite rules, by program (wip/whole/gen14.py) -/
/-- a field read -/
def x_gf (h : xH) (o a b : Nat) (k : Value → Prop) : Prop := match h[o]? with
  | some (.inr (ci, fs)) => ci = a ∧ (match fs[b]? with
    | some v => k v
    | none => False)
  | _ => False
/-- a field written -/
def x_pf (tf : Nat → Nat → FieldType) (h : xH) (o a b : Nat) (v : Value) (k : xH → Prop) : Prop := match h[o]? with
  | some (.inr (ci, fs)) => (2 ≤ o ∧ ci = a ∧ b < fs.length ∧ x_fit (tf a b) v = true) ∧ k (h.set o (.inr (ci, fs.set b v)))
  | _ => False
/-- an int array -/
def xi (l : List Int32) : xE := .inl (.int, l.map Value.int)
def xl (l : List Int64) : xE := .inl (.long, l.map Value.long)
section XSR
variable {nm : Nat → String} {tf : Nat → Nat → FieldType} {fn : Nat → Nat} {Pg : List xM} {X : xR} {j : Nat} {rt : Option FieldType} {r : Option Value} {h' : xH} {is : List xI} {n a b pc : Nat} {ls : xL} {st : List Value} {h : xH}
def x_bind (q : Option (xL × List Value × xH)) (k : xL → List Value → xH → Prop) : Prop := match q with
  | some q => k q.1 q.2.1 q.2.2
  | none => False
theorem x_ev_op {ins : Instr} (hc : x_ctl (ins, n, a, b) = false) : x_ev nm tf fn Pg X j rt r h' ((ins, n, a, b) :: is) pc ls st h = x_bind (x_op nm tf fn (ins, n, a, b) ls st h) (fun ls st h => x_ev nm tf fn Pg X j rt r h' is (pc + n) ls st h) := by
  show x_one _ _ _ _ _ _ _ _ _ _ _ _ _ _ _ = _
  unfold x_one x_bind
  rw [if_pos hc]
  cases x_op nm tf fn (ins, n, a, b) ls st h <;> rfl
theorem xs_nil : x_ev nm tf fn Pg X j rt r h' [] pc ls st h = X j pc ls st h r h' := rfl
theorem xs_iconst_m1 : x_ev nm tf fn Pg X j rt r h' ((.iconst (-1), n, a, b) :: is) pc ls st h = x_ev nm tf fn Pg X j rt r h' is (pc + n) ls (.int (-1) :: st) h := by
  have e : Int32.ofInt (-1) = -1 := by decide
  rw [x_ev_op rfl]
  show x_ev nm tf fn Pg X j rt r h' is (pc + n) ls (.int (Int32.ofInt (-1)) :: st) h = _
  rw [e]
theorem xs_iconst_0 : x_ev nm tf fn Pg X j rt r h' ((.iconst 0, n, a, b) :: is) pc ls st h = x_ev nm tf fn Pg X j rt r h' is (pc + n) ls (.int (0) :: st) h := by
  have e : Int32.ofInt (0) = 0 := by decide
  rw [x_ev_op rfl]
  show x_ev nm tf fn Pg X j rt r h' is (pc + n) ls (.int (Int32.ofInt (0)) :: st) h = _
  rw [e]
theorem xs_iconst_1 : x_ev nm tf fn Pg X j rt r h' ((.iconst 1, n, a, b) :: is) pc ls st h = x_ev nm tf fn Pg X j rt r h' is (pc + n) ls (.int (1) :: st) h := by
  have e : Int32.ofInt (1) = 1 := by decide
  rw [x_ev_op rfl]
  show x_ev nm tf fn Pg X j rt r h' is (pc + n) ls (.int (Int32.ofInt (1)) :: st) h = _
  rw [e]
theorem xs_iconst_2 : x_ev nm tf fn Pg X j rt r h' ((.iconst 2, n, a, b) :: is) pc ls st h = x_ev nm tf fn Pg X j rt r h' is (pc + n) ls (.int (2) :: st) h := by
  have e : Int32.ofInt (2) = 2 := by decide
  rw [x_ev_op rfl]
  show x_ev nm tf fn Pg X j rt r h' is (pc + n) ls (.int (Int32.ofInt (2)) :: st) h = _
  rw [e]
theorem xs_iconst_3 : x_ev nm tf fn Pg X j rt r h' ((.iconst 3, n, a, b) :: is) pc ls st h = x_ev nm tf fn Pg X j rt r h' is (pc + n) ls (.int (3) :: st) h := by
  have e : Int32.ofInt (3) = 3 := by decide
  rw [x_ev_op rfl]
  show x_ev nm tf fn Pg X j rt r h' is (pc + n) ls (.int (Int32.ofInt (3)) :: st) h = _
  rw [e]
theorem xs_iconst_4 : x_ev nm tf fn Pg X j rt r h' ((.iconst 4, n, a, b) :: is) pc ls st h = x_ev nm tf fn Pg X j rt r h' is (pc + n) ls (.int (4) :: st) h := by
  have e : Int32.ofInt (4) = 4 := by decide
  rw [x_ev_op rfl]
  show x_ev nm tf fn Pg X j rt r h' is (pc + n) ls (.int (Int32.ofInt (4)) :: st) h = _
  rw [e]
theorem xs_iconst_5 : x_ev nm tf fn Pg X j rt r h' ((.iconst 5, n, a, b) :: is) pc ls st h = x_ev nm tf fn Pg X j rt r h' is (pc + n) ls (.int (5) :: st) h := by
  have e : Int32.ofInt (5) = 5 := by decide
  rw [x_ev_op rfl]
  show x_ev nm tf fn Pg X j rt r h' is (pc + n) ls (.int (Int32.ofInt (5)) :: st) h = _
  rw [e]
theorem xs_bipush_m10 : x_ev nm tf fn Pg X j rt r h' ((.bipush (-10), n, a, b) :: is) pc ls st h = x_ev nm tf fn Pg X j rt r h' is (pc + n) ls (.int (-10) :: st) h := by
  have e : (Int8.ofInt (-10)).toInt32 = -10 := by decide
  rw [x_ev_op rfl]
  show x_ev nm tf fn Pg X j rt r h' is (pc + n) ls (.int ((Int8.ofInt (-10)).toInt32) :: st) h = _
  rw [e]
theorem xs_bipush_m2 : x_ev nm tf fn Pg X j rt r h' ((.bipush (-2), n, a, b) :: is) pc ls st h = x_ev nm tf fn Pg X j rt r h' is (pc + n) ls (.int (-2) :: st) h := by
  have e : (Int8.ofInt (-2)).toInt32 = -2 := by decide
  rw [x_ev_op rfl]
  show x_ev nm tf fn Pg X j rt r h' is (pc + n) ls (.int ((Int8.ofInt (-2)).toInt32) :: st) h = _
  rw [e]
theorem xs_bipush_m3 : x_ev nm tf fn Pg X j rt r h' ((.bipush (-3), n, a, b) :: is) pc ls st h = x_ev nm tf fn Pg X j rt r h' is (pc + n) ls (.int (-3) :: st) h := by
  have e : (Int8.ofInt (-3)).toInt32 = -3 := by decide
  rw [x_ev_op rfl]
  show x_ev nm tf fn Pg X j rt r h' is (pc + n) ls (.int ((Int8.ofInt (-3)).toInt32) :: st) h = _
  rw [e]
theorem xs_bipush_m4 : x_ev nm tf fn Pg X j rt r h' ((.bipush (-4), n, a, b) :: is) pc ls st h = x_ev nm tf fn Pg X j rt r h' is (pc + n) ls (.int (-4) :: st) h := by
  have e : (Int8.ofInt (-4)).toInt32 = -4 := by decide
  rw [x_ev_op rfl]
  show x_ev nm tf fn Pg X j rt r h' is (pc + n) ls (.int ((Int8.ofInt (-4)).toInt32) :: st) h = _
  rw [e]
theorem xs_bipush_10 : x_ev nm tf fn Pg X j rt r h' ((.bipush 10, n, a, b) :: is) pc ls st h = x_ev nm tf fn Pg X j rt r h' is (pc + n) ls (.int (10) :: st) h := by
  have e : (Int8.ofInt (10)).toInt32 = 10 := by decide
  rw [x_ev_op rfl]
  show x_ev nm tf fn Pg X j rt r h' is (pc + n) ls (.int ((Int8.ofInt (10)).toInt32) :: st) h = _
  rw [e]
theorem xs_bipush_101 : x_ev nm tf fn Pg X j rt r h' ((.bipush 101, n, a, b) :: is) pc ls st h = x_ev nm tf fn Pg X j rt r h' is (pc + n) ls (.int (101) :: st) h := by
  have e : (Int8.ofInt (101)).toInt32 = 101 := by decide
  rw [x_ev_op rfl]
  show x_ev nm tf fn Pg X j rt r h' is (pc + n) ls (.int ((Int8.ofInt (101)).toInt32) :: st) h = _
  rw [e]
theorem xs_bipush_102 : x_ev nm tf fn Pg X j rt r h' ((.bipush 102, n, a, b) :: is) pc ls st h = x_ev nm tf fn Pg X j rt r h' is (pc + n) ls (.int (102) :: st) h := by
  have e : (Int8.ofInt (102)).toInt32 = 102 := by decide
  rw [x_ev_op rfl]
  show x_ev nm tf fn Pg X j rt r h' is (pc + n) ls (.int ((Int8.ofInt (102)).toInt32) :: st) h = _
  rw [e]
theorem xs_bipush_111 : x_ev nm tf fn Pg X j rt r h' ((.bipush 111, n, a, b) :: is) pc ls st h = x_ev nm tf fn Pg X j rt r h' is (pc + n) ls (.int (111) :: st) h := by
  have e : (Int8.ofInt (111)).toInt32 = 111 := by decide
  rw [x_ev_op rfl]
  show x_ev nm tf fn Pg X j rt r h' is (pc + n) ls (.int ((Int8.ofInt (111)).toInt32) :: st) h = _
  rw [e]
theorem xs_bipush_114 : x_ev nm tf fn Pg X j rt r h' ((.bipush 114, n, a, b) :: is) pc ls st h = x_ev nm tf fn Pg X j rt r h' is (pc + n) ls (.int (114) :: st) h := by
  have e : (Int8.ofInt (114)).toInt32 = 114 := by decide
  rw [x_ev_op rfl]
  show x_ev nm tf fn Pg X j rt r h' is (pc + n) ls (.int ((Int8.ofInt (114)).toInt32) :: st) h = _
  rw [e]
theorem xs_bipush_115 : x_ev nm tf fn Pg X j rt r h' ((.bipush 115, n, a, b) :: is) pc ls st h = x_ev nm tf fn Pg X j rt r h' is (pc + n) ls (.int (115) :: st) h := by
  have e : (Int8.ofInt (115)).toInt32 = 115 := by decide
  rw [x_ev_op rfl]
  show x_ev nm tf fn Pg X j rt r h' is (pc + n) ls (.int ((Int8.ofInt (115)).toInt32) :: st) h = _
  rw [e]
theorem xs_bipush_116 : x_ev nm tf fn Pg X j rt r h' ((.bipush 116, n, a, b) :: is) pc ls st h = x_ev nm tf fn Pg X j rt r h' is (pc + n) ls (.int (116) :: st) h := by
  have e : (Int8.ofInt (116)).toInt32 = 116 := by decide
  rw [x_ev_op rfl]
  show x_ev nm tf fn Pg X j rt r h' is (pc + n) ls (.int ((Int8.ofInt (116)).toInt32) :: st) h = _
  rw [e]
theorem xs_bipush_117 : x_ev nm tf fn Pg X j rt r h' ((.bipush 117, n, a, b) :: is) pc ls st h = x_ev nm tf fn Pg X j rt r h' is (pc + n) ls (.int (117) :: st) h := by
  have e : (Int8.ofInt (117)).toInt32 = 117 := by decide
  rw [x_ev_op rfl]
  show x_ev nm tf fn Pg X j rt r h' is (pc + n) ls (.int ((Int8.ofInt (117)).toInt32) :: st) h = _
  rw [e]
theorem xs_bipush_118 : x_ev nm tf fn Pg X j rt r h' ((.bipush 118, n, a, b) :: is) pc ls st h = x_ev nm tf fn Pg X j rt r h' is (pc + n) ls (.int (118) :: st) h := by
  have e : (Int8.ofInt (118)).toInt32 = 118 := by decide
  rw [x_ev_op rfl]
  show x_ev nm tf fn Pg X j rt r h' is (pc + n) ls (.int ((Int8.ofInt (118)).toInt32) :: st) h = _
  rw [e]
theorem xs_bipush_119 : x_ev nm tf fn Pg X j rt r h' ((.bipush 119, n, a, b) :: is) pc ls st h = x_ev nm tf fn Pg X j rt r h' is (pc + n) ls (.int (119) :: st) h := by
  have e : (Int8.ofInt (119)).toInt32 = 119 := by decide
  rw [x_ev_op rfl]
  show x_ev nm tf fn Pg X j rt r h' is (pc + n) ls (.int ((Int8.ofInt (119)).toInt32) :: st) h = _
  rw [e]
theorem xs_bipush_12 : x_ev nm tf fn Pg X j rt r h' ((.bipush 12, n, a, b) :: is) pc ls st h = x_ev nm tf fn Pg X j rt r h' is (pc + n) ls (.int (12) :: st) h := by
  have e : (Int8.ofInt (12)).toInt32 = 12 := by decide
  rw [x_ev_op rfl]
  show x_ev nm tf fn Pg X j rt r h' is (pc + n) ls (.int ((Int8.ofInt (12)).toInt32) :: st) h = _
  rw [e]
theorem xs_bipush_120 : x_ev nm tf fn Pg X j rt r h' ((.bipush 120, n, a, b) :: is) pc ls st h = x_ev nm tf fn Pg X j rt r h' is (pc + n) ls (.int (120) :: st) h := by
  have e : (Int8.ofInt (120)).toInt32 = 120 := by decide
  rw [x_ev_op rfl]
  show x_ev nm tf fn Pg X j rt r h' is (pc + n) ls (.int ((Int8.ofInt (120)).toInt32) :: st) h = _
  rw [e]
theorem xs_bipush_127 : x_ev nm tf fn Pg X j rt r h' ((.bipush 127, n, a, b) :: is) pc ls st h = x_ev nm tf fn Pg X j rt r h' is (pc + n) ls (.int (127) :: st) h := by
  have e : (Int8.ofInt (127)).toInt32 = 127 := by decide
  rw [x_ev_op rfl]
  show x_ev nm tf fn Pg X j rt r h' is (pc + n) ls (.int ((Int8.ofInt (127)).toInt32) :: st) h = _
  rw [e]
theorem xs_bipush_14 : x_ev nm tf fn Pg X j rt r h' ((.bipush 14, n, a, b) :: is) pc ls st h = x_ev nm tf fn Pg X j rt r h' is (pc + n) ls (.int (14) :: st) h := by
  have e : (Int8.ofInt (14)).toInt32 = 14 := by decide
  rw [x_ev_op rfl]
  show x_ev nm tf fn Pg X j rt r h' is (pc + n) ls (.int ((Int8.ofInt (14)).toInt32) :: st) h = _
  rw [e]
theorem xs_bipush_24 : x_ev nm tf fn Pg X j rt r h' ((.bipush 24, n, a, b) :: is) pc ls st h = x_ev nm tf fn Pg X j rt r h' is (pc + n) ls (.int (24) :: st) h := by
  have e : (Int8.ofInt (24)).toInt32 = 24 := by decide
  rw [x_ev_op rfl]
  show x_ev nm tf fn Pg X j rt r h' is (pc + n) ls (.int ((Int8.ofInt (24)).toInt32) :: st) h = _
  rw [e]
theorem xs_bipush_31 : x_ev nm tf fn Pg X j rt r h' ((.bipush 31, n, a, b) :: is) pc ls st h = x_ev nm tf fn Pg X j rt r h' is (pc + n) ls (.int (31) :: st) h := by
  have e : (Int8.ofInt (31)).toInt32 = 31 := by decide
  rw [x_ev_op rfl]
  show x_ev nm tf fn Pg X j rt r h' is (pc + n) ls (.int ((Int8.ofInt (31)).toInt32) :: st) h = _
  rw [e]
theorem xs_bipush_32 : x_ev nm tf fn Pg X j rt r h' ((.bipush 32, n, a, b) :: is) pc ls st h = x_ev nm tf fn Pg X j rt r h' is (pc + n) ls (.int (32) :: st) h := by
  have e : (Int8.ofInt (32)).toInt32 = 32 := by decide
  rw [x_ev_op rfl]
  show x_ev nm tf fn Pg X j rt r h' is (pc + n) ls (.int ((Int8.ofInt (32)).toInt32) :: st) h = _
  rw [e]
theorem xs_bipush_36 : x_ev nm tf fn Pg X j rt r h' ((.bipush 36, n, a, b) :: is) pc ls st h = x_ev nm tf fn Pg X j rt r h' is (pc + n) ls (.int (36) :: st) h := by
  have e : (Int8.ofInt (36)).toInt32 = 36 := by decide
  rw [x_ev_op rfl]
  show x_ev nm tf fn Pg X j rt r h' is (pc + n) ls (.int ((Int8.ofInt (36)).toInt32) :: st) h = _
  rw [e]
theorem xs_bipush_40 : x_ev nm tf fn Pg X j rt r h' ((.bipush 40, n, a, b) :: is) pc ls st h = x_ev nm tf fn Pg X j rt r h' is (pc + n) ls (.int (40) :: st) h := by
  have e : (Int8.ofInt (40)).toInt32 = 40 := by decide
  rw [x_ev_op rfl]
  show x_ev nm tf fn Pg X j rt r h' is (pc + n) ls (.int ((Int8.ofInt (40)).toInt32) :: st) h = _
  rw [e]
theorem xs_bipush_41 : x_ev nm tf fn Pg X j rt r h' ((.bipush 41, n, a, b) :: is) pc ls st h = x_ev nm tf fn Pg X j rt r h' is (pc + n) ls (.int (41) :: st) h := by
  have e : (Int8.ofInt (41)).toInt32 = 41 := by decide
  rw [x_ev_op rfl]
  show x_ev nm tf fn Pg X j rt r h' is (pc + n) ls (.int ((Int8.ofInt (41)).toInt32) :: st) h = _
  rw [e]
theorem xs_bipush_45 : x_ev nm tf fn Pg X j rt r h' ((.bipush 45, n, a, b) :: is) pc ls st h = x_ev nm tf fn Pg X j rt r h' is (pc + n) ls (.int (45) :: st) h := by
  have e : (Int8.ofInt (45)).toInt32 = 45 := by decide
  rw [x_ev_op rfl]
  show x_ev nm tf fn Pg X j rt r h' is (pc + n) ls (.int ((Int8.ofInt (45)).toInt32) :: st) h = _
  rw [e]
theorem xs_bipush_48 : x_ev nm tf fn Pg X j rt r h' ((.bipush 48, n, a, b) :: is) pc ls st h = x_ev nm tf fn Pg X j rt r h' is (pc + n) ls (.int (48) :: st) h := by
  have e : (Int8.ofInt (48)).toInt32 = 48 := by decide
  rw [x_ev_op rfl]
  show x_ev nm tf fn Pg X j rt r h' is (pc + n) ls (.int ((Int8.ofInt (48)).toInt32) :: st) h = _
  rw [e]
theorem xs_bipush_57 : x_ev nm tf fn Pg X j rt r h' ((.bipush 57, n, a, b) :: is) pc ls st h = x_ev nm tf fn Pg X j rt r h' is (pc + n) ls (.int (57) :: st) h := by
  have e : (Int8.ofInt (57)).toInt32 = 57 := by decide
  rw [x_ev_op rfl]
  show x_ev nm tf fn Pg X j rt r h' is (pc + n) ls (.int ((Int8.ofInt (57)).toInt32) :: st) h = _
  rw [e]
theorem xs_bipush_59 : x_ev nm tf fn Pg X j rt r h' ((.bipush 59, n, a, b) :: is) pc ls st h = x_ev nm tf fn Pg X j rt r h' is (pc + n) ls (.int (59) :: st) h := by
  have e : (Int8.ofInt (59)).toInt32 = 59 := by decide
  rw [x_ev_op rfl]
  show x_ev nm tf fn Pg X j rt r h' is (pc + n) ls (.int ((Int8.ofInt (59)).toInt32) :: st) h = _
  rw [e]
theorem xs_bipush_6 : x_ev nm tf fn Pg X j rt r h' ((.bipush 6, n, a, b) :: is) pc ls st h = x_ev nm tf fn Pg X j rt r h' is (pc + n) ls (.int (6) :: st) h := by
  have e : (Int8.ofInt (6)).toInt32 = 6 := by decide
  rw [x_ev_op rfl]
  show x_ev nm tf fn Pg X j rt r h' is (pc + n) ls (.int ((Int8.ofInt (6)).toInt32) :: st) h = _
  rw [e]
theorem xs_bipush_7 : x_ev nm tf fn Pg X j rt r h' ((.bipush 7, n, a, b) :: is) pc ls st h = x_ev nm tf fn Pg X j rt r h' is (pc + n) ls (.int (7) :: st) h := by
  have e : (Int8.ofInt (7)).toInt32 = 7 := by decide
  rw [x_ev_op rfl]
  show x_ev nm tf fn Pg X j rt r h' is (pc + n) ls (.int ((Int8.ofInt (7)).toInt32) :: st) h = _
  rw [e]
theorem xs_bipush_72 : x_ev nm tf fn Pg X j rt r h' ((.bipush 72, n, a, b) :: is) pc ls st h = x_ev nm tf fn Pg X j rt r h' is (pc + n) ls (.int (72) :: st) h := by
  have e : (Int8.ofInt (72)).toInt32 = 72 := by decide
  rw [x_ev_op rfl]
  show x_ev nm tf fn Pg X j rt r h' is (pc + n) ls (.int ((Int8.ofInt (72)).toInt32) :: st) h = _
  rw [e]
theorem xs_bipush_78 : x_ev nm tf fn Pg X j rt r h' ((.bipush 78, n, a, b) :: is) pc ls st h = x_ev nm tf fn Pg X j rt r h' is (pc + n) ls (.int (78) :: st) h := by
  have e : (Int8.ofInt (78)).toInt32 = 78 := by decide
  rw [x_ev_op rfl]
  show x_ev nm tf fn Pg X j rt r h' is (pc + n) ls (.int ((Int8.ofInt (78)).toInt32) :: st) h = _
  rw [e]
theorem xs_bipush_79 : x_ev nm tf fn Pg X j rt r h' ((.bipush 79, n, a, b) :: is) pc ls st h = x_ev nm tf fn Pg X j rt r h' is (pc + n) ls (.int (79) :: st) h := by
  have e : (Int8.ofInt (79)).toInt32 = 79 := by decide
  rw [x_ev_op rfl]
  show x_ev nm tf fn Pg X j rt r h' is (pc + n) ls (.int ((Int8.ofInt (79)).toInt32) :: st) h = _
  rw [e]
theorem xs_bipush_8 : x_ev nm tf fn Pg X j rt r h' ((.bipush 8, n, a, b) :: is) pc ls st h = x_ev nm tf fn Pg X j rt r h' is (pc + n) ls (.int (8) :: st) h := by
  have e : (Int8.ofInt (8)).toInt32 = 8 := by decide
  rw [x_ev_op rfl]
  show x_ev nm tf fn Pg X j rt r h' is (pc + n) ls (.int ((Int8.ofInt (8)).toInt32) :: st) h = _
  rw [e]
theorem xs_bipush_9 : x_ev nm tf fn Pg X j rt r h' ((.bipush 9, n, a, b) :: is) pc ls st h = x_ev nm tf fn Pg X j rt r h' is (pc + n) ls (.int (9) :: st) h := by
  have e : (Int8.ofInt (9)).toInt32 = 9 := by decide
  rw [x_ev_op rfl]
  show x_ev nm tf fn Pg X j rt r h' is (pc + n) ls (.int ((Int8.ofInt (9)).toInt32) :: st) h = _
  rw [e]
theorem xs_bipush_99 : x_ev nm tf fn Pg X j rt r h' ((.bipush 99, n, a, b) :: is) pc ls st h = x_ev nm tf fn Pg X j rt r h' is (pc + n) ls (.int (99) :: st) h := by
  have e : (Int8.ofInt (99)).toInt32 = 99 := by decide
  rw [x_ev_op rfl]
  show x_ev nm tf fn Pg X j rt r h' is (pc + n) ls (.int ((Int8.ofInt (99)).toInt32) :: st) h = _
  rw [e]
theorem xs_sipush_m1000 : x_ev nm tf fn Pg X j rt r h' ((.sipush (-1000), n, a, b) :: is) pc ls st h = x_ev nm tf fn Pg X j rt r h' is (pc + n) ls (.int (-1000) :: st) h := by
  have e : (Int16.ofInt (-1000)).toInt32 = -1000 := by decide
  rw [x_ev_op rfl]
  show x_ev nm tf fn Pg X j rt r h' is (pc + n) ls (.int ((Int16.ofInt (-1000)).toInt32) :: st) h = _
  rw [e]
theorem xs_sipush_1024 : x_ev nm tf fn Pg X j rt r h' ((.sipush 1024, n, a, b) :: is) pc ls st h = x_ev nm tf fn Pg X j rt r h' is (pc + n) ls (.int (1024) :: st) h := by
  have e : (Int16.ofInt (1024)).toInt32 = 1024 := by decide
  rw [x_ev_op rfl]
  show x_ev nm tf fn Pg X j rt r h' is (pc + n) ls (.int ((Int16.ofInt (1024)).toInt32) :: st) h = _
  rw [e]
theorem xs_sipush_149 : x_ev nm tf fn Pg X j rt r h' ((.sipush 149, n, a, b) :: is) pc ls st h = x_ev nm tf fn Pg X j rt r h' is (pc + n) ls (.int (149) :: st) h := by
  have e : (Int16.ofInt (149)).toInt32 = 149 := by decide
  rw [x_ev_op rfl]
  show x_ev nm tf fn Pg X j rt r h' is (pc + n) ls (.int ((Int16.ofInt (149)).toInt32) :: st) h = _
  rw [e]
theorem xs_sipush_256 : x_ev nm tf fn Pg X j rt r h' ((.sipush 256, n, a, b) :: is) pc ls st h = x_ev nm tf fn Pg X j rt r h' is (pc + n) ls (.int (256) :: st) h := by
  have e : (Int16.ofInt (256)).toInt32 = 256 := by decide
  rw [x_ev_op rfl]
  show x_ev nm tf fn Pg X j rt r h' is (pc + n) ls (.int ((Int16.ofInt (256)).toInt32) :: st) h = _
  rw [e]
theorem xs_sipush_4095 : x_ev nm tf fn Pg X j rt r h' ((.sipush 4095, n, a, b) :: is) pc ls st h = x_ev nm tf fn Pg X j rt r h' is (pc + n) ls (.int (4095) :: st) h := by
  have e : (Int16.ofInt (4095)).toInt32 = 4095 := by decide
  rw [x_ev_op rfl]
  show x_ev nm tf fn Pg X j rt r h' is (pc + n) ls (.int ((Int16.ofInt (4095)).toInt32) :: st) h = _
  rw [e]
theorem xs_sipush_745 : x_ev nm tf fn Pg X j rt r h' ((.sipush 745, n, a, b) :: is) pc ls st h = x_ev nm tf fn Pg X j rt r h' is (pc + n) ls (.int (745) :: st) h := by
  have e : (Int16.ofInt (745)).toInt32 = 745 := by decide
  rw [x_ev_op rfl]
  show x_ev nm tf fn Pg X j rt r h' is (pc + n) ls (.int ((Int16.ofInt (745)).toInt32) :: st) h = _
  rw [e]
theorem xs_sipush_894 : x_ev nm tf fn Pg X j rt r h' ((.sipush 894, n, a, b) :: is) pc ls st h = x_ev nm tf fn Pg X j rt r h' is (pc + n) ls (.int (894) :: st) h := by
  have e : (Int16.ofInt (894)).toInt32 = 894 := by decide
  rw [x_ev_op rfl]
  show x_ev nm tf fn Pg X j rt r h' is (pc + n) ls (.int ((Int16.ofInt (894)).toInt32) :: st) h = _
  rw [e]
theorem xs_sipush_911 : x_ev nm tf fn Pg X j rt r h' ((.sipush 911, n, a, b) :: is) pc ls st h = x_ev nm tf fn Pg X j rt r h' is (pc + n) ls (.int (911) :: st) h := by
  have e : (Int16.ofInt (911)).toInt32 = 911 := by decide
  rw [x_ev_op rfl]
  show x_ev nm tf fn Pg X j rt r h' is (pc + n) ls (.int ((Int16.ofInt (911)).toInt32) :: st) h = _
  rw [e]
theorem xs_ldc2 {i : Nat} : x_ev nm tf fn Pg X j rt r h' ((.ldc2_w i, n, a, b) :: is) pc ls st h = x_ev nm tf fn Pg X j rt r h' is (pc + n) ls (.long (Int64.ofNat a) :: st) h := by
  rw [x_ev_op rfl]
  rfl
theorem xs_iload_n_0 {x : Int32} : x_ev nm tf fn Pg X j rt r h' ((.iload_n 0, n, a, b) :: is) pc (some (.int x) :: ls) st h = x_ev nm tf fn Pg X j rt r h' is (pc + n) (some (.int x) :: ls) (.int x :: st) h := by
  rw [x_ev_op rfl]
  rfl
theorem xs_iload_n_1 {l0 : Option Value} {x : Int32} : x_ev nm tf fn Pg X j rt r h' ((.iload_n 1, n, a, b) :: is) pc (l0 :: some (.int x) :: ls) st h = x_ev nm tf fn Pg X j rt r h' is (pc + n) (l0 :: some (.int x) :: ls) (.int x :: st) h := by
  rw [x_ev_op rfl]
  rfl
theorem xs_iload_n_2 {l0 l1 : Option Value} {x : Int32} : x_ev nm tf fn Pg X j rt r h' ((.iload_n 2, n, a, b) :: is) pc (l0 :: l1 :: some (.int x) :: ls) st h = x_ev nm tf fn Pg X j rt r h' is (pc + n) (l0 :: l1 :: some (.int x) :: ls) (.int x :: st) h := by
  rw [x_ev_op rfl]
  rfl
theorem xs_iload_n_3 {l0 l1 l2 : Option Value} {x : Int32} : x_ev nm tf fn Pg X j rt r h' ((.iload_n 3, n, a, b) :: is) pc (l0 :: l1 :: l2 :: some (.int x) :: ls) st h = x_ev nm tf fn Pg X j rt r h' is (pc + n) (l0 :: l1 :: l2 :: some (.int x) :: ls) (.int x :: st) h := by
  rw [x_ev_op rfl]
  rfl
theorem xs_iload_10 {l0 l1 l2 l3 l4 l5 l6 l7 l8 l9 : Option Value} {x : Int32} : x_ev nm tf fn Pg X j rt r h' ((.iload 10, n, a, b) :: is) pc (l0 :: l1 :: l2 :: l3 :: l4 :: l5 :: l6 :: l7 :: l8 :: l9 :: some (.int x) :: ls) st h = x_ev nm tf fn Pg X j rt r h' is (pc + n) (l0 :: l1 :: l2 :: l3 :: l4 :: l5 :: l6 :: l7 :: l8 :: l9 :: some (.int x) :: ls) (.int x :: st) h := by
  rw [x_ev_op rfl]
  rfl
theorem xs_iload_12 {l0 l1 l2 l3 l4 l5 l6 l7 l8 l9 l10 l11 : Option Value} {x : Int32} : x_ev nm tf fn Pg X j rt r h' ((.iload 12, n, a, b) :: is) pc (l0 :: l1 :: l2 :: l3 :: l4 :: l5 :: l6 :: l7 :: l8 :: l9 :: l10 :: l11 :: some (.int x) :: ls) st h = x_ev nm tf fn Pg X j rt r h' is (pc + n) (l0 :: l1 :: l2 :: l3 :: l4 :: l5 :: l6 :: l7 :: l8 :: l9 :: l10 :: l11 :: some (.int x) :: ls) (.int x :: st) h := by
  rw [x_ev_op rfl]
  rfl
theorem xs_iload_13 {l0 l1 l2 l3 l4 l5 l6 l7 l8 l9 l10 l11 l12 : Option Value} {x : Int32} : x_ev nm tf fn Pg X j rt r h' ((.iload 13, n, a, b) :: is) pc (l0 :: l1 :: l2 :: l3 :: l4 :: l5 :: l6 :: l7 :: l8 :: l9 :: l10 :: l11 :: l12 :: some (.int x) :: ls) st h = x_ev nm tf fn Pg X j rt r h' is (pc + n) (l0 :: l1 :: l2 :: l3 :: l4 :: l5 :: l6 :: l7 :: l8 :: l9 :: l10 :: l11 :: l12 :: some (.int x) :: ls) (.int x :: st) h := by
  rw [x_ev_op rfl]
  rfl
theorem xs_iload_4 {l0 l1 l2 l3 : Option Value} {x : Int32} : x_ev nm tf fn Pg X j rt r h' ((.iload 4, n, a, b) :: is) pc (l0 :: l1 :: l2 :: l3 :: some (.int x) :: ls) st h = x_ev nm tf fn Pg X j rt r h' is (pc + n) (l0 :: l1 :: l2 :: l3 :: some (.int x) :: ls) (.int x :: st) h := by
  rw [x_ev_op rfl]
  rfl
theorem xs_iload_5 {l0 l1 l2 l3 l4 : Option Value} {x : Int32} : x_ev nm tf fn Pg X j rt r h' ((.iload 5, n, a, b) :: is) pc (l0 :: l1 :: l2 :: l3 :: l4 :: some (.int x) :: ls) st h = x_ev nm tf fn Pg X j rt r h' is (pc + n) (l0 :: l1 :: l2 :: l3 :: l4 :: some (.int x) :: ls) (.int x :: st) h := by
  rw [x_ev_op rfl]
  rfl
theorem xs_iload_6 {l0 l1 l2 l3 l4 l5 : Option Value} {x : Int32} : x_ev nm tf fn Pg X j rt r h' ((.iload 6, n, a, b) :: is) pc (l0 :: l1 :: l2 :: l3 :: l4 :: l5 :: some (.int x) :: ls) st h = x_ev nm tf fn Pg X j rt r h' is (pc + n) (l0 :: l1 :: l2 :: l3 :: l4 :: l5 :: some (.int x) :: ls) (.int x :: st) h := by
  rw [x_ev_op rfl]
  rfl
theorem xs_iload_7 {l0 l1 l2 l3 l4 l5 l6 : Option Value} {x : Int32} : x_ev nm tf fn Pg X j rt r h' ((.iload 7, n, a, b) :: is) pc (l0 :: l1 :: l2 :: l3 :: l4 :: l5 :: l6 :: some (.int x) :: ls) st h = x_ev nm tf fn Pg X j rt r h' is (pc + n) (l0 :: l1 :: l2 :: l3 :: l4 :: l5 :: l6 :: some (.int x) :: ls) (.int x :: st) h := by
  rw [x_ev_op rfl]
  rfl
theorem xs_iload_8 {l0 l1 l2 l3 l4 l5 l6 l7 : Option Value} {x : Int32} : x_ev nm tf fn Pg X j rt r h' ((.iload 8, n, a, b) :: is) pc (l0 :: l1 :: l2 :: l3 :: l4 :: l5 :: l6 :: l7 :: some (.int x) :: ls) st h = x_ev nm tf fn Pg X j rt r h' is (pc + n) (l0 :: l1 :: l2 :: l3 :: l4 :: l5 :: l6 :: l7 :: some (.int x) :: ls) (.int x :: st) h := by
  rw [x_ev_op rfl]
  rfl
theorem xs_iload_9 {l0 l1 l2 l3 l4 l5 l6 l7 l8 : Option Value} {x : Int32} : x_ev nm tf fn Pg X j rt r h' ((.iload 9, n, a, b) :: is) pc (l0 :: l1 :: l2 :: l3 :: l4 :: l5 :: l6 :: l7 :: l8 :: some (.int x) :: ls) st h = x_ev nm tf fn Pg X j rt r h' is (pc + n) (l0 :: l1 :: l2 :: l3 :: l4 :: l5 :: l6 :: l7 :: l8 :: some (.int x) :: ls) (.int x :: st) h := by
  rw [x_ev_op rfl]
  rfl
theorem xs_lload_n_1 {l0 : Option Value} {x : Int64} : x_ev nm tf fn Pg X j rt r h' ((.lload_n 1, n, a, b) :: is) pc (l0 :: some (.long x) :: ls) st h = x_ev nm tf fn Pg X j rt r h' is (pc + n) (l0 :: some (.long x) :: ls) (.long x :: st) h := by
  rw [x_ev_op rfl]
  rfl
theorem xs_lload_n_3 {l0 l1 l2 : Option Value} {x : Int64} : x_ev nm tf fn Pg X j rt r h' ((.lload_n 3, n, a, b) :: is) pc (l0 :: l1 :: l2 :: some (.long x) :: ls) st h = x_ev nm tf fn Pg X j rt r h' is (pc + n) (l0 :: l1 :: l2 :: some (.long x) :: ls) (.long x :: st) h := by
  rw [x_ev_op rfl]
  rfl
theorem xs_lload_10 {l0 l1 l2 l3 l4 l5 l6 l7 l8 l9 : Option Value} {x : Int64} : x_ev nm tf fn Pg X j rt r h' ((.lload 10, n, a, b) :: is) pc (l0 :: l1 :: l2 :: l3 :: l4 :: l5 :: l6 :: l7 :: l8 :: l9 :: some (.long x) :: ls) st h = x_ev nm tf fn Pg X j rt r h' is (pc + n) (l0 :: l1 :: l2 :: l3 :: l4 :: l5 :: l6 :: l7 :: l8 :: l9 :: some (.long x) :: ls) (.long x :: st) h := by
  rw [x_ev_op rfl]
  rfl
theorem xs_lload_5 {l0 l1 l2 l3 l4 : Option Value} {x : Int64} : x_ev nm tf fn Pg X j rt r h' ((.lload 5, n, a, b) :: is) pc (l0 :: l1 :: l2 :: l3 :: l4 :: some (.long x) :: ls) st h = x_ev nm tf fn Pg X j rt r h' is (pc + n) (l0 :: l1 :: l2 :: l3 :: l4 :: some (.long x) :: ls) (.long x :: st) h := by
  rw [x_ev_op rfl]
  rfl
theorem xs_aload_n_0 {x : Nat} : x_ev nm tf fn Pg X j rt r h' ((.aload_n 0, n, a, b) :: is) pc (some (.ref x) :: ls) st h = x_ev nm tf fn Pg X j rt r h' is (pc + n) (some (.ref x) :: ls) (.ref x :: st) h := by
  rw [x_ev_op rfl]
  rfl
theorem xs_aload_n_1 {l0 : Option Value} {x : Nat} : x_ev nm tf fn Pg X j rt r h' ((.aload_n 1, n, a, b) :: is) pc (l0 :: some (.ref x) :: ls) st h = x_ev nm tf fn Pg X j rt r h' is (pc + n) (l0 :: some (.ref x) :: ls) (.ref x :: st) h := by
  rw [x_ev_op rfl]
  rfl
theorem xs_aload_n_2 {l0 l1 : Option Value} {x : Nat} : x_ev nm tf fn Pg X j rt r h' ((.aload_n 2, n, a, b) :: is) pc (l0 :: l1 :: some (.ref x) :: ls) st h = x_ev nm tf fn Pg X j rt r h' is (pc + n) (l0 :: l1 :: some (.ref x) :: ls) (.ref x :: st) h := by
  rw [x_ev_op rfl]
  rfl
theorem xs_aload_n_3 {l0 l1 l2 : Option Value} {x : Nat} : x_ev nm tf fn Pg X j rt r h' ((.aload_n 3, n, a, b) :: is) pc (l0 :: l1 :: l2 :: some (.ref x) :: ls) st h = x_ev nm tf fn Pg X j rt r h' is (pc + n) (l0 :: l1 :: l2 :: some (.ref x) :: ls) (.ref x :: st) h := by
  rw [x_ev_op rfl]
  rfl
theorem xs_aload_5 {l0 l1 l2 l3 l4 : Option Value} {x : Nat} : x_ev nm tf fn Pg X j rt r h' ((.aload 5, n, a, b) :: is) pc (l0 :: l1 :: l2 :: l3 :: l4 :: some (.ref x) :: ls) st h = x_ev nm tf fn Pg X j rt r h' is (pc + n) (l0 :: l1 :: l2 :: l3 :: l4 :: some (.ref x) :: ls) (.ref x :: st) h := by
  rw [x_ev_op rfl]
  rfl
theorem x_sti_at {i : Nat} {x : Int32} (hi : i < ls.length) : x_sti ls i (.int x :: st) h = some (x_put ls i (.int x), st, h) := by
  simp [x_sti, hi]
theorem x_sta_at {i : Nat} {x : Nat} (hi : i < ls.length) : x_sta ls i (.ref x :: st) h = some (x_put ls i (.ref x), st, h) := by
  simp [x_sta, hi]
theorem x_stl_at {i : Nat} {x : Int64} (hi : i + 1 < ls.length) : x_stl ls i (.long x :: st) h = some (x_put2 ls i (.long x), st, h) := by
  simp [x_stl, hi]
theorem xs_istore_n_1_i {lz : Option Value} {y : Int32} {x : Int32} : x_ev nm tf fn Pg X j rt r h' ((.istore_n 1, n, a, b) :: is) pc (some (.int y) :: lz :: ls) (.int x :: st) h = x_ev nm tf fn Pg X j rt r h' is (pc + n) (some (.int y) :: some (.int x) :: ls) st h := by
  rw [x_ev_op rfl]
  show x_bind (x_sti (some (.int y) :: lz :: ls) 1 (.int x :: st) h) _ = _
  rw [x_sti_at (by simp)]
  rfl
theorem xs_istore_n_1_a {lz : Option Value} {y : Nat} {x : Int32} : x_ev nm tf fn Pg X j rt r h' ((.istore_n 1, n, a, b) :: is) pc (some (.ref y) :: lz :: ls) (.int x :: st) h = x_ev nm tf fn Pg X j rt r h' is (pc + n) (some (.ref y) :: some (.int x) :: ls) st h := by
  rw [x_ev_op rfl]
  show x_bind (x_sti (some (.ref y) :: lz :: ls) 1 (.int x :: st) h) _ = _
  rw [x_sti_at (by simp)]
  rfl
theorem xs_istore_n_1_n {lz : Option Value} {x : Int32} : x_ev nm tf fn Pg X j rt r h' ((.istore_n 1, n, a, b) :: is) pc (none :: lz :: ls) (.int x :: st) h = x_ev nm tf fn Pg X j rt r h' is (pc + n) (none :: some (.int x) :: ls) st h := by
  rw [x_ev_op rfl]
  show x_bind (x_sti (none :: lz :: ls) 1 (.int x :: st) h) _ = _
  rw [x_sti_at (by simp)]
  rfl
theorem xs_istore_n_1_l {lz : Option Value} {y : Int64} {x : Int32} : x_ev nm tf fn Pg X j rt r h' ((.istore_n 1, n, a, b) :: is) pc (some (.long y) :: lz :: ls) (.int x :: st) h = x_ev nm tf fn Pg X j rt r h' is (pc + n) (none :: some (.int x) :: ls) st h := by
  rw [x_ev_op rfl]
  show x_bind (x_sti (some (.long y) :: lz :: ls) 1 (.int x :: st) h) _ = _
  rw [x_sti_at (by simp)]
  rfl
theorem xs_istore_n_2_i {l0 lz : Option Value} {y : Int32} {x : Int32} : x_ev nm tf fn Pg X j rt r h' ((.istore_n 2, n, a, b) :: is) pc (l0 :: some (.int y) :: lz :: ls) (.int x :: st) h = x_ev nm tf fn Pg X j rt r h' is (pc + n) (l0 :: some (.int y) :: some (.int x) :: ls) st h := by
  rw [x_ev_op rfl]
  show x_bind (x_sti (l0 :: some (.int y) :: lz :: ls) 2 (.int x :: st) h) _ = _
  rw [x_sti_at (by simp)]
  rfl
theorem xs_istore_n_2_a {l0 lz : Option Value} {y : Nat} {x : Int32} : x_ev nm tf fn Pg X j rt r h' ((.istore_n 2, n, a, b) :: is) pc (l0 :: some (.ref y) :: lz :: ls) (.int x :: st) h = x_ev nm tf fn Pg X j rt r h' is (pc + n) (l0 :: some (.ref y) :: some (.int x) :: ls) st h := by
  rw [x_ev_op rfl]
  show x_bind (x_sti (l0 :: some (.ref y) :: lz :: ls) 2 (.int x :: st) h) _ = _
  rw [x_sti_at (by simp)]
  rfl
theorem xs_istore_n_2_n {l0 lz : Option Value} {x : Int32} : x_ev nm tf fn Pg X j rt r h' ((.istore_n 2, n, a, b) :: is) pc (l0 :: none :: lz :: ls) (.int x :: st) h = x_ev nm tf fn Pg X j rt r h' is (pc + n) (l0 :: none :: some (.int x) :: ls) st h := by
  rw [x_ev_op rfl]
  show x_bind (x_sti (l0 :: none :: lz :: ls) 2 (.int x :: st) h) _ = _
  rw [x_sti_at (by simp)]
  rfl
theorem xs_istore_n_2_l {l0 lz : Option Value} {y : Int64} {x : Int32} : x_ev nm tf fn Pg X j rt r h' ((.istore_n 2, n, a, b) :: is) pc (l0 :: some (.long y) :: lz :: ls) (.int x :: st) h = x_ev nm tf fn Pg X j rt r h' is (pc + n) (l0 :: none :: some (.int x) :: ls) st h := by
  rw [x_ev_op rfl]
  show x_bind (x_sti (l0 :: some (.long y) :: lz :: ls) 2 (.int x :: st) h) _ = _
  rw [x_sti_at (by simp)]
  rfl
theorem xs_istore_n_3_i {l0 l1 lz : Option Value} {y : Int32} {x : Int32} : x_ev nm tf fn Pg X j rt r h' ((.istore_n 3, n, a, b) :: is) pc (l0 :: l1 :: some (.int y) :: lz :: ls) (.int x :: st) h = x_ev nm tf fn Pg X j rt r h' is (pc + n) (l0 :: l1 :: some (.int y) :: some (.int x) :: ls) st h := by
  rw [x_ev_op rfl]
  show x_bind (x_sti (l0 :: l1 :: some (.int y) :: lz :: ls) 3 (.int x :: st) h) _ = _
  rw [x_sti_at (by simp)]
  rfl
theorem xs_istore_n_3_a {l0 l1 lz : Option Value} {y : Nat} {x : Int32} : x_ev nm tf fn Pg X j rt r h' ((.istore_n 3, n, a, b) :: is) pc (l0 :: l1 :: some (.ref y) :: lz :: ls) (.int x :: st) h = x_ev nm tf fn Pg X j rt r h' is (pc + n) (l0 :: l1 :: some (.ref y) :: some (.int x) :: ls) st h := by
  rw [x_ev_op rfl]
  show x_bind (x_sti (l0 :: l1 :: some (.ref y) :: lz :: ls) 3 (.int x :: st) h) _ = _
  rw [x_sti_at (by simp)]
  rfl
theorem xs_istore_n_3_n {l0 l1 lz : Option Value} {x : Int32} : x_ev nm tf fn Pg X j rt r h' ((.istore_n 3, n, a, b) :: is) pc (l0 :: l1 :: none :: lz :: ls) (.int x :: st) h = x_ev nm tf fn Pg X j rt r h' is (pc + n) (l0 :: l1 :: none :: some (.int x) :: ls) st h := by
  rw [x_ev_op rfl]
  show x_bind (x_sti (l0 :: l1 :: none :: lz :: ls) 3 (.int x :: st) h) _ = _
  rw [x_sti_at (by simp)]
  rfl
theorem xs_istore_n_3_l {l0 l1 lz : Option Value} {y : Int64} {x : Int32} : x_ev nm tf fn Pg X j rt r h' ((.istore_n 3, n, a, b) :: is) pc (l0 :: l1 :: some (.long y) :: lz :: ls) (.int x :: st) h = x_ev nm tf fn Pg X j rt r h' is (pc + n) (l0 :: l1 :: none :: some (.int x) :: ls) st h := by
  rw [x_ev_op rfl]
  show x_bind (x_sti (l0 :: l1 :: some (.long y) :: lz :: ls) 3 (.int x :: st) h) _ = _
  rw [x_sti_at (by simp)]
  rfl
theorem xs_istore_10_i {l0 l1 l2 l3 l4 l5 l6 l7 l8 lz : Option Value} {y : Int32} {x : Int32} : x_ev nm tf fn Pg X j rt r h' ((.istore 10, n, a, b) :: is) pc (l0 :: l1 :: l2 :: l3 :: l4 :: l5 :: l6 :: l7 :: l8 :: some (.int y) :: lz :: ls) (.int x :: st) h = x_ev nm tf fn Pg X j rt r h' is (pc + n) (l0 :: l1 :: l2 :: l3 :: l4 :: l5 :: l6 :: l7 :: l8 :: some (.int y) :: some (.int x) :: ls) st h := by
  rw [x_ev_op rfl]
  show x_bind (x_sti (l0 :: l1 :: l2 :: l3 :: l4 :: l5 :: l6 :: l7 :: l8 :: some (.int y) :: lz :: ls) 10 (.int x :: st) h) _ = _
  rw [x_sti_at (by simp)]
  rfl
theorem xs_istore_10_a {l0 l1 l2 l3 l4 l5 l6 l7 l8 lz : Option Value} {y : Nat} {x : Int32} : x_ev nm tf fn Pg X j rt r h' ((.istore 10, n, a, b) :: is) pc (l0 :: l1 :: l2 :: l3 :: l4 :: l5 :: l6 :: l7 :: l8 :: some (.ref y) :: lz :: ls) (.int x :: st) h = x_ev nm tf fn Pg X j rt r h' is (pc + n) (l0 :: l1 :: l2 :: l3 :: l4 :: l5 :: l6 :: l7 :: l8 :: some (.ref y) :: some (.int x) :: ls) st h := by
  rw [x_ev_op rfl]
  show x_bind (x_sti (l0 :: l1 :: l2 :: l3 :: l4 :: l5 :: l6 :: l7 :: l8 :: some (.ref y) :: lz :: ls) 10 (.int x :: st) h) _ = _
  rw [x_sti_at (by simp)]
  rfl
theorem xs_istore_10_n {l0 l1 l2 l3 l4 l5 l6 l7 l8 lz : Option Value} {x : Int32} : x_ev nm tf fn Pg X j rt r h' ((.istore 10, n, a, b) :: is) pc (l0 :: l1 :: l2 :: l3 :: l4 :: l5 :: l6 :: l7 :: l8 :: none :: lz :: ls) (.int x :: st) h = x_ev nm tf fn Pg X j rt r h' is (pc + n) (l0 :: l1 :: l2 :: l3 :: l4 :: l5 :: l6 :: l7 :: l8 :: none :: some (.int x) :: ls) st h := by
  rw [x_ev_op rfl]
  show x_bind (x_sti (l0 :: l1 :: l2 :: l3 :: l4 :: l5 :: l6 :: l7 :: l8 :: none :: lz :: ls) 10 (.int x :: st) h) _ = _
  rw [x_sti_at (by simp)]
  rfl
theorem xs_istore_10_l {l0 l1 l2 l3 l4 l5 l6 l7 l8 lz : Option Value} {y : Int64} {x : Int32} : x_ev nm tf fn Pg X j rt r h' ((.istore 10, n, a, b) :: is) pc (l0 :: l1 :: l2 :: l3 :: l4 :: l5 :: l6 :: l7 :: l8 :: some (.long y) :: lz :: ls) (.int x :: st) h = x_ev nm tf fn Pg X j rt r h' is (pc + n) (l0 :: l1 :: l2 :: l3 :: l4 :: l5 :: l6 :: l7 :: l8 :: none :: some (.int x) :: ls) st h := by
  rw [x_ev_op rfl]
  show x_bind (x_sti (l0 :: l1 :: l2 :: l3 :: l4 :: l5 :: l6 :: l7 :: l8 :: some (.long y) :: lz :: ls) 10 (.int x :: st) h) _ = _
  rw [x_sti_at (by simp)]
  rfl
theorem xs_istore_12_i {l0 l1 l2 l3 l4 l5 l6 l7 l8 l9 l10 lz : Option Value} {y : Int32} {x : Int32} : x_ev nm tf fn Pg X j rt r h' ((.istore 12, n, a, b) :: is) pc (l0 :: l1 :: l2 :: l3 :: l4 :: l5 :: l6 :: l7 :: l8 :: l9 :: l10 :: some (.int y) :: lz :: ls) (.int x :: st) h = x_ev nm tf fn Pg X j rt r h' is (pc + n) (l0 :: l1 :: l2 :: l3 :: l4 :: l5 :: l6 :: l7 :: l8 :: l9 :: l10 :: some (.int y) :: some (.int x) :: ls) st h := by
  rw [x_ev_op rfl]
  show x_bind (x_sti (l0 :: l1 :: l2 :: l3 :: l4 :: l5 :: l6 :: l7 :: l8 :: l9 :: l10 :: some (.int y) :: lz :: ls) 12 (.int x :: st) h) _ = _
  rw [x_sti_at (by simp)]
  rfl
theorem xs_istore_12_a {l0 l1 l2 l3 l4 l5 l6 l7 l8 l9 l10 lz : Option Value} {y : Nat} {x : Int32} : x_ev nm tf fn Pg X j rt r h' ((.istore 12, n, a, b) :: is) pc (l0 :: l1 :: l2 :: l3 :: l4 :: l5 :: l6 :: l7 :: l8 :: l9 :: l10 :: some (.ref y) :: lz :: ls) (.int x :: st) h = x_ev nm tf fn Pg X j rt r h' is (pc + n) (l0 :: l1 :: l2 :: l3 :: l4 :: l5 :: l6 :: l7 :: l8 :: l9 :: l10 :: some (.ref y) :: some (.int x) :: ls) st h := by
  rw [x_ev_op rfl]
  show x_bind (x_sti (l0 :: l1 :: l2 :: l3 :: l4 :: l5 :: l6 :: l7 :: l8 :: l9 :: l10 :: some (.ref y) :: lz :: ls) 12 (.int x :: st) h) _ = _
  rw [x_sti_at (by simp)]
  rfl
theorem xs_istore_12_n {l0 l1 l2 l3 l4 l5 l6 l7 l8 l9 l10 lz : Option Value} {x : Int32} : x_ev nm tf fn Pg X j rt r h' ((.istore 12, n, a, b) :: is) pc (l0 :: l1 :: l2 :: l3 :: l4 :: l5 :: l6 :: l7 :: l8 :: l9 :: l10 :: none :: lz :: ls) (.int x :: st) h = x_ev nm tf fn Pg X j rt r h' is (pc + n) (l0 :: l1 :: l2 :: l3 :: l4 :: l5 :: l6 :: l7 :: l8 :: l9 :: l10 :: none :: some (.int x) :: ls) st h := by
  rw [x_ev_op rfl]
  show x_bind (x_sti (l0 :: l1 :: l2 :: l3 :: l4 :: l5 :: l6 :: l7 :: l8 :: l9 :: l10 :: none :: lz :: ls) 12 (.int x :: st) h) _ = _
  rw [x_sti_at (by simp)]
  rfl
theorem xs_istore_12_l {l0 l1 l2 l3 l4 l5 l6 l7 l8 l9 l10 lz : Option Value} {y : Int64} {x : Int32} : x_ev nm tf fn Pg X j rt r h' ((.istore 12, n, a, b) :: is) pc (l0 :: l1 :: l2 :: l3 :: l4 :: l5 :: l6 :: l7 :: l8 :: l9 :: l10 :: some (.long y) :: lz :: ls) (.int x :: st) h = x_ev nm tf fn Pg X j rt r h' is (pc + n) (l0 :: l1 :: l2 :: l3 :: l4 :: l5 :: l6 :: l7 :: l8 :: l9 :: l10 :: none :: some (.int x) :: ls) st h := by
  rw [x_ev_op rfl]
  show x_bind (x_sti (l0 :: l1 :: l2 :: l3 :: l4 :: l5 :: l6 :: l7 :: l8 :: l9 :: l10 :: some (.long y) :: lz :: ls) 12 (.int x :: st) h) _ = _
  rw [x_sti_at (by simp)]
  rfl
theorem xs_istore_13_i {l0 l1 l2 l3 l4 l5 l6 l7 l8 l9 l10 l11 lz : Option Value} {y : Int32} {x : Int32} : x_ev nm tf fn Pg X j rt r h' ((.istore 13, n, a, b) :: is) pc (l0 :: l1 :: l2 :: l3 :: l4 :: l5 :: l6 :: l7 :: l8 :: l9 :: l10 :: l11 :: some (.int y) :: lz :: ls) (.int x :: st) h = x_ev nm tf fn Pg X j rt r h' is (pc + n) (l0 :: l1 :: l2 :: l3 :: l4 :: l5 :: l6 :: l7 :: l8 :: l9 :: l10 :: l11 :: some (.int y) :: some (.int x) :: ls) st h := by
  rw [x_ev_op rfl]
  show x_bind (x_sti (l0 :: l1 :: l2 :: l3 :: l4 :: l5 :: l6 :: l7 :: l8 :: l9 :: l10 :: l11 :: some (.int y) :: lz :: ls) 13 (.int x :: st) h) _ = _
  rw [x_sti_at (by simp)]
  rfl
theorem xs_istore_13_a {l0 l1 l2 l3 l4 l5 l6 l7 l8 l9 l10 l11 lz : Option Value} {y : Nat} {x : Int32} : x_ev nm tf fn Pg X j rt r h' ((.istore 13, n, a, b) :: is) pc (l0 :: l1 :: l2 :: l3 :: l4 :: l5 :: l6 :: l7 :: l8 :: l9 :: l10 :: l11 :: some (.ref y) :: lz :: ls) (.int x :: st) h = x_ev nm tf fn Pg X j rt r h' is (pc + n) (l0 :: l1 :: l2 :: l3 :: l4 :: l5 :: l6 :: l7 :: l8 :: l9 :: l10 :: l11 :: some (.ref y) :: some (.int x) :: ls) st h := by
  rw [x_ev_op rfl]
  show x_bind (x_sti (l0 :: l1 :: l2 :: l3 :: l4 :: l5 :: l6 :: l7 :: l8 :: l9 :: l10 :: l11 :: some (.ref y) :: lz :: ls) 13 (.int x :: st) h) _ = _
  rw [x_sti_at (by simp)]
  rfl
theorem xs_istore_13_n {l0 l1 l2 l3 l4 l5 l6 l7 l8 l9 l10 l11 lz : Option Value} {x : Int32} : x_ev nm tf fn Pg X j rt r h' ((.istore 13, n, a, b) :: is) pc (l0 :: l1 :: l2 :: l3 :: l4 :: l5 :: l6 :: l7 :: l8 :: l9 :: l10 :: l11 :: none :: lz :: ls) (.int x :: st) h = x_ev nm tf fn Pg X j rt r h' is (pc + n) (l0 :: l1 :: l2 :: l3 :: l4 :: l5 :: l6 :: l7 :: l8 :: l9 :: l10 :: l11 :: none :: some (.int x) :: ls) st h := by
  rw [x_ev_op rfl]
  show x_bind (x_sti (l0 :: l1 :: l2 :: l3 :: l4 :: l5 :: l6 :: l7 :: l8 :: l9 :: l10 :: l11 :: none :: lz :: ls) 13 (.int x :: st) h) _ = _
  rw [x_sti_at (by simp)]
  rfl
theorem xs_istore_13_l {l0 l1 l2 l3 l4 l5 l6 l7 l8 l9 l10 l11 lz : Option Value} {y : Int64} {x : Int32} : x_ev nm tf fn Pg X j rt r h' ((.istore 13, n, a, b) :: is) pc (l0 :: l1 :: l2 :: l3 :: l4 :: l5 :: l6 :: l7 :: l8 :: l9 :: l10 :: l11 :: some (.long y) :: lz :: ls) (.int x :: st) h = x_ev nm tf fn Pg X j rt r h' is (pc + n) (l0 :: l1 :: l2 :: l3 :: l4 :: l5 :: l6 :: l7 :: l8 :: l9 :: l10 :: l11 :: none :: some (.int x) :: ls) st h := by
  rw [x_ev_op rfl]
  show x_bind (x_sti (l0 :: l1 :: l2 :: l3 :: l4 :: l5 :: l6 :: l7 :: l8 :: l9 :: l10 :: l11 :: some (.long y) :: lz :: ls) 13 (.int x :: st) h) _ = _
  rw [x_sti_at (by simp)]
  rfl
theorem xs_istore_4_i {l0 l1 l2 lz : Option Value} {y : Int32} {x : Int32} : x_ev nm tf fn Pg X j rt r h' ((.istore 4, n, a, b) :: is) pc (l0 :: l1 :: l2 :: some (.int y) :: lz :: ls) (.int x :: st) h = x_ev nm tf fn Pg X j rt r h' is (pc + n) (l0 :: l1 :: l2 :: some (.int y) :: some (.int x) :: ls) st h := by
  rw [x_ev_op rfl]
  show x_bind (x_sti (l0 :: l1 :: l2 :: some (.int y) :: lz :: ls) 4 (.int x :: st) h) _ = _
  rw [x_sti_at (by simp)]
  rfl
theorem xs_istore_4_a {l0 l1 l2 lz : Option Value} {y : Nat} {x : Int32} : x_ev nm tf fn Pg X j rt r h' ((.istore 4, n, a, b) :: is) pc (l0 :: l1 :: l2 :: some (.ref y) :: lz :: ls) (.int x :: st) h = x_ev nm tf fn Pg X j rt r h' is (pc + n) (l0 :: l1 :: l2 :: some (.ref y) :: some (.int x) :: ls) st h := by
  rw [x_ev_op rfl]
  show x_bind (x_sti (l0 :: l1 :: l2 :: some (.ref y) :: lz :: ls) 4 (.int x :: st) h) _ = _
  rw [x_sti_at (by simp)]
  rfl
theorem xs_istore_4_n {l0 l1 l2 lz : Option Value} {x : Int32} : x_ev nm tf fn Pg X j rt r h' ((.istore 4, n, a, b) :: is) pc (l0 :: l1 :: l2 :: none :: lz :: ls) (.int x :: st) h = x_ev nm tf fn Pg X j rt r h' is (pc + n) (l0 :: l1 :: l2 :: none :: some (.int x) :: ls) st h := by
  rw [x_ev_op rfl]
  show x_bind (x_sti (l0 :: l1 :: l2 :: none :: lz :: ls) 4 (.int x :: st) h) _ = _
  rw [x_sti_at (by simp)]
  rfl
theorem xs_istore_4_l {l0 l1 l2 lz : Option Value} {y : Int64} {x : Int32} : x_ev nm tf fn Pg X j rt r h' ((.istore 4, n, a, b) :: is) pc (l0 :: l1 :: l2 :: some (.long y) :: lz :: ls) (.int x :: st) h = x_ev nm tf fn Pg X j rt r h' is (pc + n) (l0 :: l1 :: l2 :: none :: some (.int x) :: ls) st h := by
  rw [x_ev_op rfl]
  show x_bind (x_sti (l0 :: l1 :: l2 :: some (.long y) :: lz :: ls) 4 (.int x :: st) h) _ = _
  rw [x_sti_at (by simp)]
  rfl
theorem xs_istore_5_i {l0 l1 l2 l3 lz : Option Value} {y : Int32} {x : Int32} : x_ev nm tf fn Pg X j rt r h' ((.istore 5, n, a, b) :: is) pc (l0 :: l1 :: l2 :: l3 :: some (.int y) :: lz :: ls) (.int x :: st) h = x_ev nm tf fn Pg X j rt r h' is (pc + n) (l0 :: l1 :: l2 :: l3 :: some (.int y) :: some (.int x) :: ls) st h := by
  rw [x_ev_op rfl]
  show x_bind (x_sti (l0 :: l1 :: l2 :: l3 :: some (.int y) :: lz :: ls) 5 (.int x :: st) h) _ = _
  rw [x_sti_at (by simp)]
  rfl
theorem xs_istore_5_a {l0 l1 l2 l3 lz : Option Value} {y : Nat} {x : Int32} : x_ev nm tf fn Pg X j rt r h' ((.istore 5, n, a, b) :: is) pc (l0 :: l1 :: l2 :: l3 :: some (.ref y) :: lz :: ls) (.int x :: st) h = x_ev nm tf fn Pg X j rt r h' is (pc + n) (l0 :: l1 :: l2 :: l3 :: some (.ref y) :: some (.int x) :: ls) st h := by
  rw [x_ev_op rfl]
  show x_bind (x_sti (l0 :: l1 :: l2 :: l3 :: some (.ref y) :: lz :: ls) 5 (.int x :: st) h) _ = _
  rw [x_sti_at (by simp)]
  rfl
theorem xs_istore_5_n {l0 l1 l2 l3 lz : Option Value} {x : Int32} : x_ev nm tf fn Pg X j rt r h' ((.istore 5, n, a, b) :: is) pc (l0 :: l1 :: l2 :: l3 :: none :: lz :: ls) (.int x :: st) h = x_ev nm tf fn Pg X j rt r h' is (pc + n) (l0 :: l1 :: l2 :: l3 :: none :: some (.int x) :: ls) st h := by
  rw [x_ev_op rfl]
  show x_bind (x_sti (l0 :: l1 :: l2 :: l3 :: none :: lz :: ls) 5 (.int x :: st) h) _ = _
  rw [x_sti_at (by simp)]
  rfl
theorem xs_istore_5_l {l0 l1 l2 l3 lz : Option Value} {y : Int64} {x : Int32} : x_ev nm tf fn Pg X j rt r h' ((.istore 5, n, a, b) :: is) pc (l0 :: l1 :: l2 :: l3 :: some (.long y) :: lz :: ls) (.int x :: st) h = x_ev nm tf fn Pg X j rt r h' is (pc + n) (l0 :: l1 :: l2 :: l3 :: none :: some (.int x) :: ls) st h := by
  rw [x_ev_op rfl]
  show x_bind (x_sti (l0 :: l1 :: l2 :: l3 :: some (.long y) :: lz :: ls) 5 (.int x :: st) h) _ = _
  rw [x_sti_at (by simp)]
  rfl
theorem xs_istore_6_i {l0 l1 l2 l3 l4 lz : Option Value} {y : Int32} {x : Int32} : x_ev nm tf fn Pg X j rt r h' ((.istore 6, n, a, b) :: is) pc (l0 :: l1 :: l2 :: l3 :: l4 :: some (.int y) :: lz :: ls) (.int x :: st) h = x_ev nm tf fn Pg X j rt r h' is (pc + n) (l0 :: l1 :: l2 :: l3 :: l4 :: some (.int y) :: some (.int x) :: ls) st h := by
  rw [x_ev_op rfl]
  show x_bind (x_sti (l0 :: l1 :: l2 :: l3 :: l4 :: some (.int y) :: lz :: ls) 6 (.int x :: st) h) _ = _
  rw [x_sti_at (by simp)]
  rfl
theorem xs_istore_6_a {l0 l1 l2 l3 l4 lz : Option Value} {y : Nat} {x : Int32} : x_ev nm tf fn Pg X j rt r h' ((.istore 6, n, a, b) :: is) pc (l0 :: l1 :: l2 :: l3 :: l4 :: some (.ref y) :: lz :: ls) (.int x :: st) h = x_ev nm tf fn Pg X j rt r h' is (pc + n) (l0 :: l1 :: l2 :: l3 :: l4 :: some (.ref y) :: some (.int x) :: ls) st h := by
  rw [x_ev_op rfl]
  show x_bind (x_sti (l0 :: l1 :: l2 :: l3 :: l4 :: some (.ref y) :: lz :: ls) 6 (.int x :: st) h) _ = _
  rw [x_sti_at (by simp)]
  rfl
theorem xs_istore_6_n {l0 l1 l2 l3 l4 lz : Option Value} {x : Int32} : x_ev nm tf fn Pg X j rt r h' ((.istore 6, n, a, b) :: is) pc (l0 :: l1 :: l2 :: l3 :: l4 :: none :: lz :: ls) (.int x :: st) h = x_ev nm tf fn Pg X j rt r h' is (pc + n) (l0 :: l1 :: l2 :: l3 :: l4 :: none :: some (.int x) :: ls) st h := by
  rw [x_ev_op rfl]
  show x_bind (x_sti (l0 :: l1 :: l2 :: l3 :: l4 :: none :: lz :: ls) 6 (.int x :: st) h) _ = _
  rw [x_sti_at (by simp)]
  rfl
theorem xs_istore_6_l {l0 l1 l2 l3 l4 lz : Option Value} {y : Int64} {x : Int32} : x_ev nm tf fn Pg X j rt r h' ((.istore 6, n, a, b) :: is) pc (l0 :: l1 :: l2 :: l3 :: l4 :: some (.long y) :: lz :: ls) (.int x :: st) h = x_ev nm tf fn Pg X j rt r h' is (pc + n) (l0 :: l1 :: l2 :: l3 :: l4 :: none :: some (.int x) :: ls) st h := by
  rw [x_ev_op rfl]
  show x_bind (x_sti (l0 :: l1 :: l2 :: l3 :: l4 :: some (.long y) :: lz :: ls) 6 (.int x :: st) h) _ = _
  rw [x_sti_at (by simp)]
  rfl
theorem xs_istore_7_i {l0 l1 l2 l3 l4 l5 lz : Option Value} {y : Int32} {x : Int32} : x_ev nm tf fn Pg X j rt r h' ((.istore 7, n, a, b) :: is) pc (l0 :: l1 :: l2 :: l3 :: l4 :: l5 :: some (.int y) :: lz :: ls) (.int x :: st) h = x_ev nm tf fn Pg X j rt r h' is (pc + n) (l0 :: l1 :: l2 :: l3 :: l4 :: l5 :: some (.int y) :: some (.int x) :: ls) st h := by
  rw [x_ev_op rfl]
  show x_bind (x_sti (l0 :: l1 :: l2 :: l3 :: l4 :: l5 :: some (.int y) :: lz :: ls) 7 (.int x :: st) h) _ = _
  rw [x_sti_at (by simp)]
  rfl
theorem xs_istore_7_a {l0 l1 l2 l3 l4 l5 lz : Option Value} {y : Nat} {x : Int32} : x_ev nm tf fn Pg X j rt r h' ((.istore 7, n, a, b) :: is) pc (l0 :: l1 :: l2 :: l3 :: l4 :: l5 :: some (.ref y) :: lz :: ls) (.int x :: st) h = x_ev nm tf fn Pg X j rt r h' is (pc + n) (l0 :: l1 :: l2 :: l3 :: l4 :: l5 :: some (.ref y) :: some (.int x) :: ls) st h := by
  rw [x_ev_op rfl]
  show x_bind (x_sti (l0 :: l1 :: l2 :: l3 :: l4 :: l5 :: some (.ref y) :: lz :: ls) 7 (.int x :: st) h) _ = _
  rw [x_sti_at (by simp)]
  rfl
theorem xs_istore_7_n {l0 l1 l2 l3 l4 l5 lz : Option Value} {x : Int32} : x_ev nm tf fn Pg X j rt r h' ((.istore 7, n, a, b) :: is) pc (l0 :: l1 :: l2 :: l3 :: l4 :: l5 :: none :: lz :: ls) (.int x :: st) h = x_ev nm tf fn Pg X j rt r h' is (pc + n) (l0 :: l1 :: l2 :: l3 :: l4 :: l5 :: none :: some (.int x) :: ls) st h := by
  rw [x_ev_op rfl]
  show x_bind (x_sti (l0 :: l1 :: l2 :: l3 :: l4 :: l5 :: none :: lz :: ls) 7 (.int x :: st) h) _ = _
  rw [x_sti_at (by simp)]
  rfl
theorem xs_istore_7_l {l0 l1 l2 l3 l4 l5 lz : Option Value} {y : Int64} {x : Int32} : x_ev nm tf fn Pg X j rt r h' ((.istore 7, n, a, b) :: is) pc (l0 :: l1 :: l2 :: l3 :: l4 :: l5 :: some (.long y) :: lz :: ls) (.int x :: st) h = x_ev nm tf fn Pg X j rt r h' is (pc + n) (l0 :: l1 :: l2 :: l3 :: l4 :: l5 :: none :: some (.int x) :: ls) st h := by
  rw [x_ev_op rfl]
  show x_bind (x_sti (l0 :: l1 :: l2 :: l3 :: l4 :: l5 :: some (.long y) :: lz :: ls) 7 (.int x :: st) h) _ = _
  rw [x_sti_at (by simp)]
  rfl
theorem xs_istore_8_i {l0 l1 l2 l3 l4 l5 l6 lz : Option Value} {y : Int32} {x : Int32} : x_ev nm tf fn Pg X j rt r h' ((.istore 8, n, a, b) :: is) pc (l0 :: l1 :: l2 :: l3 :: l4 :: l5 :: l6 :: some (.int y) :: lz :: ls) (.int x :: st) h = x_ev nm tf fn Pg X j rt r h' is (pc + n) (l0 :: l1 :: l2 :: l3 :: l4 :: l5 :: l6 :: some (.int y) :: some (.int x) :: ls) st h := by
  rw [x_ev_op rfl]
  show x_bind (x_sti (l0 :: l1 :: l2 :: l3 :: l4 :: l5 :: l6 :: some (.int y) :: lz :: ls) 8 (.int x :: st) h) _ = _
  rw [x_sti_at (by simp)]
  rfl
theorem xs_istore_8_a {l0 l1 l2 l3 l4 l5 l6 lz : Option Value} {y : Nat} {x : Int32} : x_ev nm tf fn Pg X j rt r h' ((.istore 8, n, a, b) :: is) pc (l0 :: l1 :: l2 :: l3 :: l4 :: l5 :: l6 :: some (.ref y) :: lz :: ls) (.int x :: st) h = x_ev nm tf fn Pg X j rt r h' is (pc + n) (l0 :: l1 :: l2 :: l3 :: l4 :: l5 :: l6 :: some (.ref y) :: some (.int x) :: ls) st h := by
  rw [x_ev_op rfl]
  show x_bind (x_sti (l0 :: l1 :: l2 :: l3 :: l4 :: l5 :: l6 :: some (.ref y) :: lz :: ls) 8 (.int x :: st) h) _ = _
  rw [x_sti_at (by simp)]
  rfl
theorem xs_istore_8_n {l0 l1 l2 l3 l4 l5 l6 lz : Option Value} {x : Int32} : x_ev nm tf fn Pg X j rt r h' ((.istore 8, n, a, b) :: is) pc (l0 :: l1 :: l2 :: l3 :: l4 :: l5 :: l6 :: none :: lz :: ls) (.int x :: st) h = x_ev nm tf fn Pg X j rt r h' is (pc + n) (l0 :: l1 :: l2 :: l3 :: l4 :: l5 :: l6 :: none :: some (.int x) :: ls) st h := by
  rw [x_ev_op rfl]
  show x_bind (x_sti (l0 :: l1 :: l2 :: l3 :: l4 :: l5 :: l6 :: none :: lz :: ls) 8 (.int x :: st) h) _ = _
  rw [x_sti_at (by simp)]
  rfl
theorem xs_istore_8_l {l0 l1 l2 l3 l4 l5 l6 lz : Option Value} {y : Int64} {x : Int32} : x_ev nm tf fn Pg X j rt r h' ((.istore 8, n, a, b) :: is) pc (l0 :: l1 :: l2 :: l3 :: l4 :: l5 :: l6 :: some (.long y) :: lz :: ls) (.int x :: st) h = x_ev nm tf fn Pg X j rt r h' is (pc + n) (l0 :: l1 :: l2 :: l3 :: l4 :: l5 :: l6 :: none :: some (.int x) :: ls) st h := by
  rw [x_ev_op rfl]
  show x_bind (x_sti (l0 :: l1 :: l2 :: l3 :: l4 :: l5 :: l6 :: some (.long y) :: lz :: ls) 8 (.int x :: st) h) _ = _
  rw [x_sti_at (by simp)]
  rfl
theorem xs_istore_9_i {l0 l1 l2 l3 l4 l5 l6 l7 lz : Option Value} {y : Int32} {x : Int32} : x_ev nm tf fn Pg X j rt r h' ((.istore 9, n, a, b) :: is) pc (l0 :: l1 :: l2 :: l3 :: l4 :: l5 :: l6 :: l7 :: some (.int y) :: lz :: ls) (.int x :: st) h = x_ev nm tf fn Pg X j rt r h' is (pc + n) (l0 :: l1 :: l2 :: l3 :: l4 :: l5 :: l6 :: l7 :: some (.int y) :: some (.int x) :: ls) st h := by
  rw [x_ev_op rfl]
  show x_bind (x_sti (l0 :: l1 :: l2 :: l3 :: l4 :: l5 :: l6 :: l7 :: some (.int y) :: lz :: ls) 9 (.int x :: st) h) _ = _
  rw [x_sti_at (by simp)]
  rfl
theorem xs_istore_9_a {l0 l1 l2 l3 l4 l5 l6 l7 lz : Option Value} {y : Nat} {x : Int32} : x_ev nm tf fn Pg X j rt r h' ((.istore 9, n, a, b) :: is) pc (l0 :: l1 :: l2 :: l3 :: l4 :: l5 :: l6 :: l7 :: some (.ref y) :: lz :: ls) (.int x :: st) h = x_ev nm tf fn Pg X j rt r h' is (pc + n) (l0 :: l1 :: l2 :: l3 :: l4 :: l5 :: l6 :: l7 :: some (.ref y) :: some (.int x) :: ls) st h := by
  rw [x_ev_op rfl]
  show x_bind (x_sti (l0 :: l1 :: l2 :: l3 :: l4 :: l5 :: l6 :: l7 :: some (.ref y) :: lz :: ls) 9 (.int x :: st) h) _ = _
  rw [x_sti_at (by simp)]
  rfl
theorem xs_istore_9_n {l0 l1 l2 l3 l4 l5 l6 l7 lz : Option Value} {x : Int32} : x_ev nm tf fn Pg X j rt r h' ((.istore 9, n, a, b) :: is) pc (l0 :: l1 :: l2 :: l3 :: l4 :: l5 :: l6 :: l7 :: none :: lz :: ls) (.int x :: st) h = x_ev nm tf fn Pg X j rt r h' is (pc + n) (l0 :: l1 :: l2 :: l3 :: l4 :: l5 :: l6 :: l7 :: none :: some (.int x) :: ls) st h := by
  rw [x_ev_op rfl]
  show x_bind (x_sti (l0 :: l1 :: l2 :: l3 :: l4 :: l5 :: l6 :: l7 :: none :: lz :: ls) 9 (.int x :: st) h) _ = _
  rw [x_sti_at (by simp)]
  rfl
theorem xs_istore_9_l {l0 l1 l2 l3 l4 l5 l6 l7 lz : Option Value} {y : Int64} {x : Int32} : x_ev nm tf fn Pg X j rt r h' ((.istore 9, n, a, b) :: is) pc (l0 :: l1 :: l2 :: l3 :: l4 :: l5 :: l6 :: l7 :: some (.long y) :: lz :: ls) (.int x :: st) h = x_ev nm tf fn Pg X j rt r h' is (pc + n) (l0 :: l1 :: l2 :: l3 :: l4 :: l5 :: l6 :: l7 :: none :: some (.int x) :: ls) st h := by
  rw [x_ev_op rfl]
  show x_bind (x_sti (l0 :: l1 :: l2 :: l3 :: l4 :: l5 :: l6 :: l7 :: some (.long y) :: lz :: ls) 9 (.int x :: st) h) _ = _
  rw [x_sti_at (by simp)]
  rfl
theorem xs_lstore_n_1_i {lz ly : Option Value} {y : Int32} {x : Int64} : x_ev nm tf fn Pg X j rt r h' ((.lstore_n 1, n, a, b) :: is) pc (some (.int y) :: lz :: ly :: ls) (.long x :: st) h = x_ev nm tf fn Pg X j rt r h' is (pc + n) (some (.int y) :: some (.long x) :: none :: ls) st h := by
  rw [x_ev_op rfl]
  show x_bind (x_stl (some (.int y) :: lz :: ly :: ls) 1 (.long x :: st) h) _ = _
  rw [x_stl_at (by simp)]
  rfl
theorem xs_lstore_n_1_a {lz ly : Option Value} {y : Nat} {x : Int64} : x_ev nm tf fn Pg X j rt r h' ((.lstore_n 1, n, a, b) :: is) pc (some (.ref y) :: lz :: ly :: ls) (.long x :: st) h = x_ev nm tf fn Pg X j rt r h' is (pc + n) (some (.ref y) :: some (.long x) :: none :: ls) st h := by
  rw [x_ev_op rfl]
  show x_bind (x_stl (some (.ref y) :: lz :: ly :: ls) 1 (.long x :: st) h) _ = _
  rw [x_stl_at (by simp)]
  rfl
theorem xs_lstore_n_1_n {lz ly : Option Value} {x : Int64} : x_ev nm tf fn Pg X j rt r h' ((.lstore_n 1, n, a, b) :: is) pc (none :: lz :: ly :: ls) (.long x :: st) h = x_ev nm tf fn Pg X j rt r h' is (pc + n) (none :: some (.long x) :: none :: ls) st h := by
  rw [x_ev_op rfl]
  show x_bind (x_stl (none :: lz :: ly :: ls) 1 (.long x :: st) h) _ = _
  rw [x_stl_at (by simp)]
  rfl
theorem xs_lstore_n_1_l {lz ly : Option Value} {y : Int64} {x : Int64} : x_ev nm tf fn Pg X j rt r h' ((.lstore_n 1, n, a, b) :: is) pc (some (.long y) :: lz :: ly :: ls) (.long x :: st) h = x_ev nm tf fn Pg X j rt r h' is (pc + n) (none :: some (.long x) :: none :: ls) st h := by
  rw [x_ev_op rfl]
  show x_bind (x_stl (some (.long y) :: lz :: ly :: ls) 1 (.long x :: st) h) _ = _
  rw [x_stl_at (by simp)]
  rfl
theorem xs_lstore_n_3_i {l0 l1 lz ly : Option Value} {y : Int32} {x : Int64} : x_ev nm tf fn Pg X j rt r h' ((.lstore_n 3, n, a, b) :: is) pc (l0 :: l1 :: some (.int y) :: lz :: ly :: ls) (.long x :: st) h = x_ev nm tf fn Pg X j rt r h' is (pc + n) (l0 :: l1 :: some (.int y) :: some (.long x) :: none :: ls) st h := by
  rw [x_ev_op rfl]
  show x_bind (x_stl (l0 :: l1 :: some (.int y) :: lz :: ly :: ls) 3 (.long x :: st) h) _ = _
  rw [x_stl_at (by simp)]
  rfl
theorem xs_lstore_n_3_a {l0 l1 lz ly : Option Value} {y : Nat} {x : Int64} : x_ev nm tf fn Pg X j rt r h' ((.lstore_n 3, n, a, b) :: is) pc (l0 :: l1 :: some (.ref y) :: lz :: ly :: ls) (.long x :: st) h = x_ev nm tf fn Pg X j rt r h' is (pc + n) (l0 :: l1 :: some (.ref y) :: some (.long x) :: none :: ls) st h := by
  rw [x_ev_op rfl]
  show x_bind (x_stl (l0 :: l1 :: some (.ref y) :: lz :: ly :: ls) 3 (.long x :: st) h) _ = _
  rw [x_stl_at (by simp)]
  rfl
theorem xs_lstore_n_3_n {l0 l1 lz ly : Option Value} {x : Int64} : x_ev nm tf fn Pg X j rt r h' ((.lstore_n 3, n, a, b) :: is) pc (l0 :: l1 :: none :: lz :: ly :: ls) (.long x :: st) h = x_ev nm tf fn Pg X j rt r h' is (pc + n) (l0 :: l1 :: none :: some (.long x) :: none :: ls) st h := by
  rw [x_ev_op rfl]
  show x_bind (x_stl (l0 :: l1 :: none :: lz :: ly :: ls) 3 (.long x :: st) h) _ = _
  rw [x_stl_at (by simp)]
  rfl
theorem xs_lstore_n_3_l {l0 l1 lz ly : Option Value} {y : Int64} {x : Int64} : x_ev nm tf fn Pg X j rt r h' ((.lstore_n 3, n, a, b) :: is) pc (l0 :: l1 :: some (.long y) :: lz :: ly :: ls) (.long x :: st) h = x_ev nm tf fn Pg X j rt r h' is (pc + n) (l0 :: l1 :: none :: some (.long x) :: none :: ls) st h := by
  rw [x_ev_op rfl]
  show x_bind (x_stl (l0 :: l1 :: some (.long y) :: lz :: ly :: ls) 3 (.long x :: st) h) _ = _
  rw [x_stl_at (by simp)]
  rfl
theorem xs_lstore_10_i {l0 l1 l2 l3 l4 l5 l6 l7 l8 lz ly : Option Value} {y : Int32} {x : Int64} : x_ev nm tf fn Pg X j rt r h' ((.lstore 10, n, a, b) :: is) pc (l0 :: l1 :: l2 :: l3 :: l4 :: l5 :: l6 :: l7 :: l8 :: some (.int y) :: lz :: ly :: ls) (.long x :: st) h = x_ev nm tf fn Pg X j rt r h' is (pc + n) (l0 :: l1 :: l2 :: l3 :: l4 :: l5 :: l6 :: l7 :: l8 :: some (.int y) :: some (.long x) :: none :: ls) st h := by
  rw [x_ev_op rfl]
  show x_bind (x_stl (l0 :: l1 :: l2 :: l3 :: l4 :: l5 :: l6 :: l7 :: l8 :: some (.int y) :: lz :: ly :: ls) 10 (.long x :: st) h) _ = _
  rw [x_stl_at (by simp)]
  rfl
theorem xs_lstore_10_a {l0 l1 l2 l3 l4 l5 l6 l7 l8 lz ly : Option Value} {y : Nat} {x : Int64} : x_ev nm tf fn Pg X j rt r h' ((.lstore 10, n, a, b) :: is) pc (l0 :: l1 :: l2 :: l3 :: l4 :: l5 :: l6 :: l7 :: l8 :: some (.ref y) :: lz :: ly :: ls) (.long x :: st) h = x_ev nm tf fn Pg X j rt r h' is (pc + n) (l0 :: l1 :: l2 :: l3 :: l4 :: l5 :: l6 :: l7 :: l8 :: some (.ref y) :: some (.long x) :: none :: ls) st h := by
  rw [x_ev_op rfl]
  show x_bind (x_stl (l0 :: l1 :: l2 :: l3 :: l4 :: l5 :: l6 :: l7 :: l8 :: some (.ref y) :: lz :: ly :: ls) 10 (.long x :: st) h) _ = _
  rw [x_stl_at (by simp)]
  rfl
theorem xs_lstore_10_n {l0 l1 l2 l3 l4 l5 l6 l7 l8 lz ly : Option Value} {x : Int64} : x_ev nm tf fn Pg X j rt r h' ((.lstore 10, n, a, b) :: is) pc (l0 :: l1 :: l2 :: l3 :: l4 :: l5 :: l6 :: l7 :: l8 :: none :: lz :: ly :: ls) (.long x :: st) h = x_ev nm tf fn Pg X j rt r h' is (pc + n) (l0 :: l1 :: l2 :: l3 :: l4 :: l5 :: l6 :: l7 :: l8 :: none :: some (.long x) :: none :: ls) st h := by
  rw [x_ev_op rfl]
  show x_bind (x_stl (l0 :: l1 :: l2 :: l3 :: l4 :: l5 :: l6 :: l7 :: l8 :: none :: lz :: ly :: ls) 10 (.long x :: st) h) _ = _
  rw [x_stl_at (by simp)]
  rfl
theorem xs_lstore_10_l {l0 l1 l2 l3 l4 l5 l6 l7 l8 lz ly : Option Value} {y : Int64} {x : Int64} : x_ev nm tf fn Pg X j rt r h' ((.lstore 10, n, a, b) :: is) pc (l0 :: l1 :: l2 :: l3 :: l4 :: l5 :: l6 :: l7 :: l8 :: some (.long y) :: lz :: ly :: ls) (.long x :: st) h = x_ev nm tf fn Pg X j rt r h' is (pc + n) (l0 :: l1 :: l2 :: l3 :: l4 :: l5 :: l6 :: l7 :: l8 :: none :: some (.long x) :: none :: ls) st h := by
  rw [x_ev_op rfl]
  show x_bind (x_stl (l0 :: l1 :: l2 :: l3 :: l4 :: l5 :: l6 :: l7 :: l8 :: some (.long y) :: lz :: ly :: ls) 10 (.long x :: st) h) _ = _
  rw [x_stl_at (by simp)]
  rfl
theorem xs_lstore_5_i {l0 l1 l2 l3 lz ly : Option Value} {y : Int32} {x : Int64} : x_ev nm tf fn Pg X j rt r h' ((.lstore 5, n, a, b) :: is) pc (l0 :: l1 :: l2 :: l3 :: some (.int y) :: lz :: ly :: ls) (.long x :: st) h = x_ev nm tf fn Pg X j rt r h' is (pc + n) (l0 :: l1 :: l2 :: l3 :: some (.int y) :: some (.long x) :: none :: ls) st h := by
  rw [x_ev_op rfl]
  show x_bind (x_stl (l0 :: l1 :: l2 :: l3 :: some (.int y) :: lz :: ly :: ls) 5 (.long x :: st) h) _ = _
  rw [x_stl_at (by simp)]
  rfl
theorem xs_lstore_5_a {l0 l1 l2 l3 lz ly : Option Value} {y : Nat} {x : Int64} : x_ev nm tf fn Pg X j rt r h' ((.lstore 5, n, a, b) :: is) pc (l0 :: l1 :: l2 :: l3 :: some (.ref y) :: lz :: ly :: ls) (.long x :: st) h = x_ev nm tf fn Pg X j rt r h' is (pc + n) (l0 :: l1 :: l2 :: l3 :: some (.ref y) :: some (.long x) :: none :: ls) st h := by
  rw [x_ev_op rfl]
  show x_bind (x_stl (l0 :: l1 :: l2 :: l3 :: some (.ref y) :: lz :: ly :: ls) 5 (.long x :: st) h) _ = _
  rw [x_stl_at (by simp)]
  rfl
theorem xs_lstore_5_n {l0 l1 l2 l3 lz ly : Option Value} {x : Int64} : x_ev nm tf fn Pg X j rt r h' ((.lstore 5, n, a, b) :: is) pc (l0 :: l1 :: l2 :: l3 :: none :: lz :: ly :: ls) (.long x :: st) h = x_ev nm tf fn Pg X j rt r h' is (pc + n) (l0 :: l1 :: l2 :: l3 :: none :: some (.long x) :: none :: ls) st h := by
  rw [x_ev_op rfl]
  show x_bind (x_stl (l0 :: l1 :: l2 :: l3 :: none :: lz :: ly :: ls) 5 (.long x :: st) h) _ = _
  rw [x_stl_at (by simp)]
  rfl
theorem xs_lstore_5_l {l0 l1 l2 l3 lz ly : Option Value} {y : Int64} {x : Int64} : x_ev nm tf fn Pg X j rt r h' ((.lstore 5, n, a, b) :: is) pc (l0 :: l1 :: l2 :: l3 :: some (.long y) :: lz :: ly :: ls) (.long x :: st) h = x_ev nm tf fn Pg X j rt r h' is (pc + n) (l0 :: l1 :: l2 :: l3 :: none :: some (.long x) :: none :: ls) st h := by
  rw [x_ev_op rfl]
  show x_bind (x_stl (l0 :: l1 :: l2 :: l3 :: some (.long y) :: lz :: ly :: ls) 5 (.long x :: st) h) _ = _
  rw [x_stl_at (by simp)]
  rfl
theorem xs_astore_n_1_i {lz : Option Value} {y : Int32} {x : Nat} : x_ev nm tf fn Pg X j rt r h' ((.astore_n 1, n, a, b) :: is) pc (some (.int y) :: lz :: ls) (.ref x :: st) h = x_ev nm tf fn Pg X j rt r h' is (pc + n) (some (.int y) :: some (.ref x) :: ls) st h := by
  rw [x_ev_op rfl]
  show x_bind (x_sta (some (.int y) :: lz :: ls) 1 (.ref x :: st) h) _ = _
  rw [x_sta_at (by simp)]
  rfl
theorem xs_astore_n_1_a {lz : Option Value} {y : Nat} {x : Nat} : x_ev nm tf fn Pg X j rt r h' ((.astore_n 1, n, a, b) :: is) pc (some (.ref y) :: lz :: ls) (.ref x :: st) h = x_ev nm tf fn Pg X j rt r h' is (pc + n) (some (.ref y) :: some (.ref x) :: ls) st h := by
  rw [x_ev_op rfl]
  show x_bind (x_sta (some (.ref y) :: lz :: ls) 1 (.ref x :: st) h) _ = _
  rw [x_sta_at (by simp)]
  rfl
theorem xs_astore_n_1_n {lz : Option Value} {x : Nat} : x_ev nm tf fn Pg X j rt r h' ((.astore_n 1, n, a, b) :: is) pc (none :: lz :: ls) (.ref x :: st) h = x_ev nm tf fn Pg X j rt r h' is (pc + n) (none :: some (.ref x) :: ls) st h := by
  rw [x_ev_op rfl]
  show x_bind (x_sta (none :: lz :: ls) 1 (.ref x :: st) h) _ = _
  rw [x_sta_at (by simp)]
  rfl
theorem xs_astore_n_1_l {lz : Option Value} {y : Int64} {x : Nat} : x_ev nm tf fn Pg X j rt r h' ((.astore_n 1, n, a, b) :: is) pc (some (.long y) :: lz :: ls) (.ref x :: st) h = x_ev nm tf fn Pg X j rt r h' is (pc + n) (none :: some (.ref x) :: ls) st h := by
  rw [x_ev_op rfl]
  show x_bind (x_sta (some (.long y) :: lz :: ls) 1 (.ref x :: st) h) _ = _
  rw [x_sta_at (by simp)]
  rfl
theorem xs_astore_n_2_i {l0 lz : Option Value} {y : Int32} {x : Nat} : x_ev nm tf fn Pg X j rt r h' ((.astore_n 2, n, a, b) :: is) pc (l0 :: some (.int y) :: lz :: ls) (.ref x :: st) h = x_ev nm tf fn Pg X j rt r h' is (pc + n) (l0 :: some (.int y) :: some (.ref x) :: ls) st h := by
  rw [x_ev_op rfl]
  show x_bind (x_sta (l0 :: some (.int y) :: lz :: ls) 2 (.ref x :: st) h) _ = _
  rw [x_sta_at (by simp)]
  rfl
theorem xs_astore_n_2_a {l0 lz : Option Value} {y : Nat} {x : Nat} : x_ev nm tf fn Pg X j rt r h' ((.astore_n 2, n, a, b) :: is) pc (l0 :: some (.ref y) :: lz :: ls) (.ref x :: st) h = x_ev nm tf fn Pg X j rt r h' is (pc + n) (l0 :: some (.ref y) :: some (.ref x) :: ls) st h := by
  rw [x_ev_op rfl]
  show x_bind (x_sta (l0 :: some (.ref y) :: lz :: ls) 2 (.ref x :: st) h) _ = _
  rw [x_sta_at (by simp)]
  rfl
theorem xs_astore_n_2_n {l0 lz : Option Value} {x : Nat} : x_ev nm tf fn Pg X j rt r h' ((.astore_n 2, n, a, b) :: is) pc (l0 :: none :: lz :: ls) (.ref x :: st) h = x_ev nm tf fn Pg X j rt r h' is (pc + n) (l0 :: none :: some (.ref x) :: ls) st h := by
  rw [x_ev_op rfl]
  show x_bind (x_sta (l0 :: none :: lz :: ls) 2 (.ref x :: st) h) _ = _
  rw [x_sta_at (by simp)]
  rfl
theorem xs_astore_n_2_l {l0 lz : Option Value} {y : Int64} {x : Nat} : x_ev nm tf fn Pg X j rt r h' ((.astore_n 2, n, a, b) :: is) pc (l0 :: some (.long y) :: lz :: ls) (.ref x :: st) h = x_ev nm tf fn Pg X j rt r h' is (pc + n) (l0 :: none :: some (.ref x) :: ls) st h := by
  rw [x_ev_op rfl]
  show x_bind (x_sta (l0 :: some (.long y) :: lz :: ls) 2 (.ref x :: st) h) _ = _
  rw [x_sta_at (by simp)]
  rfl
theorem xs_astore_n_3_i {l0 l1 lz : Option Value} {y : Int32} {x : Nat} : x_ev nm tf fn Pg X j rt r h' ((.astore_n 3, n, a, b) :: is) pc (l0 :: l1 :: some (.int y) :: lz :: ls) (.ref x :: st) h = x_ev nm tf fn Pg X j rt r h' is (pc + n) (l0 :: l1 :: some (.int y) :: some (.ref x) :: ls) st h := by
  rw [x_ev_op rfl]
  show x_bind (x_sta (l0 :: l1 :: some (.int y) :: lz :: ls) 3 (.ref x :: st) h) _ = _
  rw [x_sta_at (by simp)]
  rfl
theorem xs_astore_n_3_a {l0 l1 lz : Option Value} {y : Nat} {x : Nat} : x_ev nm tf fn Pg X j rt r h' ((.astore_n 3, n, a, b) :: is) pc (l0 :: l1 :: some (.ref y) :: lz :: ls) (.ref x :: st) h = x_ev nm tf fn Pg X j rt r h' is (pc + n) (l0 :: l1 :: some (.ref y) :: some (.ref x) :: ls) st h := by
  rw [x_ev_op rfl]
  show x_bind (x_sta (l0 :: l1 :: some (.ref y) :: lz :: ls) 3 (.ref x :: st) h) _ = _
  rw [x_sta_at (by simp)]
  rfl
theorem xs_astore_n_3_n {l0 l1 lz : Option Value} {x : Nat} : x_ev nm tf fn Pg X j rt r h' ((.astore_n 3, n, a, b) :: is) pc (l0 :: l1 :: none :: lz :: ls) (.ref x :: st) h = x_ev nm tf fn Pg X j rt r h' is (pc + n) (l0 :: l1 :: none :: some (.ref x) :: ls) st h := by
  rw [x_ev_op rfl]
  show x_bind (x_sta (l0 :: l1 :: none :: lz :: ls) 3 (.ref x :: st) h) _ = _
  rw [x_sta_at (by simp)]
  rfl
theorem xs_astore_n_3_l {l0 l1 lz : Option Value} {y : Int64} {x : Nat} : x_ev nm tf fn Pg X j rt r h' ((.astore_n 3, n, a, b) :: is) pc (l0 :: l1 :: some (.long y) :: lz :: ls) (.ref x :: st) h = x_ev nm tf fn Pg X j rt r h' is (pc + n) (l0 :: l1 :: none :: some (.ref x) :: ls) st h := by
  rw [x_ev_op rfl]
  show x_bind (x_sta (l0 :: l1 :: some (.long y) :: lz :: ls) 3 (.ref x :: st) h) _ = _
  rw [x_sta_at (by simp)]
  rfl
theorem xs_astore_5_i {l0 l1 l2 l3 lz : Option Value} {y : Int32} {x : Nat} : x_ev nm tf fn Pg X j rt r h' ((.astore 5, n, a, b) :: is) pc (l0 :: l1 :: l2 :: l3 :: some (.int y) :: lz :: ls) (.ref x :: st) h = x_ev nm tf fn Pg X j rt r h' is (pc + n) (l0 :: l1 :: l2 :: l3 :: some (.int y) :: some (.ref x) :: ls) st h := by
  rw [x_ev_op rfl]
  show x_bind (x_sta (l0 :: l1 :: l2 :: l3 :: some (.int y) :: lz :: ls) 5 (.ref x :: st) h) _ = _
  rw [x_sta_at (by simp)]
  rfl
theorem xs_astore_5_a {l0 l1 l2 l3 lz : Option Value} {y : Nat} {x : Nat} : x_ev nm tf fn Pg X j rt r h' ((.astore 5, n, a, b) :: is) pc (l0 :: l1 :: l2 :: l3 :: some (.ref y) :: lz :: ls) (.ref x :: st) h = x_ev nm tf fn Pg X j rt r h' is (pc + n) (l0 :: l1 :: l2 :: l3 :: some (.ref y) :: some (.ref x) :: ls) st h := by
  rw [x_ev_op rfl]
  show x_bind (x_sta (l0 :: l1 :: l2 :: l3 :: some (.ref y) :: lz :: ls) 5 (.ref x :: st) h) _ = _
  rw [x_sta_at (by simp)]
  rfl
theorem xs_astore_5_n {l0 l1 l2 l3 lz : Option Value} {x : Nat} : x_ev nm tf fn Pg X j rt r h' ((.astore 5, n, a, b) :: is) pc (l0 :: l1 :: l2 :: l3 :: none :: lz :: ls) (.ref x :: st) h = x_ev nm tf fn Pg X j rt r h' is (pc + n) (l0 :: l1 :: l2 :: l3 :: none :: some (.ref x) :: ls) st h := by
  rw [x_ev_op rfl]
  show x_bind (x_sta (l0 :: l1 :: l2 :: l3 :: none :: lz :: ls) 5 (.ref x :: st) h) _ = _
  rw [x_sta_at (by simp)]
  rfl
theorem xs_astore_5_l {l0 l1 l2 l3 lz : Option Value} {y : Int64} {x : Nat} : x_ev nm tf fn Pg X j rt r h' ((.astore 5, n, a, b) :: is) pc (l0 :: l1 :: l2 :: l3 :: some (.long y) :: lz :: ls) (.ref x :: st) h = x_ev nm tf fn Pg X j rt r h' is (pc + n) (l0 :: l1 :: l2 :: l3 :: none :: some (.ref x) :: ls) st h := by
  rw [x_ev_op rfl]
  show x_bind (x_sta (l0 :: l1 :: l2 :: l3 :: some (.long y) :: lz :: ls) 5 (.ref x :: st) h) _ = _
  rw [x_sta_at (by simp)]
  rfl
theorem xs_iinc_1_1_i {y : Int32} {x : Int32} : x_ev nm tf fn Pg X j rt r h' ((.iinc 1 1, n, a, b) :: is) pc (some (.int y) :: some (.int x) :: ls) st h = x_ev nm tf fn Pg X j rt r h' is (pc + n) (some (.int y) :: some (.int (x + (1))) :: ls) st h := by
  have e : Int32.ofInt (1) = 1 := by decide
  rw [x_ev_op rfl]
  show x_ev nm tf fn Pg X j rt r h' is (pc + n) (some (.int y) :: some (.int (x + Int32.ofInt (1))) :: ls) st h = _
  rw [e]
theorem xs_iinc_1_1_a {y : Nat} {x : Int32} : x_ev nm tf fn Pg X j rt r h' ((.iinc 1 1, n, a, b) :: is) pc (some (.ref y) :: some (.int x) :: ls) st h = x_ev nm tf fn Pg X j rt r h' is (pc + n) (some (.ref y) :: some (.int (x + (1))) :: ls) st h := by
  have e : Int32.ofInt (1) = 1 := by decide
  rw [x_ev_op rfl]
  show x_ev nm tf fn Pg X j rt r h' is (pc + n) (some (.ref y) :: some (.int (x + Int32.ofInt (1))) :: ls) st h = _
  rw [e]
theorem xs_iinc_1_1_n {x : Int32} : x_ev nm tf fn Pg X j rt r h' ((.iinc 1 1, n, a, b) :: is) pc (none :: some (.int x) :: ls) st h = x_ev nm tf fn Pg X j rt r h' is (pc + n) (none :: some (.int (x + (1))) :: ls) st h := by
  have e : Int32.ofInt (1) = 1 := by decide
  rw [x_ev_op rfl]
  show x_ev nm tf fn Pg X j rt r h' is (pc + n) (none :: some (.int (x + Int32.ofInt (1))) :: ls) st h = _
  rw [e]
theorem xs_iinc_2_1_i {l0 : Option Value} {y : Int32} {x : Int32} : x_ev nm tf fn Pg X j rt r h' ((.iinc 2 1, n, a, b) :: is) pc (l0 :: some (.int y) :: some (.int x) :: ls) st h = x_ev nm tf fn Pg X j rt r h' is (pc + n) (l0 :: some (.int y) :: some (.int (x + (1))) :: ls) st h := by
  have e : Int32.ofInt (1) = 1 := by decide
  rw [x_ev_op rfl]
  show x_ev nm tf fn Pg X j rt r h' is (pc + n) (l0 :: some (.int y) :: some (.int (x + Int32.ofInt (1))) :: ls) st h = _
  rw [e]
theorem xs_iinc_2_1_a {l0 : Option Value} {y : Nat} {x : Int32} : x_ev nm tf fn Pg X j rt r h' ((.iinc 2 1, n, a, b) :: is) pc (l0 :: some (.ref y) :: some (.int x) :: ls) st h = x_ev nm tf fn Pg X j rt r h' is (pc + n) (l0 :: some (.ref y) :: some (.int (x + (1))) :: ls) st h := by
  have e : Int32.ofInt (1) = 1 := by decide
  rw [x_ev_op rfl]
  show x_ev nm tf fn Pg X j rt r h' is (pc + n) (l0 :: some (.ref y) :: some (.int (x + Int32.ofInt (1))) :: ls) st h = _
  rw [e]
theorem xs_iinc_2_1_n {l0 : Option Value} {x : Int32} : x_ev nm tf fn Pg X j rt r h' ((.iinc 2 1, n, a, b) :: is) pc (l0 :: none :: some (.int x) :: ls) st h = x_ev nm tf fn Pg X j rt r h' is (pc + n) (l0 :: none :: some (.int (x + (1))) :: ls) st h := by
  have e : Int32.ofInt (1) = 1 := by decide
  rw [x_ev_op rfl]
  show x_ev nm tf fn Pg X j rt r h' is (pc + n) (l0 :: none :: some (.int (x + Int32.ofInt (1))) :: ls) st h = _
  rw [e]
theorem xs_iinc_3_m1_i {l0 l1 : Option Value} {y : Int32} {x : Int32} : x_ev nm tf fn Pg X j rt r h' ((.iinc 3 (-1), n, a, b) :: is) pc (l0 :: l1 :: some (.int y) :: some (.int x) :: ls) st h = x_ev nm tf fn Pg X j rt r h' is (pc + n) (l0 :: l1 :: some (.int y) :: some (.int (x + (-1))) :: ls) st h := by
  have e : Int32.ofInt (-1) = -1 := by decide
  rw [x_ev_op rfl]
  show x_ev nm tf fn Pg X j rt r h' is (pc + n) (l0 :: l1 :: some (.int y) :: some (.int (x + Int32.ofInt (-1))) :: ls) st h = _
  rw [e]
theorem xs_iinc_3_m1_a {l0 l1 : Option Value} {y : Nat} {x : Int32} : x_ev nm tf fn Pg X j rt r h' ((.iinc 3 (-1), n, a, b) :: is) pc (l0 :: l1 :: some (.ref y) :: some (.int x) :: ls) st h = x_ev nm tf fn Pg X j rt r h' is (pc + n) (l0 :: l1 :: some (.ref y) :: some (.int (x + (-1))) :: ls) st h := by
  have e : Int32.ofInt (-1) = -1 := by decide
  rw [x_ev_op rfl]
  show x_ev nm tf fn Pg X j rt r h' is (pc + n) (l0 :: l1 :: some (.ref y) :: some (.int (x + Int32.ofInt (-1))) :: ls) st h = _
  rw [e]
theorem xs_iinc_3_m1_n {l0 l1 : Option Value} {x : Int32} : x_ev nm tf fn Pg X j rt r h' ((.iinc 3 (-1), n, a, b) :: is) pc (l0 :: l1 :: none :: some (.int x) :: ls) st h = x_ev nm tf fn Pg X j rt r h' is (pc + n) (l0 :: l1 :: none :: some (.int (x + (-1))) :: ls) st h := by
  have e : Int32.ofInt (-1) = -1 := by decide
  rw [x_ev_op rfl]
  show x_ev nm tf fn Pg X j rt r h' is (pc + n) (l0 :: l1 :: none :: some (.int (x + Int32.ofInt (-1))) :: ls) st h = _
  rw [e]
theorem xs_iinc_3_1_i {l0 l1 : Option Value} {y : Int32} {x : Int32} : x_ev nm tf fn Pg X j rt r h' ((.iinc 3 1, n, a, b) :: is) pc (l0 :: l1 :: some (.int y) :: some (.int x) :: ls) st h = x_ev nm tf fn Pg X j rt r h' is (pc + n) (l0 :: l1 :: some (.int y) :: some (.int (x + (1))) :: ls) st h := by
  have e : Int32.ofInt (1) = 1 := by decide
  rw [x_ev_op rfl]
  show x_ev nm tf fn Pg X j rt r h' is (pc + n) (l0 :: l1 :: some (.int y) :: some (.int (x + Int32.ofInt (1))) :: ls) st h = _
  rw [e]
theorem xs_iinc_3_1_a {l0 l1 : Option Value} {y : Nat} {x : Int32} : x_ev nm tf fn Pg X j rt r h' ((.iinc 3 1, n, a, b) :: is) pc (l0 :: l1 :: some (.ref y) :: some (.int x) :: ls) st h = x_ev nm tf fn Pg X j rt r h' is (pc + n) (l0 :: l1 :: some (.ref y) :: some (.int (x + (1))) :: ls) st h := by
  have e : Int32.ofInt (1) = 1 := by decide
  rw [x_ev_op rfl]
  show x_ev nm tf fn Pg X j rt r h' is (pc + n) (l0 :: l1 :: some (.ref y) :: some (.int (x + Int32.ofInt (1))) :: ls) st h = _
  rw [e]
theorem xs_iinc_3_1_n {l0 l1 : Option Value} {x : Int32} : x_ev nm tf fn Pg X j rt r h' ((.iinc 3 1, n, a, b) :: is) pc (l0 :: l1 :: none :: some (.int x) :: ls) st h = x_ev nm tf fn Pg X j rt r h' is (pc + n) (l0 :: l1 :: none :: some (.int (x + (1))) :: ls) st h := by
  have e : Int32.ofInt (1) = 1 := by decide
  rw [x_ev_op rfl]
  show x_ev nm tf fn Pg X j rt r h' is (pc + n) (l0 :: l1 :: none :: some (.int (x + Int32.ofInt (1))) :: ls) st h = _
  rw [e]
theorem xs_iinc_3_5_i {l0 l1 : Option Value} {y : Int32} {x : Int32} : x_ev nm tf fn Pg X j rt r h' ((.iinc 3 5, n, a, b) :: is) pc (l0 :: l1 :: some (.int y) :: some (.int x) :: ls) st h = x_ev nm tf fn Pg X j rt r h' is (pc + n) (l0 :: l1 :: some (.int y) :: some (.int (x + (5))) :: ls) st h := by
  have e : Int32.ofInt (5) = 5 := by decide
  rw [x_ev_op rfl]
  show x_ev nm tf fn Pg X j rt r h' is (pc + n) (l0 :: l1 :: some (.int y) :: some (.int (x + Int32.ofInt (5))) :: ls) st h = _
  rw [e]
theorem xs_iinc_3_5_a {l0 l1 : Option Value} {y : Nat} {x : Int32} : x_ev nm tf fn Pg X j rt r h' ((.iinc 3 5, n, a, b) :: is) pc (l0 :: l1 :: some (.ref y) :: some (.int x) :: ls) st h = x_ev nm tf fn Pg X j rt r h' is (pc + n) (l0 :: l1 :: some (.ref y) :: some (.int (x + (5))) :: ls) st h := by
  have e : Int32.ofInt (5) = 5 := by decide
  rw [x_ev_op rfl]
  show x_ev nm tf fn Pg X j rt r h' is (pc + n) (l0 :: l1 :: some (.ref y) :: some (.int (x + Int32.ofInt (5))) :: ls) st h = _
  rw [e]
theorem xs_iinc_3_5_n {l0 l1 : Option Value} {x : Int32} : x_ev nm tf fn Pg X j rt r h' ((.iinc 3 5, n, a, b) :: is) pc (l0 :: l1 :: none :: some (.int x) :: ls) st h = x_ev nm tf fn Pg X j rt r h' is (pc + n) (l0 :: l1 :: none :: some (.int (x + (5))) :: ls) st h := by
  have e : Int32.ofInt (5) = 5 := by decide
  rw [x_ev_op rfl]
  show x_ev nm tf fn Pg X j rt r h' is (pc + n) (l0 :: l1 :: none :: some (.int (x + Int32.ofInt (5))) :: ls) st h = _
  rw [e]
theorem xs_iinc_4_m1_i {l0 l1 l2 : Option Value} {y : Int32} {x : Int32} : x_ev nm tf fn Pg X j rt r h' ((.iinc 4 (-1), n, a, b) :: is) pc (l0 :: l1 :: l2 :: some (.int y) :: some (.int x) :: ls) st h = x_ev nm tf fn Pg X j rt r h' is (pc + n) (l0 :: l1 :: l2 :: some (.int y) :: some (.int (x + (-1))) :: ls) st h := by
  have e : Int32.ofInt (-1) = -1 := by decide
  rw [x_ev_op rfl]
  show x_ev nm tf fn Pg X j rt r h' is (pc + n) (l0 :: l1 :: l2 :: some (.int y) :: some (.int (x + Int32.ofInt (-1))) :: ls) st h = _
  rw [e]
theorem xs_iinc_4_m1_a {l0 l1 l2 : Option Value} {y : Nat} {x : Int32} : x_ev nm tf fn Pg X j rt r h' ((.iinc 4 (-1), n, a, b) :: is) pc (l0 :: l1 :: l2 :: some (.ref y) :: some (.int x) :: ls) st h = x_ev nm tf fn Pg X j rt r h' is (pc + n) (l0 :: l1 :: l2 :: some (.ref y) :: some (.int (x + (-1))) :: ls) st h := by
  have e : Int32.ofInt (-1) = -1 := by decide
  rw [x_ev_op rfl]
  show x_ev nm tf fn Pg X j rt r h' is (pc + n) (l0 :: l1 :: l2 :: some (.ref y) :: some (.int (x + Int32.ofInt (-1))) :: ls) st h = _
  rw [e]
theorem xs_iinc_4_m1_n {l0 l1 l2 : Option Value} {x : Int32} : x_ev nm tf fn Pg X j rt r h' ((.iinc 4 (-1), n, a, b) :: is) pc (l0 :: l1 :: l2 :: none :: some (.int x) :: ls) st h = x_ev nm tf fn Pg X j rt r h' is (pc + n) (l0 :: l1 :: l2 :: none :: some (.int (x + (-1))) :: ls) st h := by
  have e : Int32.ofInt (-1) = -1 := by decide
  rw [x_ev_op rfl]
  show x_ev nm tf fn Pg X j rt r h' is (pc + n) (l0 :: l1 :: l2 :: none :: some (.int (x + Int32.ofInt (-1))) :: ls) st h = _
  rw [e]
theorem xs_iinc_4_1_i {l0 l1 l2 : Option Value} {y : Int32} {x : Int32} : x_ev nm tf fn Pg X j rt r h' ((.iinc 4 1, n, a, b) :: is) pc (l0 :: l1 :: l2 :: some (.int y) :: some (.int x) :: ls) st h = x_ev nm tf fn Pg X j rt r h' is (pc + n) (l0 :: l1 :: l2 :: some (.int y) :: some (.int (x + (1))) :: ls) st h := by
  have e : Int32.ofInt (1) = 1 := by decide
  rw [x_ev_op rfl]
  show x_ev nm tf fn Pg X j rt r h' is (pc + n) (l0 :: l1 :: l2 :: some (.int y) :: some (.int (x + Int32.ofInt (1))) :: ls) st h = _
  rw [e]
theorem xs_iinc_4_1_a {l0 l1 l2 : Option Value} {y : Nat} {x : Int32} : x_ev nm tf fn Pg X j rt r h' ((.iinc 4 1, n, a, b) :: is) pc (l0 :: l1 :: l2 :: some (.ref y) :: some (.int x) :: ls) st h = x_ev nm tf fn Pg X j rt r h' is (pc + n) (l0 :: l1 :: l2 :: some (.ref y) :: some (.int (x + (1))) :: ls) st h := by
  have e : Int32.ofInt (1) = 1 := by decide
  rw [x_ev_op rfl]
  show x_ev nm tf fn Pg X j rt r h' is (pc + n) (l0 :: l1 :: l2 :: some (.ref y) :: some (.int (x + Int32.ofInt (1))) :: ls) st h = _
  rw [e]
theorem xs_iinc_4_1_n {l0 l1 l2 : Option Value} {x : Int32} : x_ev nm tf fn Pg X j rt r h' ((.iinc 4 1, n, a, b) :: is) pc (l0 :: l1 :: l2 :: none :: some (.int x) :: ls) st h = x_ev nm tf fn Pg X j rt r h' is (pc + n) (l0 :: l1 :: l2 :: none :: some (.int (x + (1))) :: ls) st h := by
  have e : Int32.ofInt (1) = 1 := by decide
  rw [x_ev_op rfl]
  show x_ev nm tf fn Pg X j rt r h' is (pc + n) (l0 :: l1 :: l2 :: none :: some (.int (x + Int32.ofInt (1))) :: ls) st h = _
  rw [e]
theorem xs_iinc_5_1_i {l0 l1 l2 l3 : Option Value} {y : Int32} {x : Int32} : x_ev nm tf fn Pg X j rt r h' ((.iinc 5 1, n, a, b) :: is) pc (l0 :: l1 :: l2 :: l3 :: some (.int y) :: some (.int x) :: ls) st h = x_ev nm tf fn Pg X j rt r h' is (pc + n) (l0 :: l1 :: l2 :: l3 :: some (.int y) :: some (.int (x + (1))) :: ls) st h := by
  have e : Int32.ofInt (1) = 1 := by decide
  rw [x_ev_op rfl]
  show x_ev nm tf fn Pg X j rt r h' is (pc + n) (l0 :: l1 :: l2 :: l3 :: some (.int y) :: some (.int (x + Int32.ofInt (1))) :: ls) st h = _
  rw [e]
theorem xs_iinc_5_1_a {l0 l1 l2 l3 : Option Value} {y : Nat} {x : Int32} : x_ev nm tf fn Pg X j rt r h' ((.iinc 5 1, n, a, b) :: is) pc (l0 :: l1 :: l2 :: l3 :: some (.ref y) :: some (.int x) :: ls) st h = x_ev nm tf fn Pg X j rt r h' is (pc + n) (l0 :: l1 :: l2 :: l3 :: some (.ref y) :: some (.int (x + (1))) :: ls) st h := by
  have e : Int32.ofInt (1) = 1 := by decide
  rw [x_ev_op rfl]
  show x_ev nm tf fn Pg X j rt r h' is (pc + n) (l0 :: l1 :: l2 :: l3 :: some (.ref y) :: some (.int (x + Int32.ofInt (1))) :: ls) st h = _
  rw [e]
theorem xs_iinc_5_1_n {l0 l1 l2 l3 : Option Value} {x : Int32} : x_ev nm tf fn Pg X j rt r h' ((.iinc 5 1, n, a, b) :: is) pc (l0 :: l1 :: l2 :: l3 :: none :: some (.int x) :: ls) st h = x_ev nm tf fn Pg X j rt r h' is (pc + n) (l0 :: l1 :: l2 :: l3 :: none :: some (.int (x + (1))) :: ls) st h := by
  have e : Int32.ofInt (1) = 1 := by decide
  rw [x_ev_op rfl]
  show x_ev nm tf fn Pg X j rt r h' is (pc + n) (l0 :: l1 :: l2 :: l3 :: none :: some (.int (x + Int32.ofInt (1))) :: ls) st h = _
  rw [e]
theorem xs_iinc_6_1_i {l0 l1 l2 l3 l4 : Option Value} {y : Int32} {x : Int32} : x_ev nm tf fn Pg X j rt r h' ((.iinc 6 1, n, a, b) :: is) pc (l0 :: l1 :: l2 :: l3 :: l4 :: some (.int y) :: some (.int x) :: ls) st h = x_ev nm tf fn Pg X j rt r h' is (pc + n) (l0 :: l1 :: l2 :: l3 :: l4 :: some (.int y) :: some (.int (x + (1))) :: ls) st h := by
  have e : Int32.ofInt (1) = 1 := by decide
  rw [x_ev_op rfl]
  show x_ev nm tf fn Pg X j rt r h' is (pc + n) (l0 :: l1 :: l2 :: l3 :: l4 :: some (.int y) :: some (.int (x + Int32.ofInt (1))) :: ls) st h = _
  rw [e]
theorem xs_iinc_6_1_a {l0 l1 l2 l3 l4 : Option Value} {y : Nat} {x : Int32} : x_ev nm tf fn Pg X j rt r h' ((.iinc 6 1, n, a, b) :: is) pc (l0 :: l1 :: l2 :: l3 :: l4 :: some (.ref y) :: some (.int x) :: ls) st h = x_ev nm tf fn Pg X j rt r h' is (pc + n) (l0 :: l1 :: l2 :: l3 :: l4 :: some (.ref y) :: some (.int (x + (1))) :: ls) st h := by
  have e : Int32.ofInt (1) = 1 := by decide
  rw [x_ev_op rfl]
  show x_ev nm tf fn Pg X j rt r h' is (pc + n) (l0 :: l1 :: l2 :: l3 :: l4 :: some (.ref y) :: some (.int (x + Int32.ofInt (1))) :: ls) st h = _
  rw [e]
theorem xs_iinc_6_1_n {l0 l1 l2 l3 l4 : Option Value} {x : Int32} : x_ev nm tf fn Pg X j rt r h' ((.iinc 6 1, n, a, b) :: is) pc (l0 :: l1 :: l2 :: l3 :: l4 :: none :: some (.int x) :: ls) st h = x_ev nm tf fn Pg X j rt r h' is (pc + n) (l0 :: l1 :: l2 :: l3 :: l4 :: none :: some (.int (x + (1))) :: ls) st h := by
  have e : Int32.ofInt (1) = 1 := by decide
  rw [x_ev_op rfl]
  show x_ev nm tf fn Pg X j rt r h' is (pc + n) (l0 :: l1 :: l2 :: l3 :: l4 :: none :: some (.int (x + Int32.ofInt (1))) :: ls) st h = _
  rw [e]
theorem xs_iinc_7_1_i {l0 l1 l2 l3 l4 l5 : Option Value} {y : Int32} {x : Int32} : x_ev nm tf fn Pg X j rt r h' ((.iinc 7 1, n, a, b) :: is) pc (l0 :: l1 :: l2 :: l3 :: l4 :: l5 :: some (.int y) :: some (.int x) :: ls) st h = x_ev nm tf fn Pg X j rt r h' is (pc + n) (l0 :: l1 :: l2 :: l3 :: l4 :: l5 :: some (.int y) :: some (.int (x + (1))) :: ls) st h := by
  have e : Int32.ofInt (1) = 1 := by decide
  rw [x_ev_op rfl]
  show x_ev nm tf fn Pg X j rt r h' is (pc + n) (l0 :: l1 :: l2 :: l3 :: l4 :: l5 :: some (.int y) :: some (.int (x + Int32.ofInt (1))) :: ls) st h = _
  rw [e]
theorem xs_iinc_7_1_a {l0 l1 l2 l3 l4 l5 : Option Value} {y : Nat} {x : Int32} : x_ev nm tf fn Pg X j rt r h' ((.iinc 7 1, n, a, b) :: is) pc (l0 :: l1 :: l2 :: l3 :: l4 :: l5 :: some (.ref y) :: some (.int x) :: ls) st h = x_ev nm tf fn Pg X j rt r h' is (pc + n) (l0 :: l1 :: l2 :: l3 :: l4 :: l5 :: some (.ref y) :: some (.int (x + (1))) :: ls) st h := by
  have e : Int32.ofInt (1) = 1 := by decide
  rw [x_ev_op rfl]
  show x_ev nm tf fn Pg X j rt r h' is (pc + n) (l0 :: l1 :: l2 :: l3 :: l4 :: l5 :: some (.ref y) :: some (.int (x + Int32.ofInt (1))) :: ls) st h = _
  rw [e]
theorem xs_iinc_7_1_n {l0 l1 l2 l3 l4 l5 : Option Value} {x : Int32} : x_ev nm tf fn Pg X j rt r h' ((.iinc 7 1, n, a, b) :: is) pc (l0 :: l1 :: l2 :: l3 :: l4 :: l5 :: none :: some (.int x) :: ls) st h = x_ev nm tf fn Pg X j rt r h' is (pc + n) (l0 :: l1 :: l2 :: l3 :: l4 :: l5 :: none :: some (.int (x + (1))) :: ls) st h := by
  have e : Int32.ofInt (1) = 1 := by decide
  rw [x_ev_op rfl]
  show x_ev nm tf fn Pg X j rt r h' is (pc + n) (l0 :: l1 :: l2 :: l3 :: l4 :: l5 :: none :: some (.int (x + Int32.ofInt (1))) :: ls) st h = _
  rw [e]
theorem xs_iinc_8_1_i {l0 l1 l2 l3 l4 l5 l6 : Option Value} {y : Int32} {x : Int32} : x_ev nm tf fn Pg X j rt r h' ((.iinc 8 1, n, a, b) :: is) pc (l0 :: l1 :: l2 :: l3 :: l4 :: l5 :: l6 :: some (.int y) :: some (.int x) :: ls) st h = x_ev nm tf fn Pg X j rt r h' is (pc + n) (l0 :: l1 :: l2 :: l3 :: l4 :: l5 :: l6 :: some (.int y) :: some (.int (x + (1))) :: ls) st h := by
  have e : Int32.ofInt (1) = 1 := by decide
  rw [x_ev_op rfl]
  show x_ev nm tf fn Pg X j rt r h' is (pc + n) (l0 :: l1 :: l2 :: l3 :: l4 :: l5 :: l6 :: some (.int y) :: some (.int (x + Int32.ofInt (1))) :: ls) st h = _
  rw [e]
theorem xs_iinc_8_1_a {l0 l1 l2 l3 l4 l5 l6 : Option Value} {y : Nat} {x : Int32} : x_ev nm tf fn Pg X j rt r h' ((.iinc 8 1, n, a, b) :: is) pc (l0 :: l1 :: l2 :: l3 :: l4 :: l5 :: l6 :: some (.ref y) :: some (.int x) :: ls) st h = x_ev nm tf fn Pg X j rt r h' is (pc + n) (l0 :: l1 :: l2 :: l3 :: l4 :: l5 :: l6 :: some (.ref y) :: some (.int (x + (1))) :: ls) st h := by
  have e : Int32.ofInt (1) = 1 := by decide
  rw [x_ev_op rfl]
  show x_ev nm tf fn Pg X j rt r h' is (pc + n) (l0 :: l1 :: l2 :: l3 :: l4 :: l5 :: l6 :: some (.ref y) :: some (.int (x + Int32.ofInt (1))) :: ls) st h = _
  rw [e]
theorem xs_iinc_8_1_n {l0 l1 l2 l3 l4 l5 l6 : Option Value} {x : Int32} : x_ev nm tf fn Pg X j rt r h' ((.iinc 8 1, n, a, b) :: is) pc (l0 :: l1 :: l2 :: l3 :: l4 :: l5 :: l6 :: none :: some (.int x) :: ls) st h = x_ev nm tf fn Pg X j rt r h' is (pc + n) (l0 :: l1 :: l2 :: l3 :: l4 :: l5 :: l6 :: none :: some (.int (x + (1))) :: ls) st h := by
  have e : Int32.ofInt (1) = 1 := by decide
  rw [x_ev_op rfl]
  show x_ev nm tf fn Pg X j rt r h' is (pc + n) (l0 :: l1 :: l2 :: l3 :: l4 :: l5 :: l6 :: none :: some (.int (x + Int32.ofInt (1))) :: ls) st h = _
  rw [e]
theorem xs_iinc_9_1_i {l0 l1 l2 l3 l4 l5 l6 l7 : Option Value} {y : Int32} {x : Int32} : x_ev nm tf fn Pg X j rt r h' ((.iinc 9 1, n, a, b) :: is) pc (l0 :: l1 :: l2 :: l3 :: l4 :: l5 :: l6 :: l7 :: some (.int y) :: some (.int x) :: ls) st h = x_ev nm tf fn Pg X j rt r h' is (pc + n) (l0 :: l1 :: l2 :: l3 :: l4 :: l5 :: l6 :: l7 :: some (.int y) :: some (.int (x + (1))) :: ls) st h := by
  have e : Int32.ofInt (1) = 1 := by decide
  rw [x_ev_op rfl]
  show x_ev nm tf fn Pg X j rt r h' is (pc + n) (l0 :: l1 :: l2 :: l3 :: l4 :: l5 :: l6 :: l7 :: some (.int y) :: some (.int (x + Int32.ofInt (1))) :: ls) st h = _
  rw [e]
theorem xs_iinc_9_1_a {l0 l1 l2 l3 l4 l5 l6 l7 : Option Value} {y : Nat} {x : Int32} : x_ev nm tf fn Pg X j rt r h' ((.iinc 9 1, n, a, b) :: is) pc (l0 :: l1 :: l2 :: l3 :: l4 :: l5 :: l6 :: l7 :: some (.ref y) :: some (.int x) :: ls) st h = x_ev nm tf fn Pg X j rt r h' is (pc + n) (l0 :: l1 :: l2 :: l3 :: l4 :: l5 :: l6 :: l7 :: some (.ref y) :: some (.int (x + (1))) :: ls) st h := by
  have e : Int32.ofInt (1) = 1 := by decide
  rw [x_ev_op rfl]
  show x_ev nm tf fn Pg X j rt r h' is (pc + n) (l0 :: l1 :: l2 :: l3 :: l4 :: l5 :: l6 :: l7 :: some (.ref y) :: some (.int (x + Int32.ofInt (1))) :: ls) st h = _
  rw [e]
theorem xs_iinc_9_1_n {l0 l1 l2 l3 l4 l5 l6 l7 : Option Value} {x : Int32} : x_ev nm tf fn Pg X j rt r h' ((.iinc 9 1, n, a, b) :: is) pc (l0 :: l1 :: l2 :: l3 :: l4 :: l5 :: l6 :: l7 :: none :: some (.int x) :: ls) st h = x_ev nm tf fn Pg X j rt r h' is (pc + n) (l0 :: l1 :: l2 :: l3 :: l4 :: l5 :: l6 :: l7 :: none :: some (.int (x + (1))) :: ls) st h := by
  have e : Int32.ofInt (1) = 1 := by decide
  rw [x_ev_op rfl]
  show x_ev nm tf fn Pg X j rt r h' is (pc + n) (l0 :: l1 :: l2 :: l3 :: l4 :: l5 :: l6 :: l7 :: none :: some (.int (x + Int32.ofInt (1))) :: ls) st h = _
  rw [e]
theorem xs_iadd {x y : Int32} : x_ev nm tf fn Pg X j rt r h' ((.iadd, n, a, b) :: is) pc ls (.int y :: .int x :: st) h = x_ev nm tf fn Pg X j rt r h' is (pc + n) ls (.int (x + y) :: st) h := by
  rw [x_ev_op rfl]
  rfl
theorem xs_isub {x y : Int32} : x_ev nm tf fn Pg X j rt r h' ((.isub, n, a, b) :: is) pc ls (.int y :: .int x :: st) h = x_ev nm tf fn Pg X j rt r h' is (pc + n) ls (.int (x - y) :: st) h := by
  rw [x_ev_op rfl]
  rfl
theorem xs_imul {x y : Int32} : x_ev nm tf fn Pg X j rt r h' ((.imul, n, a, b) :: is) pc ls (.int y :: .int x :: st) h = x_ev nm tf fn Pg X j rt r h' is (pc + n) ls (.int (x * y) :: st) h := by
  rw [x_ev_op rfl]
  rfl
theorem xs_iand {x y : Int32} : x_ev nm tf fn Pg X j rt r h' ((.iand, n, a, b) :: is) pc ls (.int y :: .int x :: st) h = x_ev nm tf fn Pg X j rt r h' is (pc + n) ls (.int (x &&& y) :: st) h := by
  rw [x_ev_op rfl]
  rfl
theorem xs_ior {x y : Int32} : x_ev nm tf fn Pg X j rt r h' ((.ior, n, a, b) :: is) pc ls (.int y :: .int x :: st) h = x_ev nm tf fn Pg X j rt r h' is (pc + n) ls (.int (x ||| y) :: st) h := by
  rw [x_ev_op rfl]
  rfl
theorem xs_ishl {x y : Int32} : x_ev nm tf fn Pg X j rt r h' ((.ishl, n, a, b) :: is) pc ls (.int y :: .int x :: st) h = x_ev nm tf fn Pg X j rt r h' is (pc + n) ls (.int (x <<< (y &&& 31)) :: st) h := by
  rw [x_ev_op rfl]
  rfl
theorem xs_ishr {x y : Int32} : x_ev nm tf fn Pg X j rt r h' ((.ishr, n, a, b) :: is) pc ls (.int y :: .int x :: st) h = x_ev nm tf fn Pg X j rt r h' is (pc + n) ls (.int (x >>> (y &&& 31)) :: st) h := by
  rw [x_ev_op rfl]
  rfl
theorem xs_idiv {x y : Int32} : x_ev nm tf fn Pg X j rt r h' ((.idiv, n, a, b) :: is) pc ls (.int y :: .int x :: st) h = (¬ y = 0 ∧ x_ev nm tf fn Pg X j rt r h' is (pc + n) ls (.int (x / y) :: st) h) := by
  rw [x_ev_op rfl]
  show x_bind (x_iz (fun x y => x / y) ls (.int y :: .int x :: st) h) _ = _
  unfold x_iz x_bind
  by_cases hy : y = 0
  · simp [hy]
  · simp [hy]
theorem xs_irem {x y : Int32} : x_ev nm tf fn Pg X j rt r h' ((.irem, n, a, b) :: is) pc ls (.int y :: .int x :: st) h = (¬ y = 0 ∧ x_ev nm tf fn Pg X j rt r h' is (pc + n) ls (.int (x - x / y * y) :: st) h) := by
  rw [x_ev_op rfl]
  show x_bind (x_iz (fun x y => x - x / y * y) ls (.int y :: .int x :: st) h) _ = _
  unfold x_iz x_bind
  by_cases hy : y = 0
  · simp [hy]
  · simp [hy]
theorem xs_ladd {x y : Int64} : x_ev nm tf fn Pg X j rt r h' ((.ladd, n, a, b) :: is) pc ls (.long y :: .long x :: st) h = x_ev nm tf fn Pg X j rt r h' is (pc + n) ls (.long (x + y) :: st) h := by
  rw [x_ev_op rfl]
  rfl
theorem xs_lmul {x y : Int64} : x_ev nm tf fn Pg X j rt r h' ((.lmul, n, a, b) :: is) pc ls (.long y :: .long x :: st) h = x_ev nm tf fn Pg X j rt r h' is (pc + n) ls (.long (x * y) :: st) h := by
  rw [x_ev_op rfl]
  rfl
theorem xs_land {x y : Int64} : x_ev nm tf fn Pg X j rt r h' ((.land, n, a, b) :: is) pc ls (.long y :: .long x :: st) h = x_ev nm tf fn Pg X j rt r h' is (pc + n) ls (.long (x &&& y) :: st) h := by
  rw [x_ev_op rfl]
  rfl
theorem xs_lshl {x : Int64} {y : Int32} : x_ev nm tf fn Pg X j rt r h' ((.lshl, n, a, b) :: is) pc ls (.int y :: .long x :: st) h = x_ev nm tf fn Pg X j rt r h' is (pc + n) ls (.long (x <<< (y.toInt64 &&& 63)) :: st) h := by
  rw [x_ev_op rfl]
  rfl
theorem xs_lshr {x : Int64} {y : Int32} : x_ev nm tf fn Pg X j rt r h' ((.lshr, n, a, b) :: is) pc ls (.int y :: .long x :: st) h = x_ev nm tf fn Pg X j rt r h' is (pc + n) ls (.long (x >>> (y.toInt64 &&& 63)) :: st) h := by
  rw [x_ev_op rfl]
  rfl
theorem xs_i2l {x : Int32} : x_ev nm tf fn Pg X j rt r h' ((.i2l, n, a, b) :: is) pc ls (.int x :: st) h = x_ev nm tf fn Pg X j rt r h' is (pc + n) ls (.long x.toInt64 :: st) h := by
  rw [x_ev_op rfl]
  rfl
theorem xs_l2i {x : Int64} : x_ev nm tf fn Pg X j rt r h' ((.l2i, n, a, b) :: is) pc ls (.long x :: st) h = x_ev nm tf fn Pg X j rt r h' is (pc + n) ls (.int x.toInt32 :: st) h := by
  rw [x_ev_op rfl]
  rfl
theorem xs_lcmp {x y : Int64} : x_ev nm tf fn Pg X j rt r h' ((.lcmp, n, a, b) :: is) pc ls (.long y :: .long x :: st) h = x_ev nm tf fn Pg X j rt r h' is (pc + n) ls (.int (lg_cmp x y) :: st) h := by
  rw [x_ev_op rfl]
  rfl
theorem xs_dup_i {x : Int32} : x_ev nm tf fn Pg X j rt r h' ((.dup, n, a, b) :: is) pc ls (.int x :: st) h = x_ev nm tf fn Pg X j rt r h' is (pc + n) ls (.int x :: .int x :: st) h := by
  rw [x_ev_op rfl]
  rfl
theorem xs_pop_i {x : Int32} : x_ev nm tf fn Pg X j rt r h' ((.pop, n, a, b) :: is) pc ls (.int x :: st) h = x_ev nm tf fn Pg X j rt r h' is (pc + n) ls st h := by
  rw [x_ev_op rfl]
  rfl
theorem xs_dup_a {x : Nat} : x_ev nm tf fn Pg X j rt r h' ((.dup, n, a, b) :: is) pc ls (.ref x :: st) h = x_ev nm tf fn Pg X j rt r h' is (pc + n) ls (.ref x :: .ref x :: st) h := by
  rw [x_ev_op rfl]
  rfl
theorem xs_pop_a {x : Nat} : x_ev nm tf fn Pg X j rt r h' ((.pop, n, a, b) :: is) pc ls (.ref x :: st) h = x_ev nm tf fn Pg X j rt r h' is (pc + n) ls st h := by
  rw [x_ev_op rfl]
  rfl
theorem xs_dup2 {x : Int32} {y : Nat} : x_ev nm tf fn Pg X j rt r h' ((.dup2, n, a, b) :: is) pc ls (.int x :: .ref y :: st) h = x_ev nm tf fn Pg X j rt r h' is (pc + n) ls (.int x :: .ref y :: .int x :: .ref y :: st) h := by
  rw [x_ev_op rfl]
  rfl
theorem xs_getfield {i oo : Nat} : x_ev nm tf fn Pg X j rt r h' ((.getfield i, n, a, b) :: is) pc ls (.ref oo :: st) h = x_gf h oo a b (fun v => x_ev nm tf fn Pg X j rt r h' is (pc + n) ls (v :: st) h) := by
  rw [x_ev_op rfl]
  show x_bind (x_getf a b ls (.ref oo :: st) h) _ = _
  unfold x_bind x_getf x_gf
  dsimp only
  cases h[oo]? with
  | none => rfl
  | some c0 =>
    cases c0 with
    | inl z => rfl
    | inr z =>
      obtain ⟨ci, fs⟩ := z
      dsimp only
      by_cases hc : ci = a
      · rw [if_pos hc]
        cases fs[b]? <;> simp [hc]
      · rw [if_neg hc]
        simp [hc]
theorem xs_putfield {i oo : Nat} {v : Value} : x_ev nm tf fn Pg X j rt r h' ((.putfield i, n, a, b) :: is) pc ls (v :: .ref oo :: st) h = x_pf tf h oo a b v (fun h2 => x_ev nm tf fn Pg X j rt r h' is (pc + n) ls st h2) := by
  rw [x_ev_op rfl]
  show x_bind (x_putf tf a b ls (v :: .ref oo :: st) h) _ = _
  unfold x_bind x_putf x_pf
  dsimp only
  by_cases h2 : 2 ≤ oo
  · rw [if_pos h2]
    cases h[oo]? with
    | none => rfl
    | some c0 =>
      cases c0 with
      | inl z => rfl
      | inr z =>
        obtain ⟨ci, fs⟩ := z
        dsimp only
        by_cases hc : ci = a ∧ b < fs.length ∧ x_fit (tf a b) v = true
        · rw [if_pos hc]
          simp [hc, h2]
        · rw [if_neg hc]
          simp [h2, hc]
  · rw [if_neg h2]
    cases h[oo]? with
    | none => rfl
    | some c0 =>
      cases c0 with
      | inl z => rfl
      | inr z => simp [h2]
theorem xs_getstatic {i : Nat} : x_ev nm tf fn Pg X j rt r h' ((.getstatic i, n, a, b) :: is) pc ls st h = x_ev nm tf fn Pg X j rt r h' is (pc + n) ls (.ref 1 :: st) h := by
  rw [x_ev_op rfl]
  rfl
theorem xs_if_eq {off : Int} {x : Int32} : x_ev nm tf fn Pg X j rt r h' ((.ifCond .eq off, n, a, b) :: is) pc ls (.int x :: st) h = ((x = 0 → X j a ls st h r h') ∧ (¬ (x = 0) → x_ev nm tf fn Pg X j rt r h' is (pc + n) ls st h)) := rfl
theorem xs_icmp_eq {off : Int} {x y : Int32} : x_ev nm tf fn Pg X j rt r h' ((.if_icmp .eq off, n, a, b) :: is) pc ls (.int y :: .int x :: st) h = ((x = y → X j a ls st h r h') ∧ (¬ (x = y) → x_ev nm tf fn Pg X j rt r h' is (pc + n) ls st h)) := rfl
theorem xs_if_ne {off : Int} {x : Int32} : x_ev nm tf fn Pg X j rt r h' ((.ifCond .ne off, n, a, b) :: is) pc ls (.int x :: st) h = ((¬ x = 0 → X j a ls st h r h') ∧ (¬ (¬ x = 0) → x_ev nm tf fn Pg X j rt r h' is (pc + n) ls st h)) := rfl
theorem xs_icmp_ne {off : Int} {x y : Int32} : x_ev nm tf fn Pg X j rt r h' ((.if_icmp .ne off, n, a, b) :: is) pc ls (.int y :: .int x :: st) h = ((¬ x = y → X j a ls st h r h') ∧ (¬ (¬ x = y) → x_ev nm tf fn Pg X j rt r h' is (pc + n) ls st h)) := rfl
theorem xs_if_lt {off : Int} {x : Int32} : x_ev nm tf fn Pg X j rt r h' ((.ifCond .lt off, n, a, b) :: is) pc ls (.int x :: st) h = ((x < 0 → X j a ls st h r h') ∧ (¬ (x < 0) → x_ev nm tf fn Pg X j rt r h' is (pc + n) ls st h)) := rfl
theorem xs_icmp_lt {off : Int} {x y : Int32} : x_ev nm tf fn Pg X j rt r h' ((.if_icmp .lt off, n, a, b) :: is) pc ls (.int y :: .int x :: st) h = ((x < y → X j a ls st h r h') ∧ (¬ (x < y) → x_ev nm tf fn Pg X j rt r h' is (pc + n) ls st h)) := rfl
theorem xs_if_ge {off : Int} {x : Int32} : x_ev nm tf fn Pg X j rt r h' ((.ifCond .ge off, n, a, b) :: is) pc ls (.int x :: st) h = ((0 ≤ x → X j a ls st h r h') ∧ (¬ (0 ≤ x) → x_ev nm tf fn Pg X j rt r h' is (pc + n) ls st h)) := rfl
theorem xs_icmp_ge {off : Int} {x y : Int32} : x_ev nm tf fn Pg X j rt r h' ((.if_icmp .ge off, n, a, b) :: is) pc ls (.int y :: .int x :: st) h = ((y ≤ x → X j a ls st h r h') ∧ (¬ (y ≤ x) → x_ev nm tf fn Pg X j rt r h' is (pc + n) ls st h)) := rfl
theorem xs_if_gt {off : Int} {x : Int32} : x_ev nm tf fn Pg X j rt r h' ((.ifCond .gt off, n, a, b) :: is) pc ls (.int x :: st) h = ((0 < x → X j a ls st h r h') ∧ (¬ (0 < x) → x_ev nm tf fn Pg X j rt r h' is (pc + n) ls st h)) := rfl
theorem xs_icmp_gt {off : Int} {x y : Int32} : x_ev nm tf fn Pg X j rt r h' ((.if_icmp .gt off, n, a, b) :: is) pc ls (.int y :: .int x :: st) h = ((y < x → X j a ls st h r h') ∧ (¬ (y < x) → x_ev nm tf fn Pg X j rt r h' is (pc + n) ls st h)) := rfl
theorem xs_if_le {off : Int} {x : Int32} : x_ev nm tf fn Pg X j rt r h' ((.ifCond .le off, n, a, b) :: is) pc ls (.int x :: st) h = ((x ≤ 0 → X j a ls st h r h') ∧ (¬ (x ≤ 0) → x_ev nm tf fn Pg X j rt r h' is (pc + n) ls st h)) := rfl
theorem xs_icmp_le {off : Int} {x y : Int32} : x_ev nm tf fn Pg X j rt r h' ((.if_icmp .le off, n, a, b) :: is) pc ls (.int y :: .int x :: st) h = ((x ≤ y → X j a ls st h r h') ∧ (¬ (x ≤ y) → x_ev nm tf fn Pg X j rt r h' is (pc + n) ls st h)) := rfl
theorem xs_goto {off : Int} : x_ev nm tf fn Pg X j rt r h' ((.goto off, n, a, b) :: is) pc ls st h = X j a ls st h r h' := rfl
theorem xs_ireturn {v : Int32} : x_ev nm tf fn Pg X j rt r h' ((.ireturn, n, a, b) :: is) pc ls [.int v] h = ((rt = some .int ∨ rt = some .boolean ∧ v &&& 1 = v) ∧ r = some (.int v) ∧ h' = h) := rfl
theorem xs_lreturn {v : Int64} : x_ev nm tf fn Pg X j rt r h' ((.lreturn, n, a, b) :: is) pc ls [.long v] h = (rt = some .long ∧ r = some (.long v) ∧ h' = h) := rfl
theorem xs_return : x_ev nm tf fn Pg X j rt r h' ((.return_, n, a, b) :: is) pc ls [] h = (([] : List Value) = [] ∧ rt = none ∧ r = none ∧ h' = h) := rfl
/-- a place of an int array read -/
theorem xs_iaload {o : Nat} {i v : Int32} {l : List Int32} (ho : h[o]? = some (xi l)) (hi : ¬ i < 0) (hv : l[i.toNatClampNeg]? = some v) : x_ev nm tf fn Pg X j rt r h' ((.iaload, n, a, b) :: is) pc ls (.int i :: .ref o :: st) h = x_ev nm tf fn Pg X j rt r h' is (pc + n) ls (.int v :: st) h := by
  rw [x_ev_op rfl]
  show x_bind (x_ald .int ls (.int i :: .ref o :: st) h) _ = _
  simp [x_bind, x_ald, ho, xi, hi, hv]
theorem xs_laload {o : Nat} {i : Int32} {v : Int64} {l : List Int64} (ho : h[o]? = some (xl l)) (hi : ¬ i < 0) (hv : l[i.toNatClampNeg]? = some v) : x_ev nm tf fn Pg X j rt r h' ((.laload, n, a, b) :: is) pc ls (.int i :: .ref o :: st) h = x_ev nm tf fn Pg X j rt r h' is (pc + n) ls (.long v :: st) h := by
  rw [x_ev_op rfl]
  show x_bind (x_ald .long ls (.int i :: .ref o :: st) h) _ = _
  simp [x_bind, x_ald, ho, xl, hi, hv]
theorem xs_iastore {o : Nat} {i x : Int32} {l : List Int32} (h2 : 2 ≤ o) (ho : h[o]? = some (xi l)) (hi : ¬ i < 0) (hl : i.toNatClampNeg < l.length) : x_ev nm tf fn Pg X j rt r h' ((.iastore, n, a, b) :: is) pc ls (.int x :: .int i :: .ref o :: st) h = x_ev nm tf fn Pg X j rt r h' is (pc + n) ls st (h.set o (xi (l.set i.toNatClampNeg x))) := by
  rw [x_ev_op rfl]
  show x_bind (x_iast ls (.int x :: .int i :: .ref o :: st) h) _ = _
  simp [x_bind, x_iast, ho, xi, hi, hl, h2, List.map_set]
theorem xs_lastore {o : Nat} {i : Int32} {x : Int64} {l : List Int64} (h2 : 2 ≤ o) (ho : h[o]? = some (xl l)) (hi : ¬ i < 0) (hl : i.toNatClampNeg < l.length) : x_ev nm tf fn Pg X j rt r h' ((.lastore, n, a, b) :: is) pc ls (.long x :: .int i :: .ref o :: st) h = x_ev nm tf fn Pg X j rt r h' is (pc + n) ls st (h.set o (xl (l.set i.toNatClampNeg x))) := by
  rw [x_ev_op rfl]
  show x_bind (x_last ls (.long x :: .int i :: .ref o :: st) h) _ = _
  simp [x_bind, x_last, ho, xl, hi, hl, h2, List.map_set]
theorem xs_alen {o : Nat} {l : List Int32} (ho : h[o]? = some (xi l)) : x_ev nm tf fn Pg X j rt r h' ((.arraylength, n, a, b) :: is) pc ls (.ref o :: st) h = x_ev nm tf fn Pg X j rt r h' is (pc + n) ls (.int (Int32.ofNat l.length) :: st) h := by
  rw [x_ev_op rfl]
  show x_bind (x_alen ls (.ref o :: st) h) _ = _
  simp [x_bind, x_alen, ho, xi]
theorem xs_copy {i s d : Nat} {m : Int32} {l l2 : List Int32} (h2 : 2 ≤ d) (hs : h[s]? = some (xi l)) (hd : h[d]? = some (xi l2)) (hm : ¬ m < 0) (hl : m.toNatClampNeg = l.length) (hl2 : l2.length = l.length) (h8 : (st.map Value.category).sum ≤ 8) : x_ev nm tf fn Pg X j rt r h' ((.invokestatic i, n, 1001, b) :: is) pc ls (.int m :: .int 0 :: .ref d :: .int 0 :: .ref s :: st) h = x_ev nm tf fn Pg X j rt r h' is (pc + n) ls st (h.set d (xi l)) := by
  rw [x_ev_op (by simp [x_ctl])]
  have e : x_op nm tf fn (.invokestatic i, n, 1001, b) ls (.int m :: .int 0 :: .ref d :: .int 0 :: .ref s :: st) h = x_copy ls (.int m :: .int 0 :: .ref d :: .int 0 :: .ref s :: st) h := by simp [x_op]
  rw [e]
  have hall : (l.map Value.int).all (fits .int) = true := by simp [fits]
  simp only [x_bind, x_copy, hs, hd, xi]
  rw [if_pos ⟨h2, trivial, trivial, trivial, trivial, hm, by simpa using hl, by simpa using hl2, hall, h8⟩]
theorem xs_math_1002 {i : Nat} {x y : Int32} (h8 : (st.map Value.category).sum ≤ 8) : x_ev nm tf fn Pg X j rt r h' ((.invokestatic i, n, 1002, b) :: is) pc ls (.int y :: .int x :: st) h = x_ev nm tf fn Pg X j rt r h' is (pc + n) ls (.int (if x < y then y else x) :: st) h := by
  rw [x_ev_op (by simp [x_ctl])]
  have e : x_op nm tf fn (.invokestatic i, n, 1002, b) ls (.int y :: .int x :: st) h = x_math 1002 ls (.int y :: .int x :: st) h := by simp [x_op]
  rw [e]
  simp [x_bind, x_math, h8]
theorem xs_math_1003 {i : Nat} {x y : Int32} (h8 : (st.map Value.category).sum ≤ 8) : x_ev nm tf fn Pg X j rt r h' ((.invokestatic i, n, 1003, b) :: is) pc ls (.int y :: .int x :: st) h = x_ev nm tf fn Pg X j rt r h' is (pc + n) ls (.int (if y < x then y else x) :: st) h := by
  rw [x_ev_op (by simp [x_ctl])]
  have e : x_op nm tf fn (.invokestatic i, n, 1003, b) ls (.int y :: .int x :: st) h = x_math 1003 ls (.int y :: .int x :: st) h := by simp [x_op]
  rw [e]
  simp [x_bind, x_math, h8]
theorem xs_math_1004 {i : Nat} {x : Int32} (h8 : (st.map Value.category).sum ≤ 8) : x_ev nm tf fn Pg X j rt r h' ((.invokestatic i, n, 1004, b) :: is) pc ls (.int x :: st) h = x_ev nm tf fn Pg X j rt r h' is (pc + n) ls (.int (if 0 ≤ x then x else 0 - x) :: st) h := by
  rw [x_ev_op (by simp [x_ctl])]
  have e : x_op nm tf fn (.invokestatic i, n, 1004, b) ls (.int x :: st) h = x_math 1004 ls (.int x :: st) h := by simp [x_op]
  rw [e]
  simp [x_bind, x_math, h8]
theorem xs_math_1005 {i : Nat} {x y : Int64} (h8 : (st.map Value.category).sum ≤ 8) : x_ev nm tf fn Pg X j rt r h' ((.invokestatic i, n, 1005, b) :: is) pc ls (.long y :: .long x :: st) h = x_ev nm tf fn Pg X j rt r h' is (pc + n) ls (.long (if y < x then y else x) :: st) h := by
  rw [x_ev_op (by simp [x_ctl])]
  have e : x_op nm tf fn (.invokestatic i, n, 1005, b) ls (.long y :: .long x :: st) h = x_math 1005 ls (.long y :: .long x :: st) h := by simp [x_op]
  rw [e]
  simp [x_bind, x_math, h8]
theorem xs_obj {i x : Nat} (h8 : (st.map Value.category).sum ≤ 8) : x_ev nm tf fn Pg X j rt r h' ((.invokespecial i, n, 1000, b) :: is) pc ls (.ref x :: st) h = x_ev nm tf fn Pg X j rt r h' is (pc + n) ls st h := by
  rw [x_ev_op (by simp [x_ctl])]
  show x_bind (x_obj ls (.ref x :: st) h) _ = _
  simp [x_bind, x_obj, h8]
theorem x_ev_call {ins : Instr} (hc : (∃ i, ins = .invokevirtual i) ∨ (a < 1000 ∧ ((∃ i, ins = .invokestatic i) ∨ ∃ i, ins = .invokespecial i))) : x_ev nm tf fn Pg X j rt r h' ((ins, n, a, b) :: is) pc ls st h = x_call Pg X (x_ev nm tf fn Pg X j rt r h' is) (ins, n, a, b) pc ls st h := by
  show x_one _ _ _ _ _ _ _ _ _ _ _ _ _ _ _ = _
  unfold x_one
  rcases hc with ⟨i, rfl⟩ | ⟨ha, ⟨i, rfl⟩ | ⟨i, rfl⟩⟩
  · rfl
  · rw [if_neg (by simp [x_ctl, ha])]
  · rw [if_neg (by simp [x_ctl, ha])]
theorem xc_v0_1 {i : Nat} {w : Value} {h1 : xH} (hK : x_calX Pg X a [] h (some w) h1) (h8 : (st.map Value.category).sum ≤ 8) (k : x_ev nm tf fn Pg X j rt r h' is (pc + n) ls (w :: st) h1) : x_ev nm tf fn Pg X j rt r h' ((.invokevirtual i, n, a, 0) :: is) pc ls (st) h := by
  rw [x_ev_call (Or.inl ⟨i, rfl⟩)]
  exact ⟨by simp, by simpa using h8, _, h1, by simpa using hK, by simpa using k⟩
theorem xc_v0_0 {i : Nat} {h1 : xH} (hK : x_calX Pg X a [] h (none) h1) (h8 : (st.map Value.category).sum ≤ 8) (k : x_ev nm tf fn Pg X j rt r h' is (pc + n) ls (st) h1) : x_ev nm tf fn Pg X j rt r h' ((.invokevirtual i, n, a, 0) :: is) pc ls (st) h := by
  rw [x_ev_call (Or.inl ⟨i, rfl⟩)]
  exact ⟨by simp, by simpa using h8, _, h1, by simpa using hK, by simpa using k⟩
theorem xc_s0_1 {i : Nat} {w : Value} {h1 : xH} (ha : a < 1000) (hK : x_calX Pg X a [] h (some w) h1) (h8 : (st.map Value.category).sum ≤ 8) (k : x_ev nm tf fn Pg X j rt r h' is (pc + n) ls (w :: st) h1) : x_ev nm tf fn Pg X j rt r h' ((.invokestatic i, n, a, 0) :: is) pc ls (st) h := by
  rw [x_ev_call (Or.inr ⟨ha, Or.inl ⟨i, rfl⟩⟩)]
  exact ⟨by simp, by simpa using h8, _, h1, by simpa using hK, by simpa using k⟩
theorem xc_s0_0 {i : Nat} {h1 : xH} (ha : a < 1000) (hK : x_calX Pg X a [] h (none) h1) (h8 : (st.map Value.category).sum ≤ 8) (k : x_ev nm tf fn Pg X j rt r h' is (pc + n) ls (st) h1) : x_ev nm tf fn Pg X j rt r h' ((.invokestatic i, n, a, 0) :: is) pc ls (st) h := by
  rw [x_ev_call (Or.inr ⟨ha, Or.inl ⟨i, rfl⟩⟩)]
  exact ⟨by simp, by simpa using h8, _, h1, by simpa using hK, by simpa using k⟩
theorem xc_i0_1 {i : Nat} {w : Value} {h1 : xH} (ha : a < 1000) (hK : x_calX Pg X a [] h (some w) h1) (h8 : (st.map Value.category).sum ≤ 8) (k : x_ev nm tf fn Pg X j rt r h' is (pc + n) ls (w :: st) h1) : x_ev nm tf fn Pg X j rt r h' ((.invokespecial i, n, a, 0) :: is) pc ls (st) h := by
  rw [x_ev_call (Or.inr ⟨ha, Or.inr ⟨i, rfl⟩⟩)]
  exact ⟨by simp, by simpa using h8, _, h1, by simpa using hK, by simpa using k⟩
theorem xc_i0_0 {i : Nat} {h1 : xH} (ha : a < 1000) (hK : x_calX Pg X a [] h (none) h1) (h8 : (st.map Value.category).sum ≤ 8) (k : x_ev nm tf fn Pg X j rt r h' is (pc + n) ls (st) h1) : x_ev nm tf fn Pg X j rt r h' ((.invokespecial i, n, a, 0) :: is) pc ls (st) h := by
  rw [x_ev_call (Or.inr ⟨ha, Or.inr ⟨i, rfl⟩⟩)]
  exact ⟨by simp, by simpa using h8, _, h1, by simpa using hK, by simpa using k⟩
theorem xc_v1_1 {i : Nat} {v0 : Value} {w : Value} {h1 : xH} (hK : x_calX Pg X a [v0] h (some w) h1) (h8 : (st.map Value.category).sum ≤ 8) (k : x_ev nm tf fn Pg X j rt r h' is (pc + n) ls (w :: st) h1) : x_ev nm tf fn Pg X j rt r h' ((.invokevirtual i, n, a, 1) :: is) pc ls (v0 :: st) h := by
  rw [x_ev_call (Or.inl ⟨i, rfl⟩)]
  exact ⟨by simp, by simpa using h8, _, h1, by simpa using hK, by simpa using k⟩
theorem xc_v1_0 {i : Nat} {v0 : Value} {h1 : xH} (hK : x_calX Pg X a [v0] h (none) h1) (h8 : (st.map Value.category).sum ≤ 8) (k : x_ev nm tf fn Pg X j rt r h' is (pc + n) ls (st) h1) : x_ev nm tf fn Pg X j rt r h' ((.invokevirtual i, n, a, 1) :: is) pc ls (v0 :: st) h := by
  rw [x_ev_call (Or.inl ⟨i, rfl⟩)]
  exact ⟨by simp, by simpa using h8, _, h1, by simpa using hK, by simpa using k⟩
theorem xc_s1_1 {i : Nat} {v0 : Value} {w : Value} {h1 : xH} (ha : a < 1000) (hK : x_calX Pg X a [v0] h (some w) h1) (h8 : (st.map Value.category).sum ≤ 8) (k : x_ev nm tf fn Pg X j rt r h' is (pc + n) ls (w :: st) h1) : x_ev nm tf fn Pg X j rt r h' ((.invokestatic i, n, a, 1) :: is) pc ls (v0 :: st) h := by
  rw [x_ev_call (Or.inr ⟨ha, Or.inl ⟨i, rfl⟩⟩)]
  exact ⟨by simp, by simpa using h8, _, h1, by simpa using hK, by simpa using k⟩
theorem xc_s1_0 {i : Nat} {v0 : Value} {h1 : xH} (ha : a < 1000) (hK : x_calX Pg X a [v0] h (none) h1) (h8 : (st.map Value.category).sum ≤ 8) (k : x_ev nm tf fn Pg X j rt r h' is (pc + n) ls (st) h1) : x_ev nm tf fn Pg X j rt r h' ((.invokestatic i, n, a, 1) :: is) pc ls (v0 :: st) h := by
  rw [x_ev_call (Or.inr ⟨ha, Or.inl ⟨i, rfl⟩⟩)]
  exact ⟨by simp, by simpa using h8, _, h1, by simpa using hK, by simpa using k⟩
theorem xc_i1_1 {i : Nat} {v0 : Value} {w : Value} {h1 : xH} (ha : a < 1000) (hK : x_calX Pg X a [v0] h (some w) h1) (h8 : (st.map Value.category).sum ≤ 8) (k : x_ev nm tf fn Pg X j rt r h' is (pc + n) ls (w :: st) h1) : x_ev nm tf fn Pg X j rt r h' ((.invokespecial i, n, a, 1) :: is) pc ls (v0 :: st) h := by
  rw [x_ev_call (Or.inr ⟨ha, Or.inr ⟨i, rfl⟩⟩)]
  exact ⟨by simp, by simpa using h8, _, h1, by simpa using hK, by simpa using k⟩
theorem xc_i1_0 {i : Nat} {v0 : Value} {h1 : xH} (ha : a < 1000) (hK : x_calX Pg X a [v0] h (none) h1) (h8 : (st.map Value.category).sum ≤ 8) (k : x_ev nm tf fn Pg X j rt r h' is (pc + n) ls (st) h1) : x_ev nm tf fn Pg X j rt r h' ((.invokespecial i, n, a, 1) :: is) pc ls (v0 :: st) h := by
  rw [x_ev_call (Or.inr ⟨ha, Or.inr ⟨i, rfl⟩⟩)]
  exact ⟨by simp, by simpa using h8, _, h1, by simpa using hK, by simpa using k⟩
theorem xc_v2_1 {i : Nat} {v0 v1 : Value} {w : Value} {h1 : xH} (hK : x_calX Pg X a [v0, v1] h (some w) h1) (h8 : (st.map Value.category).sum ≤ 8) (k : x_ev nm tf fn Pg X j rt r h' is (pc + n) ls (w :: st) h1) : x_ev nm tf fn Pg X j rt r h' ((.invokevirtual i, n, a, 2) :: is) pc ls (v1 :: v0 :: st) h := by
  rw [x_ev_call (Or.inl ⟨i, rfl⟩)]
  exact ⟨by simp, by simpa using h8, _, h1, by simpa using hK, by simpa using k⟩
theorem xc_v2_0 {i : Nat} {v0 v1 : Value} {h1 : xH} (hK : x_calX Pg X a [v0, v1] h (none) h1) (h8 : (st.map Value.category).sum ≤ 8) (k : x_ev nm tf fn Pg X j rt r h' is (pc + n) ls (st) h1) : x_ev nm tf fn Pg X j rt r h' ((.invokevirtual i, n, a, 2) :: is) pc ls (v1 :: v0 :: st) h := by
  rw [x_ev_call (Or.inl ⟨i, rfl⟩)]
  exact ⟨by simp, by simpa using h8, _, h1, by simpa using hK, by simpa using k⟩
theorem xc_s2_1 {i : Nat} {v0 v1 : Value} {w : Value} {h1 : xH} (ha : a < 1000) (hK : x_calX Pg X a [v0, v1] h (some w) h1) (h8 : (st.map Value.category).sum ≤ 8) (k : x_ev nm tf fn Pg X j rt r h' is (pc + n) ls (w :: st) h1) : x_ev nm tf fn Pg X j rt r h' ((.invokestatic i, n, a, 2) :: is) pc ls (v1 :: v0 :: st) h := by
  rw [x_ev_call (Or.inr ⟨ha, Or.inl ⟨i, rfl⟩⟩)]
  exact ⟨by simp, by simpa using h8, _, h1, by simpa using hK, by simpa using k⟩
theorem xc_s2_0 {i : Nat} {v0 v1 : Value} {h1 : xH} (ha : a < 1000) (hK : x_calX Pg X a [v0, v1] h (none) h1) (h8 : (st.map Value.category).sum ≤ 8) (k : x_ev nm tf fn Pg X j rt r h' is (pc + n) ls (st) h1) : x_ev nm tf fn Pg X j rt r h' ((.invokestatic i, n, a, 2) :: is) pc ls (v1 :: v0 :: st) h := by
  rw [x_ev_call (Or.inr ⟨ha, Or.inl ⟨i, rfl⟩⟩)]
  exact ⟨by simp, by simpa using h8, _, h1, by simpa using hK, by simpa using k⟩
theorem xc_i2_1 {i : Nat} {v0 v1 : Value} {w : Value} {h1 : xH} (ha : a < 1000) (hK : x_calX Pg X a [v0, v1] h (some w) h1) (h8 : (st.map Value.category).sum ≤ 8) (k : x_ev nm tf fn Pg X j rt r h' is (pc + n) ls (w :: st) h1) : x_ev nm tf fn Pg X j rt r h' ((.invokespecial i, n, a, 2) :: is) pc ls (v1 :: v0 :: st) h := by
  rw [x_ev_call (Or.inr ⟨ha, Or.inr ⟨i, rfl⟩⟩)]
  exact ⟨by simp, by simpa using h8, _, h1, by simpa using hK, by simpa using k⟩
theorem xc_i2_0 {i : Nat} {v0 v1 : Value} {h1 : xH} (ha : a < 1000) (hK : x_calX Pg X a [v0, v1] h (none) h1) (h8 : (st.map Value.category).sum ≤ 8) (k : x_ev nm tf fn Pg X j rt r h' is (pc + n) ls (st) h1) : x_ev nm tf fn Pg X j rt r h' ((.invokespecial i, n, a, 2) :: is) pc ls (v1 :: v0 :: st) h := by
  rw [x_ev_call (Or.inr ⟨ha, Or.inr ⟨i, rfl⟩⟩)]
  exact ⟨by simp, by simpa using h8, _, h1, by simpa using hK, by simpa using k⟩
theorem xc_v3_1 {i : Nat} {v0 v1 v2 : Value} {w : Value} {h1 : xH} (hK : x_calX Pg X a [v0, v1, v2] h (some w) h1) (h8 : (st.map Value.category).sum ≤ 8) (k : x_ev nm tf fn Pg X j rt r h' is (pc + n) ls (w :: st) h1) : x_ev nm tf fn Pg X j rt r h' ((.invokevirtual i, n, a, 3) :: is) pc ls (v2 :: v1 :: v0 :: st) h := by
  rw [x_ev_call (Or.inl ⟨i, rfl⟩)]
  exact ⟨by simp, by simpa using h8, _, h1, by simpa using hK, by simpa using k⟩
theorem xc_v3_0 {i : Nat} {v0 v1 v2 : Value} {h1 : xH} (hK : x_calX Pg X a [v0, v1, v2] h (none) h1) (h8 : (st.map Value.category).sum ≤ 8) (k : x_ev nm tf fn Pg X j rt r h' is (pc + n) ls (st) h1) : x_ev nm tf fn Pg X j rt r h' ((.invokevirtual i, n, a, 3) :: is) pc ls (v2 :: v1 :: v0 :: st) h := by
  rw [x_ev_call (Or.inl ⟨i, rfl⟩)]
  exact ⟨by simp, by simpa using h8, _, h1, by simpa using hK, by simpa using k⟩
theorem xc_s3_1 {i : Nat} {v0 v1 v2 : Value} {w : Value} {h1 : xH} (ha : a < 1000) (hK : x_calX Pg X a [v0, v1, v2] h (some w) h1) (h8 : (st.map Value.category).sum ≤ 8) (k : x_ev nm tf fn Pg X j rt r h' is (pc + n) ls (w :: st) h1) : x_ev nm tf fn Pg X j rt r h' ((.invokestatic i, n, a, 3) :: is) pc ls (v2 :: v1 :: v0 :: st) h := by
  rw [x_ev_call (Or.inr ⟨ha, Or.inl ⟨i, rfl⟩⟩)]
  exact ⟨by simp, by simpa using h8, _, h1, by simpa using hK, by simpa using k⟩
theorem xc_s3_0 {i : Nat} {v0 v1 v2 : Value} {h1 : xH} (ha : a < 1000) (hK : x_calX Pg X a [v0, v1, v2] h (none) h1) (h8 : (st.map Value.category).sum ≤ 8) (k : x_ev nm tf fn Pg X j rt r h' is (pc + n) ls (st) h1) : x_ev nm tf fn Pg X j rt r h' ((.invokestatic i, n, a, 3) :: is) pc ls (v2 :: v1 :: v0 :: st) h := by
  rw [x_ev_call (Or.inr ⟨ha, Or.inl ⟨i, rfl⟩⟩)]
  exact ⟨by simp, by simpa using h8, _, h1, by simpa using hK, by simpa using k⟩
theorem xc_i3_1 {i : Nat} {v0 v1 v2 : Value} {w : Value} {h1 : xH} (ha : a < 1000) (hK : x_calX Pg X a [v0, v1, v2] h (some w) h1) (h8 : (st.map Value.category).sum ≤ 8) (k : x_ev nm tf fn Pg X j rt r h' is (pc + n) ls (w :: st) h1) : x_ev nm tf fn Pg X j rt r h' ((.invokespecial i, n, a, 3) :: is) pc ls (v2 :: v1 :: v0 :: st) h := by
  rw [x_ev_call (Or.inr ⟨ha, Or.inr ⟨i, rfl⟩⟩)]
  exact ⟨by simp, by simpa using h8, _, h1, by simpa using hK, by simpa using k⟩
theorem xc_i3_0 {i : Nat} {v0 v1 v2 : Value} {h1 : xH} (ha : a < 1000) (hK : x_calX Pg X a [v0, v1, v2] h (none) h1) (h8 : (st.map Value.category).sum ≤ 8) (k : x_ev nm tf fn Pg X j rt r h' is (pc + n) ls (st) h1) : x_ev nm tf fn Pg X j rt r h' ((.invokespecial i, n, a, 3) :: is) pc ls (v2 :: v1 :: v0 :: st) h := by
  rw [x_ev_call (Or.inr ⟨ha, Or.inr ⟨i, rfl⟩⟩)]
  exact ⟨by simp, by simpa using h8, _, h1, by simpa using hK, by simpa using k⟩
theorem xc_v4_1 {i : Nat} {v0 v1 v2 v3 : Value} {w : Value} {h1 : xH} (hK : x_calX Pg X a [v0, v1, v2, v3] h (some w) h1) (h8 : (st.map Value.category).sum ≤ 8) (k : x_ev nm tf fn Pg X j rt r h' is (pc + n) ls (w :: st) h1) : x_ev nm tf fn Pg X j rt r h' ((.invokevirtual i, n, a, 4) :: is) pc ls (v3 :: v2 :: v1 :: v0 :: st) h := by
  rw [x_ev_call (Or.inl ⟨i, rfl⟩)]
  exact ⟨by simp, by simpa using h8, _, h1, by simpa using hK, by simpa using k⟩
theorem xc_v4_0 {i : Nat} {v0 v1 v2 v3 : Value} {h1 : xH} (hK : x_calX Pg X a [v0, v1, v2, v3] h (none) h1) (h8 : (st.map Value.category).sum ≤ 8) (k : x_ev nm tf fn Pg X j rt r h' is (pc + n) ls (st) h1) : x_ev nm tf fn Pg X j rt r h' ((.invokevirtual i, n, a, 4) :: is) pc ls (v3 :: v2 :: v1 :: v0 :: st) h := by
  rw [x_ev_call (Or.inl ⟨i, rfl⟩)]
  exact ⟨by simp, by simpa using h8, _, h1, by simpa using hK, by simpa using k⟩
theorem xc_s4_1 {i : Nat} {v0 v1 v2 v3 : Value} {w : Value} {h1 : xH} (ha : a < 1000) (hK : x_calX Pg X a [v0, v1, v2, v3] h (some w) h1) (h8 : (st.map Value.category).sum ≤ 8) (k : x_ev nm tf fn Pg X j rt r h' is (pc + n) ls (w :: st) h1) : x_ev nm tf fn Pg X j rt r h' ((.invokestatic i, n, a, 4) :: is) pc ls (v3 :: v2 :: v1 :: v0 :: st) h := by
  rw [x_ev_call (Or.inr ⟨ha, Or.inl ⟨i, rfl⟩⟩)]
  exact ⟨by simp, by simpa using h8, _, h1, by simpa using hK, by simpa using k⟩
theorem xc_s4_0 {i : Nat} {v0 v1 v2 v3 : Value} {h1 : xH} (ha : a < 1000) (hK : x_calX Pg X a [v0, v1, v2, v3] h (none) h1) (h8 : (st.map Value.category).sum ≤ 8) (k : x_ev nm tf fn Pg X j rt r h' is (pc + n) ls (st) h1) : x_ev nm tf fn Pg X j rt r h' ((.invokestatic i, n, a, 4) :: is) pc ls (v3 :: v2 :: v1 :: v0 :: st) h := by
  rw [x_ev_call (Or.inr ⟨ha, Or.inl ⟨i, rfl⟩⟩)]
  exact ⟨by simp, by simpa using h8, _, h1, by simpa using hK, by simpa using k⟩
theorem xc_i4_1 {i : Nat} {v0 v1 v2 v3 : Value} {w : Value} {h1 : xH} (ha : a < 1000) (hK : x_calX Pg X a [v0, v1, v2, v3] h (some w) h1) (h8 : (st.map Value.category).sum ≤ 8) (k : x_ev nm tf fn Pg X j rt r h' is (pc + n) ls (w :: st) h1) : x_ev nm tf fn Pg X j rt r h' ((.invokespecial i, n, a, 4) :: is) pc ls (v3 :: v2 :: v1 :: v0 :: st) h := by
  rw [x_ev_call (Or.inr ⟨ha, Or.inr ⟨i, rfl⟩⟩)]
  exact ⟨by simp, by simpa using h8, _, h1, by simpa using hK, by simpa using k⟩
theorem xc_i4_0 {i : Nat} {v0 v1 v2 v3 : Value} {h1 : xH} (ha : a < 1000) (hK : x_calX Pg X a [v0, v1, v2, v3] h (none) h1) (h8 : (st.map Value.category).sum ≤ 8) (k : x_ev nm tf fn Pg X j rt r h' is (pc + n) ls (st) h1) : x_ev nm tf fn Pg X j rt r h' ((.invokespecial i, n, a, 4) :: is) pc ls (v3 :: v2 :: v1 :: v0 :: st) h := by
  rw [x_ev_call (Or.inr ⟨ha, Or.inr ⟨i, rfl⟩⟩)]
  exact ⟨by simp, by simpa using h8, _, h1, by simpa using hK, by simpa using k⟩
theorem xc_v5_1 {i : Nat} {v0 v1 v2 v3 v4 : Value} {w : Value} {h1 : xH} (hK : x_calX Pg X a [v0, v1, v2, v3, v4] h (some w) h1) (h8 : (st.map Value.category).sum ≤ 8) (k : x_ev nm tf fn Pg X j rt r h' is (pc + n) ls (w :: st) h1) : x_ev nm tf fn Pg X j rt r h' ((.invokevirtual i, n, a, 5) :: is) pc ls (v4 :: v3 :: v2 :: v1 :: v0 :: st) h := by
  rw [x_ev_call (Or.inl ⟨i, rfl⟩)]
  exact ⟨by simp, by simpa using h8, _, h1, by simpa using hK, by simpa using k⟩
theorem xc_v5_0 {i : Nat} {v0 v1 v2 v3 v4 : Value} {h1 : xH} (hK : x_calX Pg X a [v0, v1, v2, v3, v4] h (none) h1) (h8 : (st.map Value.category).sum ≤ 8) (k : x_ev nm tf fn Pg X j rt r h' is (pc + n) ls (st) h1) : x_ev nm tf fn Pg X j rt r h' ((.invokevirtual i, n, a, 5) :: is) pc ls (v4 :: v3 :: v2 :: v1 :: v0 :: st) h := by
  rw [x_ev_call (Or.inl ⟨i, rfl⟩)]
  exact ⟨by simp, by simpa using h8, _, h1, by simpa using hK, by simpa using k⟩
theorem xc_s5_1 {i : Nat} {v0 v1 v2 v3 v4 : Value} {w : Value} {h1 : xH} (ha : a < 1000) (hK : x_calX Pg X a [v0, v1, v2, v3, v4] h (some w) h1) (h8 : (st.map Value.category).sum ≤ 8) (k : x_ev nm tf fn Pg X j rt r h' is (pc + n) ls (w :: st) h1) : x_ev nm tf fn Pg X j rt r h' ((.invokestatic i, n, a, 5) :: is) pc ls (v4 :: v3 :: v2 :: v1 :: v0 :: st) h := by
  rw [x_ev_call (Or.inr ⟨ha, Or.inl ⟨i, rfl⟩⟩)]
  exact ⟨by simp, by simpa using h8, _, h1, by simpa using hK, by simpa using k⟩
theorem xc_s5_0 {i : Nat} {v0 v1 v2 v3 v4 : Value} {h1 : xH} (ha : a < 1000) (hK : x_calX Pg X a [v0, v1, v2, v3, v4] h (none) h1) (h8 : (st.map Value.category).sum ≤ 8) (k : x_ev nm tf fn Pg X j rt r h' is (pc + n) ls (st) h1) : x_ev nm tf fn Pg X j rt r h' ((.invokestatic i, n, a, 5) :: is) pc ls (v4 :: v3 :: v2 :: v1 :: v0 :: st) h := by
  rw [x_ev_call (Or.inr ⟨ha, Or.inl ⟨i, rfl⟩⟩)]
  exact ⟨by simp, by simpa using h8, _, h1, by simpa using hK, by simpa using k⟩
theorem xc_i5_1 {i : Nat} {v0 v1 v2 v3 v4 : Value} {w : Value} {h1 : xH} (ha : a < 1000) (hK : x_calX Pg X a [v0, v1, v2, v3, v4] h (some w) h1) (h8 : (st.map Value.category).sum ≤ 8) (k : x_ev nm tf fn Pg X j rt r h' is (pc + n) ls (w :: st) h1) : x_ev nm tf fn Pg X j rt r h' ((.invokespecial i, n, a, 5) :: is) pc ls (v4 :: v3 :: v2 :: v1 :: v0 :: st) h := by
  rw [x_ev_call (Or.inr ⟨ha, Or.inr ⟨i, rfl⟩⟩)]
  exact ⟨by simp, by simpa using h8, _, h1, by simpa using hK, by simpa using k⟩
theorem xc_i5_0 {i : Nat} {v0 v1 v2 v3 v4 : Value} {h1 : xH} (ha : a < 1000) (hK : x_calX Pg X a [v0, v1, v2, v3, v4] h (none) h1) (h8 : (st.map Value.category).sum ≤ 8) (k : x_ev nm tf fn Pg X j rt r h' is (pc + n) ls (st) h1) : x_ev nm tf fn Pg X j rt r h' ((.invokespecial i, n, a, 5) :: is) pc ls (v4 :: v3 :: v2 :: v1 :: v0 :: st) h := by
  rw [x_ev_call (Or.inr ⟨ha, Or.inr ⟨i, rfl⟩⟩)]
  exact ⟨by simp, by simpa using h8, _, h1, by simpa using hK, by simpa using k⟩
theorem xc_v6_1 {i : Nat} {v0 v1 v2 v3 v4 v5 : Value} {w : Value} {h1 : xH} (hK : x_calX Pg X a [v0, v1, v2, v3, v4, v5] h (some w) h1) (h8 : (st.map Value.category).sum ≤ 8) (k : x_ev nm tf fn Pg X j rt r h' is (pc + n) ls (w :: st) h1) : x_ev nm tf fn Pg X j rt r h' ((.invokevirtual i, n, a, 6) :: is) pc ls (v5 :: v4 :: v3 :: v2 :: v1 :: v0 :: st) h := by
  rw [x_ev_call (Or.inl ⟨i, rfl⟩)]
  exact ⟨by simp, by simpa using h8, _, h1, by simpa using hK, by simpa using k⟩
theorem xc_v6_0 {i : Nat} {v0 v1 v2 v3 v4 v5 : Value} {h1 : xH} (hK : x_calX Pg X a [v0, v1, v2, v3, v4, v5] h (none) h1) (h8 : (st.map Value.category).sum ≤ 8) (k : x_ev nm tf fn Pg X j rt r h' is (pc + n) ls (st) h1) : x_ev nm tf fn Pg X j rt r h' ((.invokevirtual i, n, a, 6) :: is) pc ls (v5 :: v4 :: v3 :: v2 :: v1 :: v0 :: st) h := by
  rw [x_ev_call (Or.inl ⟨i, rfl⟩)]
  exact ⟨by simp, by simpa using h8, _, h1, by simpa using hK, by simpa using k⟩
theorem xc_s6_1 {i : Nat} {v0 v1 v2 v3 v4 v5 : Value} {w : Value} {h1 : xH} (ha : a < 1000) (hK : x_calX Pg X a [v0, v1, v2, v3, v4, v5] h (some w) h1) (h8 : (st.map Value.category).sum ≤ 8) (k : x_ev nm tf fn Pg X j rt r h' is (pc + n) ls (w :: st) h1) : x_ev nm tf fn Pg X j rt r h' ((.invokestatic i, n, a, 6) :: is) pc ls (v5 :: v4 :: v3 :: v2 :: v1 :: v0 :: st) h := by
  rw [x_ev_call (Or.inr ⟨ha, Or.inl ⟨i, rfl⟩⟩)]
  exact ⟨by simp, by simpa using h8, _, h1, by simpa using hK, by simpa using k⟩
theorem xc_s6_0 {i : Nat} {v0 v1 v2 v3 v4 v5 : Value} {h1 : xH} (ha : a < 1000) (hK : x_calX Pg X a [v0, v1, v2, v3, v4, v5] h (none) h1) (h8 : (st.map Value.category).sum ≤ 8) (k : x_ev nm tf fn Pg X j rt r h' is (pc + n) ls (st) h1) : x_ev nm tf fn Pg X j rt r h' ((.invokestatic i, n, a, 6) :: is) pc ls (v5 :: v4 :: v3 :: v2 :: v1 :: v0 :: st) h := by
  rw [x_ev_call (Or.inr ⟨ha, Or.inl ⟨i, rfl⟩⟩)]
  exact ⟨by simp, by simpa using h8, _, h1, by simpa using hK, by simpa using k⟩
theorem xc_i6_1 {i : Nat} {v0 v1 v2 v3 v4 v5 : Value} {w : Value} {h1 : xH} (ha : a < 1000) (hK : x_calX Pg X a [v0, v1, v2, v3, v4, v5] h (some w) h1) (h8 : (st.map Value.category).sum ≤ 8) (k : x_ev nm tf fn Pg X j rt r h' is (pc + n) ls (w :: st) h1) : x_ev nm tf fn Pg X j rt r h' ((.invokespecial i, n, a, 6) :: is) pc ls (v5 :: v4 :: v3 :: v2 :: v1 :: v0 :: st) h := by
  rw [x_ev_call (Or.inr ⟨ha, Or.inr ⟨i, rfl⟩⟩)]
  exact ⟨by simp, by simpa using h8, _, h1, by simpa using hK, by simpa using k⟩
theorem xc_i6_0 {i : Nat} {v0 v1 v2 v3 v4 v5 : Value} {h1 : xH} (ha : a < 1000) (hK : x_calX Pg X a [v0, v1, v2, v3, v4, v5] h (none) h1) (h8 : (st.map Value.category).sum ≤ 8) (k : x_ev nm tf fn Pg X j rt r h' is (pc + n) ls (st) h1) : x_ev nm tf fn Pg X j rt r h' ((.invokespecial i, n, a, 6) :: is) pc ls (v5 :: v4 :: v3 :: v2 :: v1 :: v0 :: st) h := by
  rw [x_ev_call (Or.inr ⟨ha, Or.inr ⟨i, rfl⟩⟩)]
  exact ⟨by simp, by simpa using h8, _, h1, by simpa using hK, by simpa using k⟩
end XSR
end
section
/-! block rules and entries of the methods: by program (wip/whole/gen15.py) -/
abbrev x_EV : xR := x_Ev x_nm x_tf x_fn x_Pg
/-- method a, called with these values on that heap, answers r and leaves h1 -/
abbrev xK (a : Nat) (vs : List Value) (h : xH) (r : Option Value) (h1 : xH) : Prop := x_calX x_Pg x_EV a vs h r h1
section XKE
variable {Pg : List xM} {X : xR} {K : xM} {a o ci : Nat} {vs fs : List Value} {h h1 : xH} {r : Option Value} {ls : xL}
theorem x_calX_v (hK : Pg[a]? = some K) (hk : xm_k K = 1) (hci : xm_ci K = ci) (hl : (x_args (.ref o :: vs)).length ≤ xm_L K) (he : x_entry (xm_L K) (.ref o :: vs) = ls) (ho : h[o]? = some (.inr (ci, fs))) (H : X a 0 ls [] h r h1) : x_calX Pg X a (.ref o :: vs) h r h1 := by
  unfold x_calX
  rw [hK]
  refine ⟨?_, hl, by rw [he]; exact H⟩
  unfold x_recv
  split
  · trivial
  · dsimp only
    rw [ho]
    exact hci.symm
  · rename_i z1 z2
    exact absurd hk z2
theorem x_calX_s (hK : Pg[a]? = some K) (hk : xm_k K = 0) (hl : (x_args vs).length ≤ xm_L K) (he : x_entry (xm_L K) vs = ls) (H : X a 0 ls [] h r h1) : x_calX Pg X a vs h r h1 := by
  unfold x_calX
  rw [hK]
  refine ⟨?_, hl, by rw [he]; exact H⟩
  unfold x_recv
  split
  · trivial
  · rename_i z
    rw [hk] at z
    cases z
  · rename_i z1 z2
    exact absurd hk z1
theorem x_calX_i (hK : Pg[a]? = some K) (hk : xm_k K = 2) (hl : (x_args (.ref o :: vs)).length ≤ xm_L K) (he : x_entry (xm_L K) (.ref o :: vs) = ls) (H : X a 0 ls [] h r h1) : x_calX Pg X a (.ref o :: vs) h r h1 := by
  unfold x_calX
  rw [hK]
  refine ⟨?_, hl, by rw [he]; exact H⟩
  unfold x_recv
  split
  · trivial
  · rename_i z
    rw [hk] at z
    cases z
  · trivial
end XKE
theorem pg_X1_init : x_Pg[0]? = some xm_X1_init := by
  unfold x_Pg
  rfl
theorem xe_X1_init_0 {ls : xL} {st : List Value} {h h' : xH} {r : Option Value} (H : x_ev x_nm x_tf x_fn x_Pg x_EV 0 none r h' xb_X1_init_0 0 ls st h) : x_EV 0 0 ls st h r h' := x_Ev_to (M := xm_X1_init) (is := xb_X1_init_0) pg_X1_init (by rfl) H
theorem xe_X1_init_63 {ls : xL} {st : List Value} {h h' : xH} {r : Option Value} (H : x_ev x_nm x_tf x_fn x_Pg x_EV 0 none r h' xb_X1_init_63 63 ls st h) : x_EV 0 63 ls st h r h' := x_Ev_to (M := xm_X1_init) (is := xb_X1_init_63) pg_X1_init (by rfl) H
theorem xe_X1_init_85 {ls : xL} {st : List Value} {h h' : xH} {r : Option Value} (H : x_ev x_nm x_tf x_fn x_Pg x_EV 0 none r h' xb_X1_init_85 85 ls st h) : x_EV 0 85 ls st h r h' := x_Ev_to (M := xm_X1_init) (is := xb_X1_init_85) pg_X1_init (by rfl) H
theorem xe_X1_init_87 {ls : xL} {st : List Value} {h h' : xH} {r : Option Value} (H : x_ev x_nm x_tf x_fn x_Pg x_EV 0 none r h' xb_X1_init_87 87 ls st h) : x_EV 0 87 ls st h r h' := x_Ev_to (M := xm_X1_init) (is := xb_X1_init_87) pg_X1_init (by rfl) H
theorem xe_X1_init_106 {ls : xL} {st : List Value} {h h' : xH} {r : Option Value} (H : x_ev x_nm x_tf x_fn x_Pg x_EV 0 none r h' xb_X1_init_106 106 ls st h) : x_EV 0 106 ls st h r h' := x_Ev_to (M := xm_X1_init) (is := xb_X1_init_106) pg_X1_init (by rfl) H
theorem xK_X1_init {o : Nat}  {h h1 : xH} {r : Option Value} (H : x_EV 0 0 [some (.ref o), none] [] h r h1) : xK 0 [.ref o] h r h1 := x_calX_i pg_X1_init rfl (Nat.le_of_ble_eq_true rfl) rfl H
theorem pg_X4_init : x_Pg[1]? = some xm_X4_init := by
  unfold x_Pg
  rfl
theorem xe_X4_init_0 {ls : xL} {st : List Value} {h h' : xH} {r : Option Value} (H : x_ev x_nm x_tf x_fn x_Pg x_EV 1 none r h' xb_X4_init_0 0 ls st h) : x_EV 1 0 ls st h r h' := x_Ev_to (M := xm_X4_init) (is := xb_X4_init_0) pg_X4_init (by rfl) H
theorem xK_X4_init {o : Nat}  {h h1 : xH} {r : Option Value} (H : x_EV 1 0 [some (.ref o)] [] h r h1) : xK 1 [.ref o] h r h1 := x_calX_i pg_X4_init rfl (Nat.le_of_ble_eq_true rfl) rfl H
theorem pg_X6_init : x_Pg[2]? = some xm_X6_init := by
  unfold x_Pg
  rfl
theorem xe_X6_init_0 {ls : xL} {st : List Value} {h h' : xH} {r : Option Value} (H : x_ev x_nm x_tf x_fn x_Pg x_EV 2 none r h' xb_X6_init_0 0 ls st h) : x_EV 2 0 ls st h r h' := x_Ev_to (M := xm_X6_init) (is := xb_X6_init_0) pg_X6_init (by rfl) H
theorem xK_X6_init {o : Nat}  {h h1 : xH} {r : Option Value} (H : x_EV 2 0 [some (.ref o)] [] h r h1) : xK 2 [.ref o] h r h1 := x_calX_i pg_X6_init rfl (Nat.le_of_ble_eq_true rfl) rfl H
theorem pg_X5_init : x_Pg[3]? = some xm_X5_init := by
  unfold x_Pg
  rfl
theorem xe_X5_init_0 {ls : xL} {st : List Value} {h h' : xH} {r : Option Value} (H : x_ev x_nm x_tf x_fn x_Pg x_EV 3 none r h' xb_X5_init_0 0 ls st h) : x_EV 3 0 ls st h r h' := x_Ev_to (M := xm_X5_init) (is := xb_X5_init_0) pg_X5_init (by rfl) H
theorem xe_X5_init_25 {ls : xL} {st : List Value} {h h' : xH} {r : Option Value} (H : x_ev x_nm x_tf x_fn x_Pg x_EV 3 none r h' xb_X5_init_25 25 ls st h) : x_EV 3 25 ls st h r h' := x_Ev_to (M := xm_X5_init) (is := xb_X5_init_25) pg_X5_init (by rfl) H
theorem xe_X5_init_50 {ls : xL} {st : List Value} {h h' : xH} {r : Option Value} (H : x_ev x_nm x_tf x_fn x_Pg x_EV 3 none r h' xb_X5_init_50 50 ls st h) : x_EV 3 50 ls st h r h' := x_Ev_to (M := xm_X5_init) (is := xb_X5_init_50) pg_X5_init (by rfl) H
theorem xK_X5_init {o : Nat}  {h h1 : xH} {r : Option Value} (H : x_EV 3 0 [some (.ref o), none] [] h r h1) : xK 3 [.ref o] h r h1 := x_calX_i pg_X5_init rfl (Nat.le_of_ble_eq_true rfl) rfl H
theorem pg_X0_spanPlace : x_Pg[4]? = some xm_X0_spanPlace := by
  unfold x_Pg
  rfl
theorem xe_X0_spanPlace_0 {ls : xL} {st : List Value} {h h' : xH} {r : Option Value} (H : x_ev x_nm x_tf x_fn x_Pg x_EV 4 (some .int) r h' xb_X0_spanPlace_0 0 ls st h) : x_EV 4 0 ls st h r h' := x_Ev_to (M := xm_X0_spanPlace) (is := xb_X0_spanPlace_0) pg_X0_spanPlace (by rfl) H
theorem xK_X0_spanPlace {x1 : Int32} {x2 : Int32} {x3 : Int32} {x4 : Int32} {h h1 : xH} {r : Option Value} (H : x_EV 4 0 [some (.int x1), some (.int x2), some (.int x3), some (.int x4)] [] h r h1) : xK 4 [.int x1, .int x2, .int x3, .int x4] h r h1 := x_calX_s pg_X0_spanPlace rfl (Nat.le_of_ble_eq_true rfl) rfl H
theorem pg_X0_init : x_Pg[5]? = some xm_X0_init := by
  unfold x_Pg
  rfl
theorem xe_X0_init_0 {ls : xL} {st : List Value} {h h' : xH} {r : Option Value} (H : x_ev x_nm x_tf x_fn x_Pg x_EV 5 none r h' xb_X0_init_0 0 ls st h) : x_EV 5 0 ls st h r h' := x_Ev_to (M := xm_X0_init) (is := xb_X0_init_0) pg_X0_init (by rfl) H
theorem xe_X0_init_63 {ls : xL} {st : List Value} {h h' : xH} {r : Option Value} (H : x_ev x_nm x_tf x_fn x_Pg x_EV 5 none r h' xb_X0_init_63 63 ls st h) : x_EV 5 63 ls st h r h' := x_Ev_to (M := xm_X0_init) (is := xb_X0_init_63) pg_X0_init (by rfl) H
theorem xe_X0_init_71 {ls : xL} {st : List Value} {h h' : xH} {r : Option Value} (H : x_ev x_nm x_tf x_fn x_Pg x_EV 5 none r h' xb_X0_init_71 71 ls st h) : x_EV 5 71 ls st h r h' := x_Ev_to (M := xm_X0_init) (is := xb_X0_init_71) pg_X0_init (by rfl) H
theorem xe_X0_init_79 {ls : xL} {st : List Value} {h h' : xH} {r : Option Value} (H : x_ev x_nm x_tf x_fn x_Pg x_EV 5 none r h' xb_X0_init_79 79 ls st h) : x_EV 5 79 ls st h r h' := x_Ev_to (M := xm_X0_init) (is := xb_X0_init_79) pg_X0_init (by rfl) H
theorem xe_X0_init_105 {ls : xL} {st : List Value} {h h' : xH} {r : Option Value} (H : x_ev x_nm x_tf x_fn x_Pg x_EV 5 none r h' xb_X0_init_105 105 ls st h) : x_EV 5 105 ls st h r h' := x_Ev_to (M := xm_X0_init) (is := xb_X0_init_105) pg_X0_init (by rfl) H
theorem xe_X0_init_111 {ls : xL} {st : List Value} {h h' : xH} {r : Option Value} (H : x_ev x_nm x_tf x_fn x_Pg x_EV 5 none r h' xb_X0_init_111 111 ls st h) : x_EV 5 111 ls st h r h' := x_Ev_to (M := xm_X0_init) (is := xb_X0_init_111) pg_X0_init (by rfl) H
theorem xe_X0_init_117 {ls : xL} {st : List Value} {h h' : xH} {r : Option Value} (H : x_ev x_nm x_tf x_fn x_Pg x_EV 5 none r h' xb_X0_init_117 117 ls st h) : x_EV 5 117 ls st h r h' := x_Ev_to (M := xm_X0_init) (is := xb_X0_init_117) pg_X0_init (by rfl) H
theorem xK_X0_init {o : Nat}  {h h1 : xH} {r : Option Value} (H : x_EV 5 0 [some (.ref o), none, none, none] [] h r h1) : xK 5 [.ref o] h r h1 := x_calX_i pg_X0_init rfl (Nat.le_of_ble_eq_true rfl) rfl H
theorem pg_X3_init : x_Pg[6]? = some xm_X3_init := by
  unfold x_Pg
  rfl
theorem xe_X3_init_0 {ls : xL} {st : List Value} {h h' : xH} {r : Option Value} (H : x_ev x_nm x_tf x_fn x_Pg x_EV 6 none r h' xb_X3_init_0 0 ls st h) : x_EV 6 0 ls st h r h' := x_Ev_to (M := xm_X3_init) (is := xb_X3_init_0) pg_X3_init (by rfl) H
theorem xK_X3_init {o : Nat}  {h h1 : xH} {r : Option Value} (H : x_EV 6 0 [some (.ref o)] [] h r h1) : xK 6 [.ref o] h r h1 := x_calX_i pg_X3_init rfl (Nat.le_of_ble_eq_true rfl) rfl H
theorem pg_X7_init : x_Pg[7]? = some xm_X7_init := by
  unfold x_Pg
  rfl
theorem xe_X7_init_0 {ls : xL} {st : List Value} {h h' : xH} {r : Option Value} (H : x_ev x_nm x_tf x_fn x_Pg x_EV 7 none r h' xb_X7_init_0 0 ls st h) : x_EV 7 0 ls st h r h' := x_Ev_to (M := xm_X7_init) (is := xb_X7_init_0) pg_X7_init (by rfl) H
theorem xK_X7_init {o : Nat}  {h h1 : xH} {r : Option Value} (H : x_EV 7 0 [some (.ref o)] [] h r h1) : xK 7 [.ref o] h r h1 := x_calX_i pg_X7_init rfl (Nat.le_of_ble_eq_true rfl) rfl H
theorem pg_X8_laysHeads : x_Pg[8]? = some xm_X8_laysHeads := by
  unfold x_Pg
  rfl
theorem xe_X8_laysHeads_0 {ls : xL} {st : List Value} {h h' : xH} {r : Option Value} (H : x_ev x_nm x_tf x_fn x_Pg x_EV 8 none r h' xb_X8_laysHeads_0 0 ls st h) : x_EV 8 0 ls st h r h' := x_Ev_to (M := xm_X8_laysHeads) (is := xb_X8_laysHeads_0) pg_X8_laysHeads (by rfl) H
theorem xe_X8_laysHeads_5 {ls : xL} {st : List Value} {h h' : xH} {r : Option Value} (H : x_ev x_nm x_tf x_fn x_Pg x_EV 8 none r h' xb_X8_laysHeads_5 5 ls st h) : x_EV 8 5 ls st h r h' := x_Ev_to (M := xm_X8_laysHeads) (is := xb_X8_laysHeads_5) pg_X8_laysHeads (by rfl) H
theorem xe_X8_laysHeads_35 {ls : xL} {st : List Value} {h h' : xH} {r : Option Value} (H : x_ev x_nm x_tf x_fn x_Pg x_EV 8 none r h' xb_X8_laysHeads_35 35 ls st h) : x_EV 8 35 ls st h r h' := x_Ev_to (M := xm_X8_laysHeads) (is := xb_X8_laysHeads_35) pg_X8_laysHeads (by rfl) H
theorem xK_X8_laysHeads {o : Nat} {x1 : Int32} {x2 : Int32} {h h1 : xH} {r : Option Value} {fs : List Value} (ho : h[o]? = some (.inr (7, fs))) (H : x_EV 8 0 [some (.ref o), some (.int x1), some (.int x2), none, none] [] h r h1) : xK 8 [.ref o, .int x1, .int x2] h r h1 := x_calX_v pg_X8_laysHeads rfl rfl (Nat.le_of_ble_eq_true rfl) rfl ho H
theorem pg_X8_comesTo : x_Pg[9]? = some xm_X8_comesTo := by
  unfold x_Pg
  rfl
theorem xe_X8_comesTo_0 {ls : xL} {st : List Value} {h h' : xH} {r : Option Value} (H : x_ev x_nm x_tf x_fn x_Pg x_EV 9 (some .boolean) r h' xb_X8_comesTo_0 0 ls st h) : x_EV 9 0 ls st h r h' := x_Ev_to (M := xm_X8_comesTo) (is := xb_X8_comesTo_0) pg_X8_comesTo (by rfl) H
theorem xe_X8_comesTo_5 {ls : xL} {st : List Value} {h h' : xH} {r : Option Value} (H : x_ev x_nm x_tf x_fn x_Pg x_EV 9 (some .boolean) r h' xb_X8_comesTo_5 5 ls st h) : x_EV 9 5 ls st h r h' := x_Ev_to (M := xm_X8_comesTo) (is := xb_X8_comesTo_5) pg_X8_comesTo (by rfl) H
theorem xe_X8_comesTo_34 {ls : xL} {st : List Value} {h h' : xH} {r : Option Value} (H : x_ev x_nm x_tf x_fn x_Pg x_EV 9 (some .boolean) r h' xb_X8_comesTo_34 34 ls st h) : x_EV 9 34 ls st h r h' := x_Ev_to (M := xm_X8_comesTo) (is := xb_X8_comesTo_34) pg_X8_comesTo (by rfl) H
theorem xe_X8_comesTo_43 {ls : xL} {st : List Value} {h h' : xH} {r : Option Value} (H : x_ev x_nm x_tf x_fn x_Pg x_EV 9 (some .boolean) r h' xb_X8_comesTo_43 43 ls st h) : x_EV 9 43 ls st h r h' := x_Ev_to (M := xm_X8_comesTo) (is := xb_X8_comesTo_43) pg_X8_comesTo (by rfl) H
theorem xe_X8_comesTo_44 {ls : xL} {st : List Value} {h h' : xH} {r : Option Value} (H : x_ev x_nm x_tf x_fn x_Pg x_EV 9 (some .boolean) r h' xb_X8_comesTo_44 44 ls st h) : x_EV 9 44 ls st h r h' := x_Ev_to (M := xm_X8_comesTo) (is := xb_X8_comesTo_44) pg_X8_comesTo (by rfl) H
theorem xK_X8_comesTo {o : Nat} {x1 : Int32} {x2 : Int32} {h h1 : xH} {r : Option Value} {fs : List Value} (ho : h[o]? = some (.inr (7, fs))) (H : x_EV 9 0 [some (.ref o), some (.int x1), some (.int x2), none, none] [] h r h1) : xK 9 [.ref o, .int x1, .int x2] h r h1 := x_calX_v pg_X8_comesTo rfl rfl (Nat.le_of_ble_eq_true rfl) rfl ho H
theorem pg_X8_isBridged : x_Pg[10]? = some xm_X8_isBridged := by
  unfold x_Pg
  rfl
theorem xe_X8_isBridged_0 {ls : xL} {st : List Value} {h h' : xH} {r : Option Value} (H : x_ev x_nm x_tf x_fn x_Pg x_EV 10 (some .boolean) r h' xb_X8_isBridged_0 0 ls st h) : x_EV 10 0 ls st h r h' := x_Ev_to (M := xm_X8_isBridged) (is := xb_X8_isBridged_0) pg_X8_isBridged (by rfl) H
theorem xe_X8_isBridged_19 {ls : xL} {st : List Value} {h h' : xH} {r : Option Value} (H : x_ev x_nm x_tf x_fn x_Pg x_EV 10 (some .boolean) r h' xb_X8_isBridged_19 19 ls st h) : x_EV 10 19 ls st h r h' := x_Ev_to (M := xm_X8_isBridged) (is := xb_X8_isBridged_19) pg_X8_isBridged (by rfl) H
theorem xe_X8_isBridged_20 {ls : xL} {st : List Value} {h h' : xH} {r : Option Value} (H : x_ev x_nm x_tf x_fn x_Pg x_EV 10 (some .boolean) r h' xb_X8_isBridged_20 20 ls st h) : x_EV 10 20 ls st h r h' := x_Ev_to (M := xm_X8_isBridged) (is := xb_X8_isBridged_20) pg_X8_isBridged (by rfl) H
theorem xe_X8_isBridged_35 {ls : xL} {st : List Value} {h h' : xH} {r : Option Value} (H : x_ev x_nm x_tf x_fn x_Pg x_EV 10 (some .boolean) r h' xb_X8_isBridged_35 35 ls st h) : x_EV 10 35 ls st h r h' := x_Ev_to (M := xm_X8_isBridged) (is := xb_X8_isBridged_35) pg_X8_isBridged (by rfl) H
theorem xe_X8_isBridged_41 {ls : xL} {st : List Value} {h h' : xH} {r : Option Value} (H : x_ev x_nm x_tf x_fn x_Pg x_EV 10 (some .boolean) r h' xb_X8_isBridged_41 41 ls st h) : x_EV 10 41 ls st h r h' := x_Ev_to (M := xm_X8_isBridged) (is := xb_X8_isBridged_41) pg_X8_isBridged (by rfl) H
theorem xe_X8_isBridged_50 {ls : xL} {st : List Value} {h h' : xH} {r : Option Value} (H : x_ev x_nm x_tf x_fn x_Pg x_EV 10 (some .boolean) r h' xb_X8_isBridged_50 50 ls st h) : x_EV 10 50 ls st h r h' := x_Ev_to (M := xm_X8_isBridged) (is := xb_X8_isBridged_50) pg_X8_isBridged (by rfl) H
theorem xe_X8_isBridged_80 {ls : xL} {st : List Value} {h h' : xH} {r : Option Value} (H : x_ev x_nm x_tf x_fn x_Pg x_EV 10 (some .boolean) r h' xb_X8_isBridged_80 80 ls st h) : x_EV 10 80 ls st h r h' := x_Ev_to (M := xm_X8_isBridged) (is := xb_X8_isBridged_80) pg_X8_isBridged (by rfl) H
theorem xe_X8_isBridged_81 {ls : xL} {st : List Value} {h h' : xH} {r : Option Value} (H : x_ev x_nm x_tf x_fn x_Pg x_EV 10 (some .boolean) r h' xb_X8_isBridged_81 81 ls st h) : x_EV 10 81 ls st h r h' := x_Ev_to (M := xm_X8_isBridged) (is := xb_X8_isBridged_81) pg_X8_isBridged (by rfl) H
theorem xe_X8_isBridged_89 {ls : xL} {st : List Value} {h h' : xH} {r : Option Value} (H : x_ev x_nm x_tf x_fn x_Pg x_EV 10 (some .boolean) r h' xb_X8_isBridged_89 89 ls st h) : x_EV 10 89 ls st h r h' := x_Ev_to (M := xm_X8_isBridged) (is := xb_X8_isBridged_89) pg_X8_isBridged (by rfl) H
theorem xK_X8_isBridged {o : Nat} {x1 : Int32} {h h1 : xH} {r : Option Value} {fs : List Value} (ho : h[o]? = some (.inr (7, fs))) (H : x_EV 10 0 [some (.ref o), some (.int x1), none, none, none, none] [] h r h1) : xK 10 [.ref o, .int x1] h r h1 := x_calX_v pg_X8_isBridged rfl rfl (Nat.le_of_ble_eq_true rfl) rfl ho H
theorem pg_X8_isTree : x_Pg[11]? = some xm_X8_isTree := by
  unfold x_Pg
  rfl
theorem xe_X8_isTree_0 {ls : xL} {st : List Value} {h h' : xH} {r : Option Value} (H : x_ev x_nm x_tf x_fn x_Pg x_EV 11 (some .boolean) r h' xb_X8_isTree_0 0 ls st h) : x_EV 11 0 ls st h r h' := x_Ev_to (M := xm_X8_isTree) (is := xb_X8_isTree_0) pg_X8_isTree (by rfl) H
theorem xe_X8_isTree_7 {ls : xL} {st : List Value} {h h' : xH} {r : Option Value} (H : x_ev x_nm x_tf x_fn x_Pg x_EV 11 (some .boolean) r h' xb_X8_isTree_7 7 ls st h) : x_EV 11 7 ls st h r h' := x_Ev_to (M := xm_X8_isTree) (is := xb_X8_isTree_7) pg_X8_isTree (by rfl) H
theorem xe_X8_isTree_28 {ls : xL} {st : List Value} {h h' : xH} {r : Option Value} (H : x_ev x_nm x_tf x_fn x_Pg x_EV 11 (some .boolean) r h' xb_X8_isTree_28 28 ls st h) : x_EV 11 28 ls st h r h' := x_Ev_to (M := xm_X8_isTree) (is := xb_X8_isTree_28) pg_X8_isTree (by rfl) H
theorem xe_X8_isTree_29 {ls : xL} {st : List Value} {h h' : xH} {r : Option Value} (H : x_ev x_nm x_tf x_fn x_Pg x_EV 11 (some .boolean) r h' xb_X8_isTree_29 29 ls st h) : x_EV 11 29 ls st h r h' := x_Ev_to (M := xm_X8_isTree) (is := xb_X8_isTree_29) pg_X8_isTree (by rfl) H
theorem xe_X8_isTree_61 {ls : xL} {st : List Value} {h h' : xH} {r : Option Value} (H : x_ev x_nm x_tf x_fn x_Pg x_EV 11 (some .boolean) r h' xb_X8_isTree_61 61 ls st h) : x_EV 11 61 ls st h r h' := x_Ev_to (M := xm_X8_isTree) (is := xb_X8_isTree_61) pg_X8_isTree (by rfl) H
theorem xe_X8_isTree_62 {ls : xL} {st : List Value} {h h' : xH} {r : Option Value} (H : x_ev x_nm x_tf x_fn x_Pg x_EV 11 (some .boolean) r h' xb_X8_isTree_62 62 ls st h) : x_EV 11 62 ls st h r h' := x_Ev_to (M := xm_X8_isTree) (is := xb_X8_isTree_62) pg_X8_isTree (by rfl) H
theorem xe_X8_isTree_69 {ls : xL} {st : List Value} {h h' : xH} {r : Option Value} (H : x_ev x_nm x_tf x_fn x_Pg x_EV 11 (some .boolean) r h' xb_X8_isTree_69 69 ls st h) : x_EV 11 69 ls st h r h' := x_Ev_to (M := xm_X8_isTree) (is := xb_X8_isTree_69) pg_X8_isTree (by rfl) H
theorem xe_X8_isTree_72 {ls : xL} {st : List Value} {h h' : xH} {r : Option Value} (H : x_ev x_nm x_tf x_fn x_Pg x_EV 11 (some .boolean) r h' xb_X8_isTree_72 72 ls st h) : x_EV 11 72 ls st h r h' := x_Ev_to (M := xm_X8_isTree) (is := xb_X8_isTree_72) pg_X8_isTree (by rfl) H
theorem xe_X8_isTree_101 {ls : xL} {st : List Value} {h h' : xH} {r : Option Value} (H : x_ev x_nm x_tf x_fn x_Pg x_EV 11 (some .boolean) r h' xb_X8_isTree_101 101 ls st h) : x_EV 11 101 ls st h r h' := x_Ev_to (M := xm_X8_isTree) (is := xb_X8_isTree_101) pg_X8_isTree (by rfl) H
theorem xe_X8_isTree_105 {ls : xL} {st : List Value} {h h' : xH} {r : Option Value} (H : x_ev x_nm x_tf x_fn x_Pg x_EV 11 (some .boolean) r h' xb_X8_isTree_105 105 ls st h) : x_EV 11 105 ls st h r h' := x_Ev_to (M := xm_X8_isTree) (is := xb_X8_isTree_105) pg_X8_isTree (by rfl) H
theorem xe_X8_isTree_106 {ls : xL} {st : List Value} {h h' : xH} {r : Option Value} (H : x_ev x_nm x_tf x_fn x_Pg x_EV 11 (some .boolean) r h' xb_X8_isTree_106 106 ls st h) : x_EV 11 106 ls st h r h' := x_Ev_to (M := xm_X8_isTree) (is := xb_X8_isTree_106) pg_X8_isTree (by rfl) H
theorem xe_X8_isTree_113 {ls : xL} {st : List Value} {h h' : xH} {r : Option Value} (H : x_ev x_nm x_tf x_fn x_Pg x_EV 11 (some .boolean) r h' xb_X8_isTree_113 113 ls st h) : x_EV 11 113 ls st h r h' := x_Ev_to (M := xm_X8_isTree) (is := xb_X8_isTree_113) pg_X8_isTree (by rfl) H
theorem xe_X8_isTree_126 {ls : xL} {st : List Value} {h h' : xH} {r : Option Value} (H : x_ev x_nm x_tf x_fn x_Pg x_EV 11 (some .boolean) r h' xb_X8_isTree_126 126 ls st h) : x_EV 11 126 ls st h r h' := x_Ev_to (M := xm_X8_isTree) (is := xb_X8_isTree_126) pg_X8_isTree (by rfl) H
theorem xe_X8_isTree_127 {ls : xL} {st : List Value} {h h' : xH} {r : Option Value} (H : x_ev x_nm x_tf x_fn x_Pg x_EV 11 (some .boolean) r h' xb_X8_isTree_127 127 ls st h) : x_EV 11 127 ls st h r h' := x_Ev_to (M := xm_X8_isTree) (is := xb_X8_isTree_127) pg_X8_isTree (by rfl) H
theorem xK_X8_isTree {o : Nat} {x1 : Int32} {h h1 : xH} {r : Option Value} {fs : List Value} (ho : h[o]? = some (.inr (7, fs))) (H : x_EV 11 0 [some (.ref o), some (.int x1), none, none, none] [] h r h1) : xK 11 [.ref o, .int x1] h r h1 := x_calX_v pg_X8_isTree rfl rfl (Nat.le_of_ble_eq_true rfl) rfl ho H
theorem pg_X8_laysTrees : x_Pg[12]? = some xm_X8_laysTrees := by
  unfold x_Pg
  rfl
theorem xe_X8_laysTrees_0 {ls : xL} {st : List Value} {h h' : xH} {r : Option Value} (H : x_ev x_nm x_tf x_fn x_Pg x_EV 12 none r h' xb_X8_laysTrees_0 0 ls st h) : x_EV 12 0 ls st h r h' := x_Ev_to (M := xm_X8_laysTrees) (is := xb_X8_laysTrees_0) pg_X8_laysTrees (by rfl) H
theorem xe_X8_laysTrees_4 {ls : xL} {st : List Value} {h h' : xH} {r : Option Value} (H : x_ev x_nm x_tf x_fn x_Pg x_EV 12 none r h' xb_X8_laysTrees_4 4 ls st h) : x_EV 12 4 ls st h r h' := x_Ev_to (M := xm_X8_laysTrees) (is := xb_X8_laysTrees_4) pg_X8_laysTrees (by rfl) H
theorem xe_X8_laysTrees_22 {ls : xL} {st : List Value} {h h' : xH} {r : Option Value} (H : x_ev x_nm x_tf x_fn x_Pg x_EV 12 none r h' xb_X8_laysTrees_22 22 ls st h) : x_EV 12 22 ls st h r h' := x_Ev_to (M := xm_X8_laysTrees) (is := xb_X8_laysTrees_22) pg_X8_laysTrees (by rfl) H
theorem xe_X8_laysTrees_40 {ls : xL} {st : List Value} {h h' : xH} {r : Option Value} (H : x_ev x_nm x_tf x_fn x_Pg x_EV 12 none r h' xb_X8_laysTrees_40 40 ls st h) : x_EV 12 40 ls st h r h' := x_Ev_to (M := xm_X8_laysTrees) (is := xb_X8_laysTrees_40) pg_X8_laysTrees (by rfl) H
theorem xe_X8_laysTrees_43 {ls : xL} {st : List Value} {h h' : xH} {r : Option Value} (H : x_ev x_nm x_tf x_fn x_Pg x_EV 12 none r h' xb_X8_laysTrees_43 43 ls st h) : x_EV 12 43 ls st h r h' := x_Ev_to (M := xm_X8_laysTrees) (is := xb_X8_laysTrees_43) pg_X8_laysTrees (by rfl) H
theorem xe_X8_laysTrees_82 {ls : xL} {st : List Value} {h h' : xH} {r : Option Value} (H : x_ev x_nm x_tf x_fn x_Pg x_EV 12 none r h' xb_X8_laysTrees_82 82 ls st h) : x_EV 12 82 ls st h r h' := x_Ev_to (M := xm_X8_laysTrees) (is := xb_X8_laysTrees_82) pg_X8_laysTrees (by rfl) H
theorem xe_X8_laysTrees_88 {ls : xL} {st : List Value} {h h' : xH} {r : Option Value} (H : x_ev x_nm x_tf x_fn x_Pg x_EV 12 none r h' xb_X8_laysTrees_88 88 ls st h) : x_EV 12 88 ls st h r h' := x_Ev_to (M := xm_X8_laysTrees) (is := xb_X8_laysTrees_88) pg_X8_laysTrees (by rfl) H
theorem xe_X8_laysTrees_94 {ls : xL} {st : List Value} {h h' : xH} {r : Option Value} (H : x_ev x_nm x_tf x_fn x_Pg x_EV 12 none r h' xb_X8_laysTrees_94 94 ls st h) : x_EV 12 94 ls st h r h' := x_Ev_to (M := xm_X8_laysTrees) (is := xb_X8_laysTrees_94) pg_X8_laysTrees (by rfl) H
theorem xK_X8_laysTrees {o : Nat}  {h h1 : xH} {r : Option Value} {fs : List Value} (ho : h[o]? = some (.inr (7, fs))) (H : x_EV 12 0 [some (.ref o), none, none, none, none] [] h r h1) : xK 12 [.ref o] h r h1 := x_calX_v pg_X8_laysTrees rfl rfl (Nat.le_of_ble_eq_true rfl) rfl ho H
theorem pg_X8_init : x_Pg[13]? = some xm_X8_init := by
  unfold x_Pg
  rfl
theorem xe_X8_init_0 {ls : xL} {st : List Value} {h h' : xH} {r : Option Value} (H : x_ev x_nm x_tf x_fn x_Pg x_EV 13 none r h' xb_X8_init_0 0 ls st h) : x_EV 13 0 ls st h r h' := x_Ev_to (M := xm_X8_init) (is := xb_X8_init_0) pg_X8_init (by rfl) H
theorem xe_X8_init_129 {ls : xL} {st : List Value} {h h' : xH} {r : Option Value} (H : x_ev x_nm x_tf x_fn x_Pg x_EV 13 none r h' xb_X8_init_129 129 ls st h) : x_EV 13 129 ls st h r h' := x_Ev_to (M := xm_X8_init) (is := xb_X8_init_129) pg_X8_init (by rfl) H
theorem xe_X8_init_148 {ls : xL} {st : List Value} {h h' : xH} {r : Option Value} (H : x_ev x_nm x_tf x_fn x_Pg x_EV 13 none r h' xb_X8_init_148 148 ls st h) : x_EV 13 148 ls st h r h' := x_Ev_to (M := xm_X8_init) (is := xb_X8_init_148) pg_X8_init (by rfl) H
theorem xK_X8_init {o : Nat}  {h h1 : xH} {r : Option Value} (H : x_EV 13 0 [some (.ref o), none] [] h r h1) : xK 13 [.ref o] h r h1 := x_calX_i pg_X8_init rfl (Nat.le_of_ble_eq_true rfl) rfl H
theorem pg_X7_isBelow : x_Pg[14]? = some xm_X7_isBelow := by
  unfold x_Pg
  rfl
theorem xe_X7_isBelow_0 {ls : xL} {st : List Value} {h h' : xH} {r : Option Value} (H : x_ev x_nm x_tf x_fn x_Pg x_EV 14 (some .boolean) r h' xb_X7_isBelow_0 0 ls st h) : x_EV 14 0 ls st h r h' := x_Ev_to (M := xm_X7_isBelow) (is := xb_X7_isBelow_0) pg_X7_isBelow (by rfl) H
theorem xe_X7_isBelow_13 {ls : xL} {st : List Value} {h h' : xH} {r : Option Value} (H : x_ev x_nm x_tf x_fn x_Pg x_EV 14 (some .boolean) r h' xb_X7_isBelow_13 13 ls st h) : x_EV 14 13 ls st h r h' := x_Ev_to (M := xm_X7_isBelow) (is := xb_X7_isBelow_13) pg_X7_isBelow (by rfl) H
theorem xe_X7_isBelow_14 {ls : xL} {st : List Value} {h h' : xH} {r : Option Value} (H : x_ev x_nm x_tf x_fn x_Pg x_EV 14 (some .boolean) r h' xb_X7_isBelow_14 14 ls st h) : x_EV 14 14 ls st h r h' := x_Ev_to (M := xm_X7_isBelow) (is := xb_X7_isBelow_14) pg_X7_isBelow (by rfl) H
theorem xK_X7_isBelow {x1 : Int32} {x2 : Int32} {h h1 : xH} {r : Option Value} (H : x_EV 14 0 [some (.int x1), some (.int x2)] [] h r h1) : xK 14 [.int x1, .int x2] h r h1 := x_calX_s pg_X7_isBelow rfl (Nat.le_of_ble_eq_true rfl) rfl H
theorem pg_X7_isRulePlace : x_Pg[15]? = some xm_X7_isRulePlace := by
  unfold x_Pg
  rfl
theorem xe_X7_isRulePlace_0 {ls : xL} {st : List Value} {h h' : xH} {r : Option Value} (H : x_ev x_nm x_tf x_fn x_Pg x_EV 15 (some .boolean) r h' xb_X7_isRulePlace_0 0 ls st h) : x_EV 15 0 ls st h r h' := x_Ev_to (M := xm_X7_isRulePlace) (is := xb_X7_isRulePlace_0) pg_X7_isRulePlace (by rfl) H
theorem xe_X7_isRulePlace_30 {ls : xL} {st : List Value} {h h' : xH} {r : Option Value} (H : x_ev x_nm x_tf x_fn x_Pg x_EV 15 (some .boolean) r h' xb_X7_isRulePlace_30 30 ls st h) : x_EV 15 30 ls st h r h' := x_Ev_to (M := xm_X7_isRulePlace) (is := xb_X7_isRulePlace_30) pg_X7_isRulePlace (by rfl) H
theorem xe_X7_isRulePlace_31 {ls : xL} {st : List Value} {h h' : xH} {r : Option Value} (H : x_ev x_nm x_tf x_fn x_Pg x_EV 15 (some .boolean) r h' xb_X7_isRulePlace_31 31 ls st h) : x_EV 15 31 ls st h r h' := x_Ev_to (M := xm_X7_isRulePlace) (is := xb_X7_isRulePlace_31) pg_X7_isRulePlace (by rfl) H
theorem xK_X7_isRulePlace {x1 : Int32} {x2 : Int32} {x3 : Int32} {h h1 : xH} {r : Option Value} (H : x_EV 15 0 [some (.int x1), some (.int x2), some (.int x3)] [] h r h1) : xK 15 [.int x1, .int x2, .int x3] h r h1 := x_calX_s pg_X7_isRulePlace rfl (Nat.le_of_ble_eq_true rfl) rfl H
theorem pg_X7_isPriceOrNone : x_Pg[16]? = some xm_X7_isPriceOrNone := by
  unfold x_Pg
  rfl
theorem xe_X7_isPriceOrNone_0 {ls : xL} {st : List Value} {h h' : xH} {r : Option Value} (H : x_ev x_nm x_tf x_fn x_Pg x_EV 16 (some .boolean) r h' xb_X7_isPriceOrNone_0 0 ls st h) : x_EV 16 0 ls st h r h' := x_Ev_to (M := xm_X7_isPriceOrNone) (is := xb_X7_isPriceOrNone_0) pg_X7_isPriceOrNone (by rfl) H
theorem xe_X7_isPriceOrNone_15 {ls : xL} {st : List Value} {h h' : xH} {r : Option Value} (H : x_ev x_nm x_tf x_fn x_Pg x_EV 16 (some .boolean) r h' xb_X7_isPriceOrNone_15 15 ls st h) : x_EV 16 15 ls st h r h' := x_Ev_to (M := xm_X7_isPriceOrNone) (is := xb_X7_isPriceOrNone_15) pg_X7_isPriceOrNone (by rfl) H
theorem xe_X7_isPriceOrNone_16 {ls : xL} {st : List Value} {h h' : xH} {r : Option Value} (H : x_ev x_nm x_tf x_fn x_Pg x_EV 16 (some .boolean) r h' xb_X7_isPriceOrNone_16 16 ls st h) : x_EV 16 16 ls st h r h' := x_Ev_to (M := xm_X7_isPriceOrNone) (is := xb_X7_isPriceOrNone_16) pg_X7_isPriceOrNone (by rfl) H
theorem xK_X7_isPriceOrNone {x1 : Int32} {h h1 : xH} {r : Option Value} (H : x_EV 16 0 [some (.int x1)] [] h r h1) : xK 16 [.int x1] h r h1 := x_calX_s pg_X7_isPriceOrNone rfl (Nat.le_of_ble_eq_true rfl) rfl H
theorem pg_X1_whyNoPrice : x_Pg[17]? = some xm_X1_whyNoPrice := by
  unfold x_Pg
  rfl
theorem xe_X1_whyNoPrice_0 {ls : xL} {st : List Value} {h h' : xH} {r : Option Value} (H : x_ev x_nm x_tf x_fn x_Pg x_EV 17 (some .int) r h' xb_X1_whyNoPrice_0 0 ls st h) : x_EV 17 0 ls st h r h' := x_Ev_to (M := xm_X1_whyNoPrice) (is := xb_X1_whyNoPrice_0) pg_X1_whyNoPrice (by rfl) H
theorem xe_X1_whyNoPrice_21 {ls : xL} {st : List Value} {h h' : xH} {r : Option Value} (H : x_ev x_nm x_tf x_fn x_Pg x_EV 17 (some .int) r h' xb_X1_whyNoPrice_21 21 ls st h) : x_EV 17 21 ls st h r h' := x_Ev_to (M := xm_X1_whyNoPrice) (is := xb_X1_whyNoPrice_21) pg_X1_whyNoPrice (by rfl) H
theorem xe_X1_whyNoPrice_23 {ls : xL} {st : List Value} {h h' : xH} {r : Option Value} (H : x_ev x_nm x_tf x_fn x_Pg x_EV 17 (some .int) r h' xb_X1_whyNoPrice_23 23 ls st h) : x_EV 17 23 ls st h r h' := x_Ev_to (M := xm_X1_whyNoPrice) (is := xb_X1_whyNoPrice_23) pg_X1_whyNoPrice (by rfl) H
theorem xK_X1_whyNoPrice {o : Nat} {x1 : Int32} {x2 : Int32} {x3 : Int32} {x4 : Int32} {h h1 : xH} {r : Option Value} {fs : List Value} (ho : h[o]? = some (.inr (1, fs))) (H : x_EV 17 0 [some (.ref o), some (.int x1), some (.int x2), some (.int x3), some (.int x4)] [] h r h1) : xK 17 [.ref o, .int x1, .int x2, .int x3, .int x4] h r h1 := x_calX_v pg_X1_whyNoPrice rfl rfl (Nat.le_of_ble_eq_true rfl) rfl ho H
theorem pg_X7_refuse : x_Pg[18]? = some xm_X7_refuse := by
  unfold x_Pg
  rfl
theorem xe_X7_refuse_0 {ls : xL} {st : List Value} {h h' : xH} {r : Option Value} (H : x_ev x_nm x_tf x_fn x_Pg x_EV 18 (some .int) r h' xb_X7_refuse_0 0 ls st h) : x_EV 18 0 ls st h r h' := x_Ev_to (M := xm_X7_refuse) (is := xb_X7_refuse_0) pg_X7_refuse (by rfl) H
theorem xe_X7_refuse_19 {ls : xL} {st : List Value} {h h' : xH} {r : Option Value} (H : x_ev x_nm x_tf x_fn x_Pg x_EV 18 (some .int) r h' xb_X7_refuse_19 19 ls st h) : x_EV 18 19 ls st h r h' := x_Ev_to (M := xm_X7_refuse) (is := xb_X7_refuse_19) pg_X7_refuse (by rfl) H
theorem xe_X7_refuse_38 {ls : xL} {st : List Value} {h h' : xH} {r : Option Value} (H : x_ev x_nm x_tf x_fn x_Pg x_EV 18 (some .int) r h' xb_X7_refuse_38 38 ls st h) : x_EV 18 38 ls st h r h' := x_Ev_to (M := xm_X7_refuse) (is := xb_X7_refuse_38) pg_X7_refuse (by rfl) H
theorem xe_X7_refuse_48 {ls : xL} {st : List Value} {h h' : xH} {r : Option Value} (H : x_ev x_nm x_tf x_fn x_Pg x_EV 18 (some .int) r h' xb_X7_refuse_48 48 ls st h) : x_EV 18 48 ls st h r h' := x_Ev_to (M := xm_X7_refuse) (is := xb_X7_refuse_48) pg_X7_refuse (by rfl) H
theorem xK_X7_refuse {o : Nat} {x1 : Int32} {h h1 : xH} {r : Option Value} {fs : List Value} (ho : h[o]? = some (.inr (6, fs))) (H : x_EV 18 0 [some (.ref o), some (.int x1)] [] h r h1) : xK 18 [.ref o, .int x1] h r h1 := x_calX_v pg_X7_refuse rfl rfl (Nat.le_of_ble_eq_true rfl) rfl ho H
theorem pg_X1_copyFrom : x_Pg[19]? = some xm_X1_copyFrom := by
  unfold x_Pg
  rfl
theorem xe_X1_copyFrom_0 {ls : xL} {st : List Value} {h h' : xH} {r : Option Value} (H : x_ev x_nm x_tf x_fn x_Pg x_EV 19 none r h' xb_X1_copyFrom_0 0 ls st h) : x_EV 19 0 ls st h r h' := x_Ev_to (M := xm_X1_copyFrom) (is := xb_X1_copyFrom_0) pg_X1_copyFrom (by rfl) H
theorem xK_X1_copyFrom {o : Nat} {x1 : Nat} {h h1 : xH} {r : Option Value} {fs : List Value} (ho : h[o]? = some (.inr (1, fs))) (H : x_EV 19 0 [some (.ref o), some (.ref x1)] [] h r h1) : xK 19 [.ref o, .ref x1] h r h1 := x_calX_v pg_X1_copyFrom rfl rfl (Nat.le_of_ble_eq_true rfl) rfl ho H
theorem pg_X4_copyFrom : x_Pg[20]? = some xm_X4_copyFrom := by
  unfold x_Pg
  rfl
theorem xe_X4_copyFrom_0 {ls : xL} {st : List Value} {h h' : xH} {r : Option Value} (H : x_ev x_nm x_tf x_fn x_Pg x_EV 20 none r h' xb_X4_copyFrom_0 0 ls st h) : x_EV 20 0 ls st h r h' := x_Ev_to (M := xm_X4_copyFrom) (is := xb_X4_copyFrom_0) pg_X4_copyFrom (by rfl) H
theorem xK_X4_copyFrom {o : Nat} {x1 : Nat} {h h1 : xH} {r : Option Value} {fs : List Value} (ho : h[o]? = some (.inr (3, fs))) (H : x_EV 20 0 [some (.ref o), some (.ref x1)] [] h r h1) : xK 20 [.ref o, .ref x1] h r h1 := x_calX_v pg_X4_copyFrom rfl rfl (Nat.le_of_ble_eq_true rfl) rfl ho H
theorem pg_X6_copyFrom : x_Pg[21]? = some xm_X6_copyFrom := by
  unfold x_Pg
  rfl
theorem xe_X6_copyFrom_0 {ls : xL} {st : List Value} {h h' : xH} {r : Option Value} (H : x_ev x_nm x_tf x_fn x_Pg x_EV 21 none r h' xb_X6_copyFrom_0 0 ls st h) : x_EV 21 0 ls st h r h' := x_Ev_to (M := xm_X6_copyFrom) (is := xb_X6_copyFrom_0) pg_X6_copyFrom (by rfl) H
theorem xK_X6_copyFrom {o : Nat} {x1 : Nat} {h h1 : xH} {r : Option Value} {fs : List Value} (ho : h[o]? = some (.inr (5, fs))) (H : x_EV 21 0 [some (.ref o), some (.ref x1)] [] h r h1) : xK 21 [.ref o, .ref x1] h r h1 := x_calX_v pg_X6_copyFrom rfl rfl (Nat.le_of_ble_eq_true rfl) rfl ho H
theorem pg_X5_push : x_Pg[22]? = some xm_X5_push := by
  unfold x_Pg
  rfl
theorem xe_X5_push_0 {ls : xL} {st : List Value} {h h' : xH} {r : Option Value} (H : x_ev x_nm x_tf x_fn x_Pg x_EV 22 none r h' xb_X5_push_0 0 ls st h) : x_EV 22 0 ls st h r h' := x_Ev_to (M := xm_X5_push) (is := xb_X5_push_0) pg_X5_push (by rfl) H
theorem xK_X5_push {o : Nat} {x1 : Nat} {h h1 : xH} {r : Option Value} {fs : List Value} (ho : h[o]? = some (.inr (4, fs))) (H : x_EV 22 0 [some (.ref o), some (.ref x1)] [] h r h1) : xK 22 [.ref o, .ref x1] h r h1 := x_calX_v pg_X5_push rfl rfl (Nat.le_of_ble_eq_true rfl) rfl ho H
theorem pg_X1_putPrice : x_Pg[23]? = some xm_X1_putPrice := by
  unfold x_Pg
  rfl
theorem xe_X1_putPrice_0 {ls : xL} {st : List Value} {h h' : xH} {r : Option Value} (H : x_ev x_nm x_tf x_fn x_Pg x_EV 23 (some .int) r h' xb_X1_putPrice_0 0 ls st h) : x_EV 23 0 ls st h r h' := x_Ev_to (M := xm_X1_putPrice) (is := xb_X1_putPrice_0) pg_X1_putPrice (by rfl) H
theorem xK_X1_putPrice {o : Nat} {x1 : Int32} {x2 : Int32} {x3 : Int32} {x4 : Int32} {h h1 : xH} {r : Option Value} {fs : List Value} (ho : h[o]? = some (.inr (1, fs))) (H : x_EV 23 0 [some (.ref o), some (.int x1), some (.int x2), some (.int x3), some (.int x4), none, none] [] h r h1) : xK 23 [.ref o, .int x1, .int x2, .int x3, .int x4] h r h1 := x_calX_v pg_X1_putPrice rfl rfl (Nat.le_of_ble_eq_true rfl) rfl ho H
theorem pg_X7_rules : x_Pg[24]? = some xm_X7_rules := by
  unfold x_Pg
  rfl
theorem xe_X7_rules_0 {ls : xL} {st : List Value} {h h' : xH} {r : Option Value} (H : x_ev x_nm x_tf x_fn x_Pg x_EV 24 (some .int) r h' xb_X7_rules_0 0 ls st h) : x_EV 24 0 ls st h r h' := x_Ev_to (M := xm_X7_rules) (is := xb_X7_rules_0) pg_X7_rules (by rfl) H
theorem xe_X7_rules_29 {ls : xL} {st : List Value} {h h' : xH} {r : Option Value} (H : x_ev x_nm x_tf x_fn x_Pg x_EV 24 (some .int) r h' xb_X7_rules_29 29 ls st h) : x_EV 24 29 ls st h r h' := x_Ev_to (M := xm_X7_rules) (is := xb_X7_rules_29) pg_X7_rules (by rfl) H
theorem xK_X7_rules {o : Nat} {x1 : Int32} {x2 : Int32} {x3 : Int32} {x4 : Int32} {h h1 : xH} {r : Option Value} {fs : List Value} (ho : h[o]? = some (.inr (6, fs))) (H : x_EV 24 0 [some (.ref o), some (.int x1), some (.int x2), some (.int x3), some (.int x4), none] [] h r h1) : xK 24 [.ref o, .int x1, .int x2, .int x3, .int x4] h r h1 := x_calX_v pg_X7_rules rfl rfl (Nat.le_of_ble_eq_true rfl) rfl ho H
theorem pg_X8_in : x_Pg[25]? = some xm_X8_in := by
  unfold x_Pg
  rfl
theorem xe_X8_in_0 {ls : xL} {st : List Value} {h h' : xH} {r : Option Value} (H : x_ev x_nm x_tf x_fn x_Pg x_EV 25 (some .boolean) r h' xb_X8_in_0 0 ls st h) : x_EV 25 0 ls st h r h' := x_Ev_to (M := xm_X8_in) (is := xb_X8_in_0) pg_X8_in (by rfl) H
theorem xe_X8_in_14 {ls : xL} {st : List Value} {h h' : xH} {r : Option Value} (H : x_ev x_nm x_tf x_fn x_Pg x_EV 25 (some .boolean) r h' xb_X8_in_14 14 ls st h) : x_EV 25 14 ls st h r h' := x_Ev_to (M := xm_X8_in) (is := xb_X8_in_14) pg_X8_in (by rfl) H
theorem xe_X8_in_15 {ls : xL} {st : List Value} {h h' : xH} {r : Option Value} (H : x_ev x_nm x_tf x_fn x_Pg x_EV 25 (some .boolean) r h' xb_X8_in_15 15 ls st h) : x_EV 25 15 ls st h r h' := x_Ev_to (M := xm_X8_in) (is := xb_X8_in_15) pg_X8_in (by rfl) H
theorem xK_X8_in {x1 : Int32} {x2 : Int32} {x3 : Int32} {h h1 : xH} {r : Option Value} (H : x_EV 25 0 [some (.int x1), some (.int x2), some (.int x3)] [] h r h1) : xK 25 [.int x1, .int x2, .int x3] h r h1 := x_calX_s pg_X8_in rfl (Nat.le_of_ble_eq_true rfl) rfl H
theorem pg_X8_isSort : x_Pg[26]? = some xm_X8_isSort := by
  unfold x_Pg
  rfl
theorem xe_X8_isSort_0 {ls : xL} {st : List Value} {h h' : xH} {r : Option Value} (H : x_ev x_nm x_tf x_fn x_Pg x_EV 26 (some .boolean) r h' xb_X8_isSort_0 0 ls st h) : x_EV 26 0 ls st h r h' := x_Ev_to (M := xm_X8_isSort) (is := xb_X8_isSort_0) pg_X8_isSort (by rfl) H
theorem xK_X8_isSort {x1 : Int32} {h h1 : xH} {r : Option Value} (H : x_EV 26 0 [some (.int x1)] [] h r h1) : xK 26 [.int x1] h r h1 := x_calX_s pg_X8_isSort rfl (Nat.le_of_ble_eq_true rfl) rfl H
theorem pg_X8_isRule : x_Pg[27]? = some xm_X8_isRule := by
  unfold x_Pg
  rfl
theorem xe_X8_isRule_0 {ls : xL} {st : List Value} {h h' : xH} {r : Option Value} (H : x_ev x_nm x_tf x_fn x_Pg x_EV 27 (some .boolean) r h' xb_X8_isRule_0 0 ls st h) : x_EV 27 0 ls st h r h' := x_Ev_to (M := xm_X8_isRule) (is := xb_X8_isRule_0) pg_X8_isRule (by rfl) H
theorem xe_X8_isRule_27 {ls : xL} {st : List Value} {h h' : xH} {r : Option Value} (H : x_ev x_nm x_tf x_fn x_Pg x_EV 27 (some .boolean) r h' xb_X8_isRule_27 27 ls st h) : x_EV 27 27 ls st h r h' := x_Ev_to (M := xm_X8_isRule) (is := xb_X8_isRule_27) pg_X8_isRule (by rfl) H
theorem xe_X8_isRule_28 {ls : xL} {st : List Value} {h h' : xH} {r : Option Value} (H : x_ev x_nm x_tf x_fn x_Pg x_EV 27 (some .boolean) r h' xb_X8_isRule_28 28 ls st h) : x_EV 27 28 ls st h r h' := x_Ev_to (M := xm_X8_isRule) (is := xb_X8_isRule_28) pg_X8_isRule (by rfl) H
theorem xK_X8_isRule {x1 : Int32} {x2 : Int32} {x3 : Int32} {h h1 : xH} {r : Option Value} (H : x_EV 27 0 [some (.int x1), some (.int x2), some (.int x3)] [] h r h1) : xK 27 [.int x1, .int x2, .int x3] h r h1 := x_calX_s pg_X8_isRule rfl (Nat.le_of_ble_eq_true rfl) rfl H
theorem pg_X8_isPrice : x_Pg[28]? = some xm_X8_isPrice := by
  unfold x_Pg
  rfl
theorem xe_X8_isPrice_0 {ls : xL} {st : List Value} {h h' : xH} {r : Option Value} (H : x_ev x_nm x_tf x_fn x_Pg x_EV 28 (some .boolean) r h' xb_X8_isPrice_0 0 ls st h) : x_EV 28 0 ls st h r h' := x_Ev_to (M := xm_X8_isPrice) (is := xb_X8_isPrice_0) pg_X8_isPrice (by rfl) H
theorem xK_X8_isPrice {x1 : Int32} {h h1 : xH} {r : Option Value} (H : x_EV 28 0 [some (.int x1)] [] h r h1) : xK 28 [.int x1] h r h1 := x_calX_s pg_X8_isPrice rfl (Nat.le_of_ble_eq_true rfl) rfl H
theorem pg_X8_bad : x_Pg[29]? = some xm_X8_bad := by
  unfold x_Pg
  rfl
theorem xe_X8_bad_0 {ls : xL} {st : List Value} {h h' : xH} {r : Option Value} (H : x_ev x_nm x_tf x_fn x_Pg x_EV 29 (some .int) r h' xb_X8_bad_0 0 ls st h) : x_EV 29 0 ls st h r h' := x_Ev_to (M := xm_X8_bad) (is := xb_X8_bad_0) pg_X8_bad (by rfl) H
theorem xK_X8_bad {o : Nat}  {h h1 : xH} {r : Option Value} {fs : List Value} (ho : h[o]? = some (.inr (7, fs))) (H : x_EV 29 0 [some (.ref o)] [] h r h1) : xK 29 [.ref o] h r h1 := x_calX_v pg_X8_bad rfl rfl (Nat.le_of_ble_eq_true rfl) rfl ho H
theorem pg_X8_remembers : x_Pg[30]? = some xm_X8_remembers := by
  unfold x_Pg
  rfl
theorem xe_X8_remembers_0 {ls : xL} {st : List Value} {h h' : xH} {r : Option Value} (H : x_ev x_nm x_tf x_fn x_Pg x_EV 30 none r h' xb_X8_remembers_0 0 ls st h) : x_EV 30 0 ls st h r h' := x_Ev_to (M := xm_X8_remembers) (is := xb_X8_remembers_0) pg_X8_remembers (by rfl) H
theorem xe_X8_remembers_11 {ls : xL} {st : List Value} {h h' : xH} {r : Option Value} (H : x_ev x_nm x_tf x_fn x_Pg x_EV 30 none r h' xb_X8_remembers_11 11 ls st h) : x_EV 30 11 ls st h r h' := x_Ev_to (M := xm_X8_remembers) (is := xb_X8_remembers_11) pg_X8_remembers (by rfl) H
theorem xe_X8_remembers_40 {ls : xL} {st : List Value} {h h' : xH} {r : Option Value} (H : x_ev x_nm x_tf x_fn x_Pg x_EV 30 none r h' xb_X8_remembers_40 40 ls st h) : x_EV 30 40 ls st h r h' := x_Ev_to (M := xm_X8_remembers) (is := xb_X8_remembers_40) pg_X8_remembers (by rfl) H
theorem xe_X8_remembers_50 {ls : xL} {st : List Value} {h h' : xH} {r : Option Value} (H : x_ev x_nm x_tf x_fn x_Pg x_EV 30 none r h' xb_X8_remembers_50 50 ls st h) : x_EV 30 50 ls st h r h' := x_Ev_to (M := xm_X8_remembers) (is := xb_X8_remembers_50) pg_X8_remembers (by rfl) H
theorem xe_X8_remembers_52 {ls : xL} {st : List Value} {h h' : xH} {r : Option Value} (H : x_ev x_nm x_tf x_fn x_Pg x_EV 30 none r h' xb_X8_remembers_52 52 ls st h) : x_EV 30 52 ls st h r h' := x_Ev_to (M := xm_X8_remembers) (is := xb_X8_remembers_52) pg_X8_remembers (by rfl) H
theorem xe_X8_remembers_86 {ls : xL} {st : List Value} {h h' : xH} {r : Option Value} (H : x_ev x_nm x_tf x_fn x_Pg x_EV 30 none r h' xb_X8_remembers_86 86 ls st h) : x_EV 30 86 ls st h r h' := x_Ev_to (M := xm_X8_remembers) (is := xb_X8_remembers_86) pg_X8_remembers (by rfl) H
theorem xK_X8_remembers {o : Nat}  {h h1 : xH} {r : Option Value} {fs : List Value} (ho : h[o]? = some (.inr (7, fs))) (H : x_EV 30 0 [some (.ref o), none] [] h r h1) : xK 30 [.ref o] h r h1 := x_calX_v pg_X8_remembers rfl rfl (Nat.le_of_ble_eq_true rfl) rfl ho H
theorem pg_X8_ruleAt : x_Pg[31]? = some xm_X8_ruleAt := by
  unfold x_Pg
  rfl
theorem xe_X8_ruleAt_0 {ls : xL} {st : List Value} {h h' : xH} {r : Option Value} (H : x_ev x_nm x_tf x_fn x_Pg x_EV 31 (some .int) r h' xb_X8_ruleAt_0 0 ls st h) : x_EV 31 0 ls st h r h' := x_Ev_to (M := xm_X8_ruleAt) (is := xb_X8_ruleAt_0) pg_X8_ruleAt (by rfl) H
theorem xK_X8_ruleAt {x1 : Int32} {x2 : Int32} {x3 : Int32} {h h1 : xH} {r : Option Value} (H : x_EV 31 0 [some (.int x1), some (.int x2), some (.int x3)] [] h r h1) : xK 31 [.int x1, .int x2, .int x3] h r h1 := x_calX_s pg_X8_ruleAt rfl (Nat.le_of_ble_eq_true rfl) rfl H
theorem pg_X8_exchanges : x_Pg[32]? = some xm_X8_exchanges := by
  unfold x_Pg
  rfl
theorem xe_X8_exchanges_0 {ls : xL} {st : List Value} {h h' : xH} {r : Option Value} (H : x_ev x_nm x_tf x_fn x_Pg x_EV 32 (some .int) r h' xb_X8_exchanges_0 0 ls st h) : x_EV 32 0 ls st h r h' := x_Ev_to (M := xm_X8_exchanges) (is := xb_X8_exchanges_0) pg_X8_exchanges (by rfl) H
theorem xK_X8_exchanges {o : Nat} {x1 : Int32} {x2 : Int32} {h h1 : xH} {r : Option Value} {fs : List Value} (ho : h[o]? = some (.inr (7, fs))) (H : x_EV 32 0 [some (.ref o), some (.int x1), some (.int x2), none] [] h r h1) : xK 32 [.ref o, .int x1, .int x2] h r h1 := x_calX_v pg_X8_exchanges rfl rfl (Nat.le_of_ble_eq_true rfl) rfl ho H
theorem pg_X8_rules : x_Pg[33]? = some xm_X8_rules := by
  unfold x_Pg
  rfl
theorem xe_X8_rules_0 {ls : xL} {st : List Value} {h h' : xH} {r : Option Value} (H : x_ev x_nm x_tf x_fn x_Pg x_EV 33 (some .int) r h' xb_X8_rules_0 0 ls st h) : x_EV 33 0 ls st h r h' := x_Ev_to (M := xm_X8_rules) (is := xb_X8_rules_0) pg_X8_rules (by rfl) H
theorem xe_X8_rules_17 {ls : xL} {st : List Value} {h h' : xH} {r : Option Value} (H : x_ev x_nm x_tf x_fn x_Pg x_EV 33 (some .int) r h' xb_X8_rules_17 17 ls st h) : x_EV 33 17 ls st h r h' := x_Ev_to (M := xm_X8_rules) (is := xb_X8_rules_17) pg_X8_rules (by rfl) H
theorem xe_X8_rules_22 {ls : xL} {st : List Value} {h h' : xH} {r : Option Value} (H : x_ev x_nm x_tf x_fn x_Pg x_EV 33 (some .int) r h' xb_X8_rules_22 22 ls st h) : x_EV 33 22 ls st h r h' := x_Ev_to (M := xm_X8_rules) (is := xb_X8_rules_22) pg_X8_rules (by rfl) H
theorem xK_X8_rules {o : Nat} {x1 : Int32} {x2 : Int32} {x3 : Int32} {x4 : Int32} {h h1 : xH} {r : Option Value} {fs : List Value} (ho : h[o]? = some (.inr (7, fs))) (H : x_EV 33 0 [some (.ref o), some (.int x1), some (.int x2), some (.int x3), some (.int x4)] [] h r h1) : xK 33 [.ref o, .int x1, .int x2, .int x3, .int x4] h r h1 := x_calX_v pg_X8_rules rfl rfl (Nat.le_of_ble_eq_true rfl) rfl ho H
theorem pg_X1_whyNoRootPrice : x_Pg[34]? = some xm_X1_whyNoRootPrice := by
  unfold x_Pg
  rfl
theorem xe_X1_whyNoRootPrice_0 {ls : xL} {st : List Value} {h h' : xH} {r : Option Value} (H : x_ev x_nm x_tf x_fn x_Pg x_EV 34 (some .int) r h' xb_X1_whyNoRootPrice_0 0 ls st h) : x_EV 34 0 ls st h r h' := x_Ev_to (M := xm_X1_whyNoRootPrice) (is := xb_X1_whyNoRootPrice_0) pg_X1_whyNoRootPrice (by rfl) H
theorem xe_X1_whyNoRootPrice_20 {ls : xL} {st : List Value} {h h' : xH} {r : Option Value} (H : x_ev x_nm x_tf x_fn x_Pg x_EV 34 (some .int) r h' xb_X1_whyNoRootPrice_20 20 ls st h) : x_EV 34 20 ls st h r h' := x_Ev_to (M := xm_X1_whyNoRootPrice) (is := xb_X1_whyNoRootPrice_20) pg_X1_whyNoRootPrice (by rfl) H
theorem xe_X1_whyNoRootPrice_22 {ls : xL} {st : List Value} {h h' : xH} {r : Option Value} (H : x_ev x_nm x_tf x_fn x_Pg x_EV 34 (some .int) r h' xb_X1_whyNoRootPrice_22 22 ls st h) : x_EV 34 22 ls st h r h' := x_Ev_to (M := xm_X1_whyNoRootPrice) (is := xb_X1_whyNoRootPrice_22) pg_X1_whyNoRootPrice (by rfl) H
theorem xK_X1_whyNoRootPrice {o : Nat} {x1 : Int32} {x2 : Int32} {h h1 : xH} {r : Option Value} {fs : List Value} (ho : h[o]? = some (.inr (1, fs))) (H : x_EV 34 0 [some (.ref o), some (.int x1), some (.int x2)] [] h r h1) : xK 34 [.ref o, .int x1, .int x2] h r h1 := x_calX_v pg_X1_whyNoRootPrice rfl rfl (Nat.le_of_ble_eq_true rfl) rfl ho H
theorem pg_X1_putRootPrice : x_Pg[35]? = some xm_X1_putRootPrice := by
  unfold x_Pg
  rfl
theorem xe_X1_putRootPrice_0 {ls : xL} {st : List Value} {h h' : xH} {r : Option Value} (H : x_ev x_nm x_tf x_fn x_Pg x_EV 35 (some .int) r h' xb_X1_putRootPrice_0 0 ls st h) : x_EV 35 0 ls st h r h' := x_Ev_to (M := xm_X1_putRootPrice) (is := xb_X1_putRootPrice_0) pg_X1_putRootPrice (by rfl) H
theorem xK_X1_putRootPrice {o : Nat} {x1 : Int32} {x2 : Int32} {h h1 : xH} {r : Option Value} {fs : List Value} (ho : h[o]? = some (.inr (1, fs))) (H : x_EV 35 0 [some (.ref o), some (.int x1), some (.int x2), none] [] h r h1) : xK 35 [.ref o, .int x1, .int x2] h r h1 := x_calX_v pg_X1_putRootPrice rfl rfl (Nat.le_of_ble_eq_true rfl) rfl ho H
theorem pg_X7_roots : x_Pg[36]? = some xm_X7_roots := by
  unfold x_Pg
  rfl
theorem xe_X7_roots_0 {ls : xL} {st : List Value} {h h' : xH} {r : Option Value} (H : x_ev x_nm x_tf x_fn x_Pg x_EV 36 (some .int) r h' xb_X7_roots_0 0 ls st h) : x_EV 36 0 ls st h r h' := x_Ev_to (M := xm_X7_roots) (is := xb_X7_roots_0) pg_X7_roots (by rfl) H
theorem xe_X7_roots_23 {ls : xL} {st : List Value} {h h' : xH} {r : Option Value} (H : x_ev x_nm x_tf x_fn x_Pg x_EV 36 (some .int) r h' xb_X7_roots_23 23 ls st h) : x_EV 36 23 ls st h r h' := x_Ev_to (M := xm_X7_roots) (is := xb_X7_roots_23) pg_X7_roots (by rfl) H
theorem xK_X7_roots {o : Nat} {x1 : Int32} {x2 : Int32} {h h1 : xH} {r : Option Value} {fs : List Value} (ho : h[o]? = some (.inr (6, fs))) (H : x_EV 36 0 [some (.ref o), some (.int x1), some (.int x2), none] [] h r h1) : xK 36 [.ref o, .int x1, .int x2] h r h1 := x_calX_v pg_X7_roots rfl rfl (Nat.le_of_ble_eq_true rfl) rfl ho H
theorem pg_X8_roots : x_Pg[37]? = some xm_X8_roots := by
  unfold x_Pg
  rfl
theorem xe_X8_roots_0 {ls : xL} {st : List Value} {h h' : xH} {r : Option Value} (H : x_ev x_nm x_tf x_fn x_Pg x_EV 37 (some .int) r h' xb_X8_roots_0 0 ls st h) : x_EV 37 0 ls st h r h' := x_Ev_to (M := xm_X8_roots) (is := xb_X8_roots_0) pg_X8_roots (by rfl) H
theorem xe_X8_roots_14 {ls : xL} {st : List Value} {h h' : xH} {r : Option Value} (H : x_ev x_nm x_tf x_fn x_Pg x_EV 37 (some .int) r h' xb_X8_roots_14 14 ls st h) : x_EV 37 14 ls st h r h' := x_Ev_to (M := xm_X8_roots) (is := xb_X8_roots_14) pg_X8_roots (by rfl) H
theorem xe_X8_roots_19 {ls : xL} {st : List Value} {h h' : xH} {r : Option Value} (H : x_ev x_nm x_tf x_fn x_Pg x_EV 37 (some .int) r h' xb_X8_roots_19 19 ls st h) : x_EV 37 19 ls st h r h' := x_Ev_to (M := xm_X8_roots) (is := xb_X8_roots_19) pg_X8_roots (by rfl) H
theorem xK_X8_roots {o : Nat} {x1 : Int32} {x2 : Int32} {h h1 : xH} {r : Option Value} {fs : List Value} (ho : h[o]? = some (.inr (7, fs))) (H : x_EV 37 0 [some (.ref o), some (.int x1), some (.int x2)] [] h r h1) : xK 37 [.ref o, .int x1, .int x2] h r h1 := x_calX_v pg_X8_roots rfl rfl (Nat.le_of_ble_eq_true rfl) rfl ho H
theorem pg_X1_whyNoEntry : x_Pg[38]? = some xm_X1_whyNoEntry := by
  unfold x_Pg
  rfl
theorem xe_X1_whyNoEntry_0 {ls : xL} {st : List Value} {h h' : xH} {r : Option Value} (H : x_ev x_nm x_tf x_fn x_Pg x_EV 38 (some .int) r h' xb_X1_whyNoEntry_0 0 ls st h) : x_EV 38 0 ls st h r h' := x_Ev_to (M := xm_X1_whyNoEntry) (is := xb_X1_whyNoEntry_0) pg_X1_whyNoEntry (by rfl) H
theorem xe_X1_whyNoEntry_23 {ls : xL} {st : List Value} {h h' : xH} {r : Option Value} (H : x_ev x_nm x_tf x_fn x_Pg x_EV 38 (some .int) r h' xb_X1_whyNoEntry_23 23 ls st h) : x_EV 38 23 ls st h r h' := x_Ev_to (M := xm_X1_whyNoEntry) (is := xb_X1_whyNoEntry_23) pg_X1_whyNoEntry (by rfl) H
theorem xe_X1_whyNoEntry_32 {ls : xL} {st : List Value} {h h' : xH} {r : Option Value} (H : x_ev x_nm x_tf x_fn x_Pg x_EV 38 (some .int) r h' xb_X1_whyNoEntry_32 32 ls st h) : x_EV 38 32 ls st h r h' := x_Ev_to (M := xm_X1_whyNoEntry) (is := xb_X1_whyNoEntry_32) pg_X1_whyNoEntry (by rfl) H
theorem xe_X1_whyNoEntry_33 {ls : xL} {st : List Value} {h h' : xH} {r : Option Value} (H : x_ev x_nm x_tf x_fn x_Pg x_EV 38 (some .int) r h' xb_X1_whyNoEntry_33 33 ls st h) : x_EV 38 33 ls st h r h' := x_Ev_to (M := xm_X1_whyNoEntry) (is := xb_X1_whyNoEntry_33) pg_X1_whyNoEntry (by rfl) H
theorem xe_X1_whyNoEntry_48 {ls : xL} {st : List Value} {h h' : xH} {r : Option Value} (H : x_ev x_nm x_tf x_fn x_Pg x_EV 38 (some .int) r h' xb_X1_whyNoEntry_48 48 ls st h) : x_EV 38 48 ls st h r h' := x_Ev_to (M := xm_X1_whyNoEntry) (is := xb_X1_whyNoEntry_48) pg_X1_whyNoEntry (by rfl) H
theorem xe_X1_whyNoEntry_52 {ls : xL} {st : List Value} {h h' : xH} {r : Option Value} (H : x_ev x_nm x_tf x_fn x_Pg x_EV 38 (some .int) r h' xb_X1_whyNoEntry_52 52 ls st h) : x_EV 38 52 ls st h r h' := x_Ev_to (M := xm_X1_whyNoEntry) (is := xb_X1_whyNoEntry_52) pg_X1_whyNoEntry (by rfl) H
theorem xe_X1_whyNoEntry_66 {ls : xL} {st : List Value} {h h' : xH} {r : Option Value} (H : x_ev x_nm x_tf x_fn x_Pg x_EV 38 (some .int) r h' xb_X1_whyNoEntry_66 66 ls st h) : x_EV 38 66 ls st h r h' := x_Ev_to (M := xm_X1_whyNoEntry) (is := xb_X1_whyNoEntry_66) pg_X1_whyNoEntry (by rfl) H
theorem xe_X1_whyNoEntry_67 {ls : xL} {st : List Value} {h h' : xH} {r : Option Value} (H : x_ev x_nm x_tf x_fn x_Pg x_EV 38 (some .int) r h' xb_X1_whyNoEntry_67 67 ls st h) : x_EV 38 67 ls st h r h' := x_Ev_to (M := xm_X1_whyNoEntry) (is := xb_X1_whyNoEntry_67) pg_X1_whyNoEntry (by rfl) H
theorem xe_X1_whyNoEntry_79 {ls : xL} {st : List Value} {h h' : xH} {r : Option Value} (H : x_ev x_nm x_tf x_fn x_Pg x_EV 38 (some .int) r h' xb_X1_whyNoEntry_79 79 ls st h) : x_EV 38 79 ls st h r h' := x_Ev_to (M := xm_X1_whyNoEntry) (is := xb_X1_whyNoEntry_79) pg_X1_whyNoEntry (by rfl) H
theorem xe_X1_whyNoEntry_82 {ls : xL} {st : List Value} {h h' : xH} {r : Option Value} (H : x_ev x_nm x_tf x_fn x_Pg x_EV 38 (some .int) r h' xb_X1_whyNoEntry_82 82 ls st h) : x_EV 38 82 ls st h r h' := x_Ev_to (M := xm_X1_whyNoEntry) (is := xb_X1_whyNoEntry_82) pg_X1_whyNoEntry (by rfl) H
theorem xe_X1_whyNoEntry_96 {ls : xL} {st : List Value} {h h' : xH} {r : Option Value} (H : x_ev x_nm x_tf x_fn x_Pg x_EV 38 (some .int) r h' xb_X1_whyNoEntry_96 96 ls st h) : x_EV 38 96 ls st h r h' := x_Ev_to (M := xm_X1_whyNoEntry) (is := xb_X1_whyNoEntry_96) pg_X1_whyNoEntry (by rfl) H
theorem xe_X1_whyNoEntry_97 {ls : xL} {st : List Value} {h h' : xH} {r : Option Value} (H : x_ev x_nm x_tf x_fn x_Pg x_EV 38 (some .int) r h' xb_X1_whyNoEntry_97 97 ls st h) : x_EV 38 97 ls st h r h' := x_Ev_to (M := xm_X1_whyNoEntry) (is := xb_X1_whyNoEntry_97) pg_X1_whyNoEntry (by rfl) H
theorem xK_X1_whyNoEntry {o : Nat} {x1 : Int32} {x2 : Int32} {x3 : Int32} {h h1 : xH} {r : Option Value} {fs : List Value} (ho : h[o]? = some (.inr (1, fs))) (H : x_EV 38 0 [some (.ref o), some (.int x1), some (.int x2), some (.int x3), none, none] [] h r h1) : xK 38 [.ref o, .int x1, .int x2, .int x3] h r h1 := x_calX_v pg_X1_whyNoEntry rfl rfl (Nat.le_of_ble_eq_true rfl) rfl ho H
theorem pg_X1_addEntry : x_Pg[39]? = some xm_X1_addEntry := by
  unfold x_Pg
  rfl
theorem xe_X1_addEntry_0 {ls : xL} {st : List Value} {h h' : xH} {r : Option Value} (H : x_ev x_nm x_tf x_fn x_Pg x_EV 39 (some .int) r h' xb_X1_addEntry_0 0 ls st h) : x_EV 39 0 ls st h r h' := x_Ev_to (M := xm_X1_addEntry) (is := xb_X1_addEntry_0) pg_X1_addEntry (by rfl) H
theorem xK_X1_addEntry {o : Nat} {x1 : Int32} {x2 : Int32} {x3 : Int32} {h h1 : xH} {r : Option Value} {fs : List Value} (ho : h[o]? = some (.inr (1, fs))) (H : x_EV 39 0 [some (.ref o), some (.int x1), some (.int x2), some (.int x3), none] [] h r h1) : xK 39 [.ref o, .int x1, .int x2, .int x3] h r h1 := x_calX_v pg_X1_addEntry rfl rfl (Nat.le_of_ble_eq_true rfl) rfl ho H
theorem pg_X7_entry : x_Pg[40]? = some xm_X7_entry := by
  unfold x_Pg
  rfl
theorem xe_X7_entry_0 {ls : xL} {st : List Value} {h h' : xH} {r : Option Value} (H : x_ev x_nm x_tf x_fn x_Pg x_EV 40 (some .int) r h' xb_X7_entry_0 0 ls st h) : x_EV 40 0 ls st h r h' := x_Ev_to (M := xm_X7_entry) (is := xb_X7_entry_0) pg_X7_entry (by rfl) H
theorem xe_X7_entry_27 {ls : xL} {st : List Value} {h h' : xH} {r : Option Value} (H : x_ev x_nm x_tf x_fn x_Pg x_EV 40 (some .int) r h' xb_X7_entry_27 27 ls st h) : x_EV 40 27 ls st h r h' := x_Ev_to (M := xm_X7_entry) (is := xb_X7_entry_27) pg_X7_entry (by rfl) H
theorem xK_X7_entry {o : Nat} {x1 : Int32} {x2 : Int32} {x3 : Int32} {h h1 : xH} {r : Option Value} {fs : List Value} (ho : h[o]? = some (.inr (6, fs))) (H : x_EV 40 0 [some (.ref o), some (.int x1), some (.int x2), some (.int x3), none] [] h r h1) : xK 40 [.ref o, .int x1, .int x2, .int x3] h r h1 := x_calX_v pg_X7_entry rfl rfl (Nat.le_of_ble_eq_true rfl) rfl ho H
theorem pg_X8_canEnter : x_Pg[41]? = some xm_X8_canEnter := by
  unfold x_Pg
  rfl
theorem xe_X8_canEnter_0 {ls : xL} {st : List Value} {h h' : xH} {r : Option Value} (H : x_ev x_nm x_tf x_fn x_Pg x_EV 41 (some .boolean) r h' xb_X8_canEnter_0 0 ls st h) : x_EV 41 0 ls st h r h' := x_Ev_to (M := xm_X8_canEnter) (is := xb_X8_canEnter_0) pg_X8_canEnter (by rfl) H
theorem xe_X8_canEnter_16 {ls : xL} {st : List Value} {h h' : xH} {r : Option Value} (H : x_ev x_nm x_tf x_fn x_Pg x_EV 41 (some .boolean) r h' xb_X8_canEnter_16 16 ls st h) : x_EV 41 16 ls st h r h' := x_Ev_to (M := xm_X8_canEnter) (is := xb_X8_canEnter_16) pg_X8_canEnter (by rfl) H
theorem xe_X8_canEnter_17 {ls : xL} {st : List Value} {h h' : xH} {r : Option Value} (H : x_ev x_nm x_tf x_fn x_Pg x_EV 41 (some .boolean) r h' xb_X8_canEnter_17 17 ls st h) : x_EV 41 17 ls st h r h' := x_Ev_to (M := xm_X8_canEnter) (is := xb_X8_canEnter_17) pg_X8_canEnter (by rfl) H
theorem xe_X8_canEnter_48 {ls : xL} {st : List Value} {h h' : xH} {r : Option Value} (H : x_ev x_nm x_tf x_fn x_Pg x_EV 41 (some .boolean) r h' xb_X8_canEnter_48 48 ls st h) : x_EV 41 48 ls st h r h' := x_Ev_to (M := xm_X8_canEnter) (is := xb_X8_canEnter_48) pg_X8_canEnter (by rfl) H
theorem xe_X8_canEnter_52 {ls : xL} {st : List Value} {h h' : xH} {r : Option Value} (H : x_ev x_nm x_tf x_fn x_Pg x_EV 41 (some .boolean) r h' xb_X8_canEnter_52 52 ls st h) : x_EV 41 52 ls st h r h' := x_Ev_to (M := xm_X8_canEnter) (is := xb_X8_canEnter_52) pg_X8_canEnter (by rfl) H
theorem xe_X8_canEnter_53 {ls : xL} {st : List Value} {h h' : xH} {r : Option Value} (H : x_ev x_nm x_tf x_fn x_Pg x_EV 41 (some .boolean) r h' xb_X8_canEnter_53 53 ls st h) : x_EV 41 53 ls st h r h' := x_Ev_to (M := xm_X8_canEnter) (is := xb_X8_canEnter_53) pg_X8_canEnter (by rfl) H
theorem xK_X8_canEnter {x1 : Int32} {x2 : Int32} {x3 : Int32} {h h1 : xH} {r : Option Value} (H : x_EV 41 0 [some (.int x1), some (.int x2), some (.int x3), none] [] h r h1) : xK 41 [.int x1, .int x2, .int x3] h r h1 := x_calX_s pg_X8_canEnter rfl (Nat.le_of_ble_eq_true rfl) rfl H
theorem pg_X8_full : x_Pg[42]? = some xm_X8_full := by
  unfold x_Pg
  rfl
theorem xe_X8_full_0 {ls : xL} {st : List Value} {h h' : xH} {r : Option Value} (H : x_ev x_nm x_tf x_fn x_Pg x_EV 42 (some .int) r h' xb_X8_full_0 0 ls st h) : x_EV 42 0 ls st h r h' := x_Ev_to (M := xm_X8_full) (is := xb_X8_full_0) pg_X8_full (by rfl) H
theorem xK_X8_full {o : Nat}  {h h1 : xH} {r : Option Value} {fs : List Value} (ho : h[o]? = some (.inr (7, fs))) (H : x_EV 42 0 [some (.ref o)] [] h r h1) : xK 42 [.ref o] h r h1 := x_calX_v pg_X8_full rfl rfl (Nat.le_of_ble_eq_true rfl) rfl ho H
theorem pg_X8_enters : x_Pg[43]? = some xm_X8_enters := by
  unfold x_Pg
  rfl
theorem xe_X8_enters_0 {ls : xL} {st : List Value} {h h' : xH} {r : Option Value} (H : x_ev x_nm x_tf x_fn x_Pg x_EV 43 (some .int) r h' xb_X8_enters_0 0 ls st h) : x_EV 43 0 ls st h r h' := x_Ev_to (M := xm_X8_enters) (is := xb_X8_enters_0) pg_X8_enters (by rfl) H
theorem xK_X8_enters {o : Nat} {x1 : Int32} {x2 : Int32} {x3 : Int32} {h h1 : xH} {r : Option Value} {fs : List Value} (ho : h[o]? = some (.inr (7, fs))) (H : x_EV 43 0 [some (.ref o), some (.int x1), some (.int x2), some (.int x3), none] [] h r h1) : xK 43 [.ref o, .int x1, .int x2, .int x3] h r h1 := x_calX_v pg_X8_enters rfl rfl (Nat.le_of_ble_eq_true rfl) rfl ho H
theorem pg_X8_entry : x_Pg[44]? = some xm_X8_entry := by
  unfold x_Pg
  rfl
theorem xe_X8_entry_0 {ls : xL} {st : List Value} {h h' : xH} {r : Option Value} (H : x_ev x_nm x_tf x_fn x_Pg x_EV 44 (some .int) r h' xb_X8_entry_0 0 ls st h) : x_EV 44 0 ls st h r h' := x_Ev_to (M := xm_X8_entry) (is := xb_X8_entry_0) pg_X8_entry (by rfl) H
theorem xe_X8_entry_14 {ls : xL} {st : List Value} {h h' : xH} {r : Option Value} (H : x_ev x_nm x_tf x_fn x_Pg x_EV 44 (some .int) r h' xb_X8_entry_14 14 ls st h) : x_EV 44 14 ls st h r h' := x_Ev_to (M := xm_X8_entry) (is := xb_X8_entry_14) pg_X8_entry (by rfl) H
theorem xe_X8_entry_31 {ls : xL} {st : List Value} {h h' : xH} {r : Option Value} (H : x_ev x_nm x_tf x_fn x_Pg x_EV 44 (some .int) r h' xb_X8_entry_31 31 ls st h) : x_EV 44 31 ls st h r h' := x_Ev_to (M := xm_X8_entry) (is := xb_X8_entry_31) pg_X8_entry (by rfl) H
theorem xK_X8_entry {o : Nat} {x1 : Int32} {x2 : Int32} {x3 : Int32} {h h1 : xH} {r : Option Value} {fs : List Value} (ho : h[o]? = some (.inr (7, fs))) (H : x_EV 44 0 [some (.ref o), some (.int x1), some (.int x2), some (.int x3)] [] h r h1) : xK 44 [.ref o, .int x1, .int x2, .int x3] h r h1 := x_calX_v pg_X8_entry rfl rfl (Nat.le_of_ble_eq_true rfl) rfl ho H
theorem pg_X1_putSetting : x_Pg[45]? = some xm_X1_putSetting := by
  unfold x_Pg
  rfl
theorem xe_X1_putSetting_0 {ls : xL} {st : List Value} {h h' : xH} {r : Option Value} (H : x_ev x_nm x_tf x_fn x_Pg x_EV 45 (some .int) r h' xb_X1_putSetting_0 0 ls st h) : x_EV 45 0 ls st h r h' := x_Ev_to (M := xm_X1_putSetting) (is := xb_X1_putSetting_0) pg_X1_putSetting (by rfl) H
theorem xK_X1_putSetting {o : Nat} {x1 : Int32} {x2 : Int32} {h h1 : xH} {r : Option Value} {fs : List Value} (ho : h[o]? = some (.inr (1, fs))) (H : x_EV 45 0 [some (.ref o), some (.int x1), some (.int x2), none] [] h r h1) : xK 45 [.ref o, .int x1, .int x2] h r h1 := x_calX_v pg_X1_putSetting rfl rfl (Nat.le_of_ble_eq_true rfl) rfl ho H
theorem pg_X7_sets : x_Pg[46]? = some xm_X7_sets := by
  unfold x_Pg
  rfl
theorem xe_X7_sets_0 {ls : xL} {st : List Value} {h h' : xH} {r : Option Value} (H : x_ev x_nm x_tf x_fn x_Pg x_EV 46 (some .int) r h' xb_X7_sets_0 0 ls st h) : x_EV 46 0 ls st h r h' := x_Ev_to (M := xm_X7_sets) (is := xb_X7_sets_0) pg_X7_sets (by rfl) H
theorem xe_X7_sets_24 {ls : xL} {st : List Value} {h h' : xH} {r : Option Value} (H : x_ev x_nm x_tf x_fn x_Pg x_EV 46 (some .int) r h' xb_X7_sets_24 24 ls st h) : x_EV 46 24 ls st h r h' := x_Ev_to (M := xm_X7_sets) (is := xb_X7_sets_24) pg_X7_sets (by rfl) H
theorem xe_X7_sets_31 {ls : xL} {st : List Value} {h h' : xH} {r : Option Value} (H : x_ev x_nm x_tf x_fn x_Pg x_EV 46 (some .int) r h' xb_X7_sets_31 31 ls st h) : x_EV 46 31 ls st h r h' := x_Ev_to (M := xm_X7_sets) (is := xb_X7_sets_31) pg_X7_sets (by rfl) H
theorem xK_X7_sets {o : Nat} {x1 : Int32} {x2 : Int32} {h h1 : xH} {r : Option Value} {fs : List Value} (ho : h[o]? = some (.inr (6, fs))) (H : x_EV 46 0 [some (.ref o), some (.int x1), some (.int x2)] [] h r h1) : xK 46 [.ref o, .int x1, .int x2] h r h1 := x_calX_v pg_X7_sets rfl rfl (Nat.le_of_ble_eq_true rfl) rfl ho H
theorem pg_X8_sets : x_Pg[47]? = some xm_X8_sets := by
  unfold x_Pg
  rfl
theorem xe_X8_sets_0 {ls : xL} {st : List Value} {h h' : xH} {r : Option Value} (H : x_ev x_nm x_tf x_fn x_Pg x_EV 47 (some .int) r h' xb_X8_sets_0 0 ls st h) : x_EV 47 0 ls st h r h' := x_Ev_to (M := xm_X8_sets) (is := xb_X8_sets_0) pg_X8_sets (by rfl) H
theorem xe_X8_sets_19 {ls : xL} {st : List Value} {h h' : xH} {r : Option Value} (H : x_ev x_nm x_tf x_fn x_Pg x_EV 47 (some .int) r h' xb_X8_sets_19 19 ls st h) : x_EV 47 19 ls st h r h' := x_Ev_to (M := xm_X8_sets) (is := xb_X8_sets_19) pg_X8_sets (by rfl) H
theorem xe_X8_sets_29 {ls : xL} {st : List Value} {h h' : xH} {r : Option Value} (H : x_ev x_nm x_tf x_fn x_Pg x_EV 47 (some .int) r h' xb_X8_sets_29 29 ls st h) : x_EV 47 29 ls st h r h' := x_Ev_to (M := xm_X8_sets) (is := xb_X8_sets_29) pg_X8_sets (by rfl) H
theorem xe_X8_sets_31 {ls : xL} {st : List Value} {h h' : xH} {r : Option Value} (H : x_ev x_nm x_tf x_fn x_Pg x_EV 47 (some .int) r h' xb_X8_sets_31 31 ls st h) : x_EV 47 31 ls st h r h' := x_Ev_to (M := xm_X8_sets) (is := xb_X8_sets_31) pg_X8_sets (by rfl) H
theorem xe_X8_sets_37 {ls : xL} {st : List Value} {h h' : xH} {r : Option Value} (H : x_ev x_nm x_tf x_fn x_Pg x_EV 47 (some .int) r h' xb_X8_sets_37 37 ls st h) : x_EV 47 37 ls st h r h' := x_Ev_to (M := xm_X8_sets) (is := xb_X8_sets_37) pg_X8_sets (by rfl) H
theorem xe_X8_sets_42 {ls : xL} {st : List Value} {h h' : xH} {r : Option Value} (H : x_ev x_nm x_tf x_fn x_Pg x_EV 47 (some .int) r h' xb_X8_sets_42 42 ls st h) : x_EV 47 42 ls st h r h' := x_Ev_to (M := xm_X8_sets) (is := xb_X8_sets_42) pg_X8_sets (by rfl) H
theorem xK_X8_sets {o : Nat} {x1 : Int32} {x2 : Int32} {h h1 : xH} {r : Option Value} {fs : List Value} (ho : h[o]? = some (.inr (7, fs))) (H : x_EV 47 0 [some (.ref o), some (.int x1), some (.int x2)] [] h r h1) : xK 47 [.ref o, .int x1, .int x2] h r h1 := x_calX_v pg_X8_sets rfl rfl (Nat.le_of_ble_eq_true rfl) rfl ho H
theorem pg_X1_price : x_Pg[48]? = some xm_X1_price := by
  unfold x_Pg
  rfl
theorem xe_X1_price_0 {ls : xL} {st : List Value} {h h' : xH} {r : Option Value} (H : x_ev x_nm x_tf x_fn x_Pg x_EV 48 (some .int) r h' xb_X1_price_0 0 ls st h) : x_EV 48 0 ls st h r h' := x_Ev_to (M := xm_X1_price) (is := xb_X1_price_0) pg_X1_price (by rfl) H
theorem xK_X1_price {o : Nat} {x1 : Int32} {x2 : Int32} {x3 : Int32} {h h1 : xH} {r : Option Value} {fs : List Value} (ho : h[o]? = some (.inr (1, fs))) (H : x_EV 48 0 [some (.ref o), some (.int x1), some (.int x2), some (.int x3)] [] h r h1) : xK 48 [.ref o, .int x1, .int x2, .int x3] h r h1 := x_calX_v pg_X1_price rfl rfl (Nat.le_of_ble_eq_true rfl) rfl ho H
theorem pg_X7_rule : x_Pg[49]? = some xm_X7_rule := by
  unfold x_Pg
  rfl
theorem xe_X7_rule_0 {ls : xL} {st : List Value} {h h' : xH} {r : Option Value} (H : x_ev x_nm x_tf x_fn x_Pg x_EV 49 (some .int) r h' xb_X7_rule_0 0 ls st h) : x_EV 49 0 ls st h r h' := x_Ev_to (M := xm_X7_rule) (is := xb_X7_rule_0) pg_X7_rule (by rfl) H
theorem xe_X7_rule_16 {ls : xL} {st : List Value} {h h' : xH} {r : Option Value} (H : x_ev x_nm x_tf x_fn x_Pg x_EV 49 (some .int) r h' xb_X7_rule_16 16 ls st h) : x_EV 49 16 ls st h r h' := x_Ev_to (M := xm_X7_rule) (is := xb_X7_rule_16) pg_X7_rule (by rfl) H
theorem xK_X7_rule {o : Nat} {x1 : Int32} {x2 : Int32} {x3 : Int32} {h h1 : xH} {r : Option Value} {fs : List Value} (ho : h[o]? = some (.inr (6, fs))) (H : x_EV 49 0 [some (.ref o), some (.int x1), some (.int x2), some (.int x3)] [] h r h1) : xK 49 [.ref o, .int x1, .int x2, .int x3] h r h1 := x_calX_v pg_X7_rule rfl rfl (Nat.le_of_ble_eq_true rfl) rfl ho H
theorem pg_X8_rule : x_Pg[50]? = some xm_X8_rule := by
  unfold x_Pg
  rfl
theorem xe_X8_rule_0 {ls : xL} {st : List Value} {h h' : xH} {r : Option Value} (H : x_ev x_nm x_tf x_fn x_Pg x_EV 50 (some .int) r h' xb_X8_rule_0 0 ls st h) : x_EV 50 0 ls st h r h' := x_Ev_to (M := xm_X8_rule) (is := xb_X8_rule_0) pg_X8_rule (by rfl) H
theorem xe_X8_rule_23 {ls : xL} {st : List Value} {h h' : xH} {r : Option Value} (H : x_ev x_nm x_tf x_fn x_Pg x_EV 50 (some .int) r h' xb_X8_rule_23 23 ls st h) : x_EV 50 23 ls st h r h' := x_Ev_to (M := xm_X8_rule) (is := xb_X8_rule_23) pg_X8_rule (by rfl) H
theorem xe_X8_rule_27 {ls : xL} {st : List Value} {h h' : xH} {r : Option Value} (H : x_ev x_nm x_tf x_fn x_Pg x_EV 50 (some .int) r h' xb_X8_rule_27 27 ls st h) : x_EV 50 27 ls st h r h' := x_Ev_to (M := xm_X8_rule) (is := xb_X8_rule_27) pg_X8_rule (by rfl) H
theorem xK_X8_rule {o : Nat} {x1 : Int32} {x2 : Int32} {x3 : Int32} {h h1 : xH} {r : Option Value} {fs : List Value} (ho : h[o]? = some (.inr (7, fs))) (H : x_EV 50 0 [some (.ref o), some (.int x1), some (.int x2), some (.int x3)] [] h r h1) : xK 50 [.ref o, .int x1, .int x2, .int x3] h r h1 := x_calX_v pg_X8_rule rfl rfl (Nat.le_of_ble_eq_true rfl) rfl ho H
theorem pg_X1_hasEntry : x_Pg[51]? = some xm_X1_hasEntry := by
  unfold x_Pg
  rfl
theorem xe_X1_hasEntry_0 {ls : xL} {st : List Value} {h h' : xH} {r : Option Value} (H : x_ev x_nm x_tf x_fn x_Pg x_EV 51 (some .boolean) r h' xb_X1_hasEntry_0 0 ls st h) : x_EV 51 0 ls st h r h' := x_Ev_to (M := xm_X1_hasEntry) (is := xb_X1_hasEntry_0) pg_X1_hasEntry (by rfl) H
theorem xK_X1_hasEntry {o : Nat} {x1 : Int32} {h h1 : xH} {r : Option Value} {fs : List Value} (ho : h[o]? = some (.inr (1, fs))) (H : x_EV 51 0 [some (.ref o), some (.int x1)] [] h r h1) : xK 51 [.ref o, .int x1] h r h1 := x_calX_v pg_X1_hasEntry rfl rfl (Nat.le_of_ble_eq_true rfl) rfl ho H
theorem pg_X1_sortOf : x_Pg[52]? = some xm_X1_sortOf := by
  unfold x_Pg
  rfl
theorem xe_X1_sortOf_0 {ls : xL} {st : List Value} {h h' : xH} {r : Option Value} (H : x_ev x_nm x_tf x_fn x_Pg x_EV 52 (some .int) r h' xb_X1_sortOf_0 0 ls st h) : x_EV 52 0 ls st h r h' := x_Ev_to (M := xm_X1_sortOf) (is := xb_X1_sortOf_0) pg_X1_sortOf (by rfl) H
theorem xK_X1_sortOf {o : Nat} {x1 : Int32} {x2 : Int32} {h h1 : xH} {r : Option Value} {fs : List Value} (ho : h[o]? = some (.inr (1, fs))) (H : x_EV 52 0 [some (.ref o), some (.int x1), some (.int x2)] [] h r h1) : xK 52 [.ref o, .int x1, .int x2] h r h1 := x_calX_v pg_X1_sortOf rfl rfl (Nat.le_of_ble_eq_true rfl) rfl ho H
theorem pg_X1_extraOf : x_Pg[53]? = some xm_X1_extraOf := by
  unfold x_Pg
  rfl
theorem xe_X1_extraOf_0 {ls : xL} {st : List Value} {h h' : xH} {r : Option Value} (H : x_ev x_nm x_tf x_fn x_Pg x_EV 53 (some .int) r h' xb_X1_extraOf_0 0 ls st h) : x_EV 53 0 ls st h r h' := x_Ev_to (M := xm_X1_extraOf) (is := xb_X1_extraOf_0) pg_X1_extraOf (by rfl) H
theorem xe_X1_extraOf_14 {ls : xL} {st : List Value} {h h' : xH} {r : Option Value} (H : x_ev x_nm x_tf x_fn x_Pg x_EV 53 (some .int) r h' xb_X1_extraOf_14 14 ls st h) : x_EV 53 14 ls st h r h' := x_Ev_to (M := xm_X1_extraOf) (is := xb_X1_extraOf_14) pg_X1_extraOf (by rfl) H
theorem xe_X1_extraOf_15 {ls : xL} {st : List Value} {h h' : xH} {r : Option Value} (H : x_ev x_nm x_tf x_fn x_Pg x_EV 53 (some .int) r h' xb_X1_extraOf_15 15 ls st h) : x_EV 53 15 ls st h r h' := x_Ev_to (M := xm_X1_extraOf) (is := xb_X1_extraOf_15) pg_X1_extraOf (by rfl) H
theorem xK_X1_extraOf {o : Nat} {x1 : Int32} {x2 : Int32} {h h1 : xH} {r : Option Value} {fs : List Value} (ho : h[o]? = some (.inr (1, fs))) (H : x_EV 53 0 [some (.ref o), some (.int x1), some (.int x2)] [] h r h1) : xK 53 [.ref o, .int x1, .int x2] h r h1 := x_calX_v pg_X1_extraOf rfl rfl (Nat.le_of_ble_eq_true rfl) rfl ho H
theorem pg_X7_of : x_Pg[54]? = some xm_X7_of := by
  unfold x_Pg
  rfl
theorem xe_X7_of_0 {ls : xL} {st : List Value} {h h' : xH} {r : Option Value} (H : x_ev x_nm x_tf x_fn x_Pg x_EV 54 (some .int) r h' xb_X7_of_0 0 ls st h) : x_EV 54 0 ls st h r h' := x_Ev_to (M := xm_X7_of) (is := xb_X7_of_0) pg_X7_of (by rfl) H
theorem xe_X7_of_22 {ls : xL} {st : List Value} {h h' : xH} {r : Option Value} (H : x_ev x_nm x_tf x_fn x_Pg x_EV 54 (some .int) r h' xb_X7_of_22 22 ls st h) : x_EV 54 22 ls st h r h' := x_Ev_to (M := xm_X7_of) (is := xb_X7_of_22) pg_X7_of (by rfl) H
theorem xe_X7_of_29 {ls : xL} {st : List Value} {h h' : xH} {r : Option Value} (H : x_ev x_nm x_tf x_fn x_Pg x_EV 54 (some .int) r h' xb_X7_of_29 29 ls st h) : x_EV 54 29 ls st h r h' := x_Ev_to (M := xm_X7_of) (is := xb_X7_of_29) pg_X7_of (by rfl) H
theorem xe_X7_of_49 {ls : xL} {st : List Value} {h h' : xH} {r : Option Value} (H : x_ev x_nm x_tf x_fn x_Pg x_EV 54 (some .int) r h' xb_X7_of_49 49 ls st h) : x_EV 54 49 ls st h r h' := x_Ev_to (M := xm_X7_of) (is := xb_X7_of_49) pg_X7_of (by rfl) H
theorem xe_X7_of_61 {ls : xL} {st : List Value} {h h' : xH} {r : Option Value} (H : x_ev x_nm x_tf x_fn x_Pg x_EV 54 (some .int) r h' xb_X7_of_61 61 ls st h) : x_EV 54 61 ls st h r h' := x_Ev_to (M := xm_X7_of) (is := xb_X7_of_61) pg_X7_of (by rfl) H
theorem xK_X7_of {o : Nat} {x1 : Int32} {x2 : Int32} {h h1 : xH} {r : Option Value} {fs : List Value} (ho : h[o]? = some (.inr (6, fs))) (H : x_EV 54 0 [some (.ref o), some (.int x1), some (.int x2)] [] h r h1) : xK 54 [.ref o, .int x1, .int x2] h r h1 := x_calX_v pg_X7_of rfl rfl (Nat.le_of_ble_eq_true rfl) rfl ho H
theorem pg_X8_isEntry : x_Pg[55]? = some xm_X8_isEntry := by
  unfold x_Pg
  rfl
theorem xe_X8_isEntry_0 {ls : xL} {st : List Value} {h h' : xH} {r : Option Value} (H : x_ev x_nm x_tf x_fn x_Pg x_EV 55 (some .boolean) r h' xb_X8_isEntry_0 0 ls st h) : x_EV 55 0 ls st h r h' := x_Ev_to (M := xm_X8_isEntry) (is := xb_X8_isEntry_0) pg_X8_isEntry (by rfl) H
theorem xK_X8_isEntry {o : Nat} {x1 : Int32} {h h1 : xH} {r : Option Value} {fs : List Value} (ho : h[o]? = some (.inr (7, fs))) (H : x_EV 55 0 [some (.ref o), some (.int x1)] [] h r h1) : xK 55 [.ref o, .int x1] h r h1 := x_calX_v pg_X8_isEntry rfl rfl (Nat.le_of_ble_eq_true rfl) rfl ho H
theorem pg_X8_of : x_Pg[56]? = some xm_X8_of := by
  unfold x_Pg
  rfl
theorem xe_X8_of_0 {ls : xL} {st : List Value} {h h' : xH} {r : Option Value} (H : x_ev x_nm x_tf x_fn x_Pg x_EV 56 (some .int) r h' xb_X8_of_0 0 ls st h) : x_EV 56 0 ls st h r h' := x_Ev_to (M := xm_X8_of) (is := xb_X8_of_0) pg_X8_of (by rfl) H
theorem xe_X8_of_33 {ls : xL} {st : List Value} {h h' : xH} {r : Option Value} (H : x_ev x_nm x_tf x_fn x_Pg x_EV 56 (some .int) r h' xb_X8_of_33 33 ls st h) : x_EV 56 33 ls st h r h' := x_Ev_to (M := xm_X8_of) (is := xb_X8_of_33) pg_X8_of (by rfl) H
theorem xe_X8_of_37 {ls : xL} {st : List Value} {h h' : xH} {r : Option Value} (H : x_ev x_nm x_tf x_fn x_Pg x_EV 56 (some .int) r h' xb_X8_of_37 37 ls st h) : x_EV 56 37 ls st h r h' := x_Ev_to (M := xm_X8_of) (is := xb_X8_of_37) pg_X8_of (by rfl) H
theorem xK_X8_of {o : Nat} {x1 : Int32} {x2 : Int32} {h h1 : xH} {r : Option Value} {fs : List Value} (ho : h[o]? = some (.inr (7, fs))) (H : x_EV 56 0 [some (.ref o), some (.int x1), some (.int x2)] [] h r h1) : xK 56 [.ref o, .int x1, .int x2] h r h1 := x_calX_v pg_X8_of rfl rfl (Nat.le_of_ble_eq_true rfl) rfl ho H
theorem pg_X6_whyNoWord : x_Pg[57]? = some xm_X6_whyNoWord := by
  unfold x_Pg
  rfl
theorem xe_X6_whyNoWord_0 {ls : xL} {st : List Value} {h h' : xH} {r : Option Value} (H : x_ev x_nm x_tf x_fn x_Pg x_EV 57 (some .int) r h' xb_X6_whyNoWord_0 0 ls st h) : x_EV 57 0 ls st h r h' := x_Ev_to (M := xm_X6_whyNoWord) (is := xb_X6_whyNoWord_0) pg_X6_whyNoWord (by rfl) H
theorem xe_X6_whyNoWord_14 {ls : xL} {st : List Value} {h h' : xH} {r : Option Value} (H : x_ev x_nm x_tf x_fn x_Pg x_EV 57 (some .int) r h' xb_X6_whyNoWord_14 14 ls st h) : x_EV 57 14 ls st h r h' := x_Ev_to (M := xm_X6_whyNoWord) (is := xb_X6_whyNoWord_14) pg_X6_whyNoWord (by rfl) H
theorem xe_X6_whyNoWord_31 {ls : xL} {st : List Value} {h h' : xH} {r : Option Value} (H : x_ev x_nm x_tf x_fn x_Pg x_EV 57 (some .int) r h' xb_X6_whyNoWord_31 31 ls st h) : x_EV 57 31 ls st h r h' := x_Ev_to (M := xm_X6_whyNoWord) (is := xb_X6_whyNoWord_31) pg_X6_whyNoWord (by rfl) H
theorem xe_X6_whyNoWord_32 {ls : xL} {st : List Value} {h h' : xH} {r : Option Value} (H : x_ev x_nm x_tf x_fn x_Pg x_EV 57 (some .int) r h' xb_X6_whyNoWord_32 32 ls st h) : x_EV 57 32 ls st h r h' := x_Ev_to (M := xm_X6_whyNoWord) (is := xb_X6_whyNoWord_32) pg_X6_whyNoWord (by rfl) H
theorem xK_X6_whyNoWord {o : Nat} {x1 : Int32} {h h1 : xH} {r : Option Value} {fs : List Value} (ho : h[o]? = some (.inr (5, fs))) (H : x_EV 57 0 [some (.ref o), some (.int x1)] [] h r h1) : xK 57 [.ref o, .int x1] h r h1 := x_calX_v pg_X6_whyNoWord rfl rfl (Nat.le_of_ble_eq_true rfl) rfl ho H
theorem pg_X4_heldRow : x_Pg[58]? = some xm_X4_heldRow := by
  unfold x_Pg
  rfl
theorem xe_X4_heldRow_0 {ls : xL} {st : List Value} {h h' : xH} {r : Option Value} (H : x_ev x_nm x_tf x_fn x_Pg x_EV 58 (some .int) r h' xb_X4_heldRow_0 0 ls st h) : x_EV 58 0 ls st h r h' := x_Ev_to (M := xm_X4_heldRow) (is := xb_X4_heldRow_0) pg_X4_heldRow (by rfl) H
theorem xK_X4_heldRow {o : Nat}  {h h1 : xH} {r : Option Value} {fs : List Value} (ho : h[o]? = some (.inr (3, fs))) (H : x_EV 58 0 [some (.ref o)] [] h r h1) : xK 58 [.ref o] h r h1 := x_calX_v pg_X4_heldRow rfl rfl (Nat.le_of_ble_eq_true rfl) rfl ho H
theorem pg_X4_isStuck : x_Pg[59]? = some xm_X4_isStuck := by
  unfold x_Pg
  rfl
theorem xe_X4_isStuck_0 {ls : xL} {st : List Value} {h h' : xH} {r : Option Value} (H : x_ev x_nm x_tf x_fn x_Pg x_EV 59 (some .boolean) r h' xb_X4_isStuck_0 0 ls st h) : x_EV 59 0 ls st h r h' := x_Ev_to (M := xm_X4_isStuck) (is := xb_X4_isStuck_0) pg_X4_isStuck (by rfl) H
theorem xe_X4_isStuck_19 {ls : xL} {st : List Value} {h h' : xH} {r : Option Value} (H : x_ev x_nm x_tf x_fn x_Pg x_EV 59 (some .boolean) r h' xb_X4_isStuck_19 19 ls st h) : x_EV 59 19 ls st h r h' := x_Ev_to (M := xm_X4_isStuck) (is := xb_X4_isStuck_19) pg_X4_isStuck (by rfl) H
theorem xe_X4_isStuck_20 {ls : xL} {st : List Value} {h h' : xH} {r : Option Value} (H : x_ev x_nm x_tf x_fn x_Pg x_EV 59 (some .boolean) r h' xb_X4_isStuck_20 20 ls st h) : x_EV 59 20 ls st h r h' := x_Ev_to (M := xm_X4_isStuck) (is := xb_X4_isStuck_20) pg_X4_isStuck (by rfl) H
theorem xK_X4_isStuck {o : Nat}  {h h1 : xH} {r : Option Value} {fs : List Value} (ho : h[o]? = some (.inr (3, fs))) (H : x_EV 59 0 [some (.ref o)] [] h r h1) : xK 59 [.ref o] h r h1 := x_calX_v pg_X4_isStuck rfl rfl (Nat.le_of_ble_eq_true rfl) rfl ho H
theorem pg_X2_headOf : x_Pg[60]? = some xm_X2_headOf := by
  unfold x_Pg
  rfl
theorem xe_X2_headOf_0 {ls : xL} {st : List Value} {h h' : xH} {r : Option Value} (H : x_ev x_nm x_tf x_fn x_Pg x_EV 60 (some .int) r h' xb_X2_headOf_0 0 ls st h) : x_EV 60 0 ls st h r h' := x_Ev_to (M := xm_X2_headOf) (is := xb_X2_headOf_0) pg_X2_headOf (by rfl) H
theorem xK_X2_headOf {x1 : Int32} {x2 : Int32} {h h1 : xH} {r : Option Value} (H : x_EV 60 0 [some (.int x1), some (.int x2)] [] h r h1) : xK 60 [.int x1, .int x2] h r h1 := x_calX_s pg_X2_headOf rfl (Nat.le_of_ble_eq_true rfl) rfl H
theorem pg_X2_readingOf : x_Pg[61]? = some xm_X2_readingOf := by
  unfold x_Pg
  rfl
theorem xe_X2_readingOf_0 {ls : xL} {st : List Value} {h h' : xH} {r : Option Value} (H : x_ev x_nm x_tf x_fn x_Pg x_EV 61 (some .int) r h' xb_X2_readingOf_0 0 ls st h) : x_EV 61 0 ls st h r h' := x_Ev_to (M := xm_X2_readingOf) (is := xb_X2_readingOf_0) pg_X2_readingOf (by rfl) H
theorem xK_X2_readingOf {x1 : Int32} {x2 : Int32} {h h1 : xH} {r : Option Value} (H : x_EV 61 0 [some (.int x1), some (.int x2)] [] h r h1) : xK 61 [.int x1, .int x2] h r h1 := x_calX_s pg_X2_readingOf rfl (Nat.le_of_ble_eq_true rfl) rfl H
theorem pg_X0_repairOf : x_Pg[62]? = some xm_X0_repairOf := by
  unfold x_Pg
  rfl
theorem xe_X0_repairOf_0 {ls : xL} {st : List Value} {h h' : xH} {r : Option Value} (H : x_ev x_nm x_tf x_fn x_Pg x_EV 62 (some .int) r h' xb_X0_repairOf_0 0 ls st h) : x_EV 62 0 ls st h r h' := x_Ev_to (M := xm_X0_repairOf) (is := xb_X0_repairOf_0) pg_X0_repairOf (by rfl) H
theorem xe_X0_repairOf_16 {ls : xL} {st : List Value} {h h' : xH} {r : Option Value} (H : x_ev x_nm x_tf x_fn x_Pg x_EV 62 (some .int) r h' xb_X0_repairOf_16 16 ls st h) : x_EV 62 16 ls st h r h' := x_Ev_to (M := xm_X0_repairOf) (is := xb_X0_repairOf_16) pg_X0_repairOf (by rfl) H
theorem xe_X0_repairOf_18 {ls : xL} {st : List Value} {h h' : xH} {r : Option Value} (H : x_ev x_nm x_tf x_fn x_Pg x_EV 62 (some .int) r h' xb_X0_repairOf_18 18 ls st h) : x_EV 62 18 ls st h r h' := x_Ev_to (M := xm_X0_repairOf) (is := xb_X0_repairOf_18) pg_X0_repairOf (by rfl) H
theorem xe_X0_repairOf_59 {ls : xL} {st : List Value} {h h' : xH} {r : Option Value} (H : x_ev x_nm x_tf x_fn x_Pg x_EV 62 (some .int) r h' xb_X0_repairOf_59 59 ls st h) : x_EV 62 59 ls st h r h' := x_Ev_to (M := xm_X0_repairOf) (is := xb_X0_repairOf_59) pg_X0_repairOf (by rfl) H
theorem xe_X0_repairOf_63 {ls : xL} {st : List Value} {h h' : xH} {r : Option Value} (H : x_ev x_nm x_tf x_fn x_Pg x_EV 62 (some .int) r h' xb_X0_repairOf_63 63 ls st h) : x_EV 62 63 ls st h r h' := x_Ev_to (M := xm_X0_repairOf) (is := xb_X0_repairOf_63) pg_X0_repairOf (by rfl) H
theorem xe_X0_repairOf_64 {ls : xL} {st : List Value} {h h' : xH} {r : Option Value} (H : x_ev x_nm x_tf x_fn x_Pg x_EV 62 (some .int) r h' xb_X0_repairOf_64 64 ls st h) : x_EV 62 64 ls st h r h' := x_Ev_to (M := xm_X0_repairOf) (is := xb_X0_repairOf_64) pg_X0_repairOf (by rfl) H
theorem xe_X0_repairOf_80 {ls : xL} {st : List Value} {h h' : xH} {r : Option Value} (H : x_ev x_nm x_tf x_fn x_Pg x_EV 62 (some .int) r h' xb_X0_repairOf_80 80 ls st h) : x_EV 62 80 ls st h r h' := x_Ev_to (M := xm_X0_repairOf) (is := xb_X0_repairOf_80) pg_X0_repairOf (by rfl) H
theorem xe_X0_repairOf_81 {ls : xL} {st : List Value} {h h' : xH} {r : Option Value} (H : x_ev x_nm x_tf x_fn x_Pg x_EV 62 (some .int) r h' xb_X0_repairOf_81 81 ls st h) : x_EV 62 81 ls st h r h' := x_Ev_to (M := xm_X0_repairOf) (is := xb_X0_repairOf_81) pg_X0_repairOf (by rfl) H
theorem xK_X0_repairOf {x1 : Nat} {x2 : Int32} {x3 : Int32} {x4 : Int32} {x5 : Int32} {h h1 : xH} {r : Option Value} (H : x_EV 62 0 [some (.ref x1), some (.int x2), some (.int x3), some (.int x4), some (.int x5), none, none, none, none] [] h r h1) : xK 62 [.ref x1, .int x2, .int x3, .int x4, .int x5] h r h1 := x_calX_s pg_X0_repairOf rfl (Nat.le_of_ble_eq_true rfl) rfl H
theorem pg_X2_part : x_Pg[63]? = some xm_X2_part := by
  unfold x_Pg
  rfl
theorem xe_X2_part_0 {ls : xL} {st : List Value} {h h' : xH} {r : Option Value} (H : x_ev x_nm x_tf x_fn x_Pg x_EV 63 (some .int) r h' xb_X2_part_0 0 ls st h) : x_EV 63 0 ls st h r h' := x_Ev_to (M := xm_X2_part) (is := xb_X2_part_0) pg_X2_part (by rfl) H
theorem xK_X2_part {x1 : Int32} {x2 : Int32} {x3 : Int32} {h h1 : xH} {r : Option Value} (H : x_EV 63 0 [some (.int x1), some (.int x2), some (.int x3)] [] h r h1) : xK 63 [.int x1, .int x2, .int x3] h r h1 := x_calX_s pg_X2_part rfl (Nat.le_of_ble_eq_true rfl) rfl H
theorem pg_X0_costOfLink : x_Pg[64]? = some xm_X0_costOfLink := by
  unfold x_Pg
  rfl
theorem xe_X0_costOfLink_0 {ls : xL} {st : List Value} {h h' : xH} {r : Option Value} (H : x_ev x_nm x_tf x_fn x_Pg x_EV 64 (some .int) r h' xb_X0_costOfLink_0 0 ls st h) : x_EV 64 0 ls st h r h' := x_Ev_to (M := xm_X0_costOfLink) (is := xb_X0_costOfLink_0) pg_X0_costOfLink (by rfl) H
theorem xe_X0_costOfLink_57 {ls : xL} {st : List Value} {h h' : xH} {r : Option Value} (H : x_ev x_nm x_tf x_fn x_Pg x_EV 64 (some .int) r h' xb_X0_costOfLink_57 57 ls st h) : x_EV 64 57 ls st h r h' := x_Ev_to (M := xm_X0_costOfLink) (is := xb_X0_costOfLink_57) pg_X0_costOfLink (by rfl) H
theorem xe_X0_costOfLink_59 {ls : xL} {st : List Value} {h h' : xH} {r : Option Value} (H : x_ev x_nm x_tf x_fn x_Pg x_EV 64 (some .int) r h' xb_X0_costOfLink_59 59 ls st h) : x_EV 64 59 ls st h r h' := x_Ev_to (M := xm_X0_costOfLink) (is := xb_X0_costOfLink_59) pg_X0_costOfLink (by rfl) H
theorem xe_X0_costOfLink_74 {ls : xL} {st : List Value} {h h' : xH} {r : Option Value} (H : x_ev x_nm x_tf x_fn x_Pg x_EV 64 (some .int) r h' xb_X0_costOfLink_74 74 ls st h) : x_EV 64 74 ls st h r h' := x_Ev_to (M := xm_X0_costOfLink) (is := xb_X0_costOfLink_74) pg_X0_costOfLink (by rfl) H
theorem xe_X0_costOfLink_75 {ls : xL} {st : List Value} {h h' : xH} {r : Option Value} (H : x_ev x_nm x_tf x_fn x_Pg x_EV 64 (some .int) r h' xb_X0_costOfLink_75 75 ls st h) : x_EV 64 75 ls st h r h' := x_Ev_to (M := xm_X0_costOfLink) (is := xb_X0_costOfLink_75) pg_X0_costOfLink (by rfl) H
theorem xe_X0_costOfLink_88 {ls : xL} {st : List Value} {h h' : xH} {r : Option Value} (H : x_ev x_nm x_tf x_fn x_Pg x_EV 64 (some .int) r h' xb_X0_costOfLink_88 88 ls st h) : x_EV 64 88 ls st h r h' := x_Ev_to (M := xm_X0_costOfLink) (is := xb_X0_costOfLink_88) pg_X0_costOfLink (by rfl) H
theorem xK_X0_costOfLink {x1 : Nat} {x2 : Int32} {x3 : Int32} {x4 : Int32} {x5 : Int32} {h h1 : xH} {r : Option Value} (H : x_EV 64 0 [some (.ref x1), some (.int x2), some (.int x3), some (.int x4), some (.int x5), none, none, none, none, none, none] [] h r h1) : xK 64 [.ref x1, .int x2, .int x3, .int x4, .int x5] h r h1 := x_calX_s pg_X0_costOfLink rfl (Nat.le_of_ble_eq_true rfl) rfl H
theorem pg_X0_linkPlace : x_Pg[65]? = some xm_X0_linkPlace := by
  unfold x_Pg
  rfl
theorem xe_X0_linkPlace_0 {ls : xL} {st : List Value} {h h' : xH} {r : Option Value} (H : x_ev x_nm x_tf x_fn x_Pg x_EV 65 (some .int) r h' xb_X0_linkPlace_0 0 ls st h) : x_EV 65 0 ls st h r h' := x_Ev_to (M := xm_X0_linkPlace) (is := xb_X0_linkPlace_0) pg_X0_linkPlace (by rfl) H
theorem xK_X0_linkPlace {x1 : Int32} {x2 : Int32} {x3 : Int32} {x4 : Int32} {h h1 : xH} {r : Option Value} (H : x_EV 65 0 [some (.int x1), some (.int x2), some (.int x3), some (.int x4)] [] h r h1) : xK 65 [.int x1, .int x2, .int x3, .int x4] h r h1 := x_calX_s pg_X0_linkPlace rfl (Nat.le_of_ble_eq_true rfl) rfl H
theorem pg_X0_share : x_Pg[66]? = some xm_X0_share := by
  unfold x_Pg
  rfl
theorem xe_X0_share_0 {ls : xL} {st : List Value} {h h' : xH} {r : Option Value} (H : x_ev x_nm x_tf x_fn x_Pg x_EV 66 (some .long) r h' xb_X0_share_0 0 ls st h) : x_EV 66 0 ls st h r h' := x_Ev_to (M := xm_X0_share) (is := xb_X0_share_0) pg_X0_share (by rfl) H
theorem xe_X0_share_9 {ls : xL} {st : List Value} {h h' : xH} {r : Option Value} (H : x_ev x_nm x_tf x_fn x_Pg x_EV 66 (some .long) r h' xb_X0_share_9 9 ls st h) : x_EV 66 9 ls st h r h' := x_Ev_to (M := xm_X0_share) (is := xb_X0_share_9) pg_X0_share (by rfl) H
theorem xK_X0_share {x1 : Int32} {x2 : Int32} {x3 : Int32} {h h1 : xH} {r : Option Value} (H : x_EV 66 0 [some (.int x1), some (.int x2), some (.int x3)] [] h r h1) : xK 66 [.int x1, .int x2, .int x3] h r h1 := x_calX_s pg_X0_share rfl (Nat.le_of_ble_eq_true rfl) rfl H
theorem pg_X0_reckonLinks : x_Pg[67]? = some xm_X0_reckonLinks := by
  unfold x_Pg
  rfl
theorem xe_X0_reckonLinks_0 {ls : xL} {st : List Value} {h h' : xH} {r : Option Value} (H : x_ev x_nm x_tf x_fn x_Pg x_EV 67 none r h' xb_X0_reckonLinks_0 0 ls st h) : x_EV 67 0 ls st h r h' := x_Ev_to (M := xm_X0_reckonLinks) (is := xb_X0_reckonLinks_0) pg_X0_reckonLinks (by rfl) H
theorem xe_X0_reckonLinks_3 {ls : xL} {st : List Value} {h h' : xH} {r : Option Value} (H : x_ev x_nm x_tf x_fn x_Pg x_EV 67 none r h' xb_X0_reckonLinks_3 3 ls st h) : x_EV 67 3 ls st h r h' := x_Ev_to (M := xm_X0_reckonLinks) (is := xb_X0_reckonLinks_3) pg_X0_reckonLinks (by rfl) H
theorem xe_X0_reckonLinks_24 {ls : xL} {st : List Value} {h h' : xH} {r : Option Value} (H : x_ev x_nm x_tf x_fn x_Pg x_EV 67 none r h' xb_X0_reckonLinks_24 24 ls st h) : x_EV 67 24 ls st h r h' := x_Ev_to (M := xm_X0_reckonLinks) (is := xb_X0_reckonLinks_24) pg_X0_reckonLinks (by rfl) H
theorem xe_X0_reckonLinks_27 {ls : xL} {st : List Value} {h h' : xH} {r : Option Value} (H : x_ev x_nm x_tf x_fn x_Pg x_EV 67 none r h' xb_X0_reckonLinks_27 27 ls st h) : x_EV 67 27 ls st h r h' := x_Ev_to (M := xm_X0_reckonLinks) (is := xb_X0_reckonLinks_27) pg_X0_reckonLinks (by rfl) H
theorem xe_X0_reckonLinks_61 {ls : xL} {st : List Value} {h h' : xH} {r : Option Value} (H : x_ev x_nm x_tf x_fn x_Pg x_EV 67 none r h' xb_X0_reckonLinks_61 61 ls st h) : x_EV 67 61 ls st h r h' := x_Ev_to (M := xm_X0_reckonLinks) (is := xb_X0_reckonLinks_61) pg_X0_reckonLinks (by rfl) H
theorem xe_X0_reckonLinks_110 {ls : xL} {st : List Value} {h h' : xH} {r : Option Value} (H : x_ev x_nm x_tf x_fn x_Pg x_EV 67 none r h' xb_X0_reckonLinks_110 110 ls st h) : x_EV 67 110 ls st h r h' := x_Ev_to (M := xm_X0_reckonLinks) (is := xb_X0_reckonLinks_110) pg_X0_reckonLinks (by rfl) H
theorem xe_X0_reckonLinks_116 {ls : xL} {st : List Value} {h h' : xH} {r : Option Value} (H : x_ev x_nm x_tf x_fn x_Pg x_EV 67 none r h' xb_X0_reckonLinks_116 116 ls st h) : x_EV 67 116 ls st h r h' := x_Ev_to (M := xm_X0_reckonLinks) (is := xb_X0_reckonLinks_116) pg_X0_reckonLinks (by rfl) H
theorem xe_X0_reckonLinks_122 {ls : xL} {st : List Value} {h h' : xH} {r : Option Value} (H : x_ev x_nm x_tf x_fn x_Pg x_EV 67 none r h' xb_X0_reckonLinks_122 122 ls st h) : x_EV 67 122 ls st h r h' := x_Ev_to (M := xm_X0_reckonLinks) (is := xb_X0_reckonLinks_122) pg_X0_reckonLinks (by rfl) H
theorem xK_X0_reckonLinks {o : Nat} {x1 : Nat} {x2 : Int32} {x3 : Int32} {h h1 : xH} {r : Option Value} {fs : List Value} (ho : h[o]? = some (.inr (0, fs))) (H : x_EV 67 0 [some (.ref o), some (.ref x1), some (.int x2), some (.int x3), none, none, none, none, none, none] [] h r h1) : xK 67 [.ref o, .ref x1, .int x2, .int x3] h r h1 := x_calX_v pg_X0_reckonLinks rfl rfl (Nat.le_of_ble_eq_true rfl) rfl ho H
theorem pg_X0_reckonTree : x_Pg[68]? = some xm_X0_reckonTree := by
  unfold x_Pg
  rfl
theorem xe_X0_reckonTree_0 {ls : xL} {st : List Value} {h h' : xH} {r : Option Value} (H : x_ev x_nm x_tf x_fn x_Pg x_EV 68 none r h' xb_X0_reckonTree_0 0 ls st h) : x_EV 68 0 ls st h r h' := x_Ev_to (M := xm_X0_reckonTree) (is := xb_X0_reckonTree_0) pg_X0_reckonTree (by rfl) H
theorem xe_X0_reckonTree_11 {ls : xL} {st : List Value} {h h' : xH} {r : Option Value} (H : x_ev x_nm x_tf x_fn x_Pg x_EV 68 none r h' xb_X0_reckonTree_11 11 ls st h) : x_EV 68 11 ls st h r h' := x_Ev_to (M := xm_X0_reckonTree) (is := xb_X0_reckonTree_11) pg_X0_reckonTree (by rfl) H
theorem xe_X0_reckonTree_20 {ls : xL} {st : List Value} {h h' : xH} {r : Option Value} (H : x_ev x_nm x_tf x_fn x_Pg x_EV 68 none r h' xb_X0_reckonTree_20 20 ls st h) : x_EV 68 20 ls st h r h' := x_Ev_to (M := xm_X0_reckonTree) (is := xb_X0_reckonTree_20) pg_X0_reckonTree (by rfl) H
theorem xe_X0_reckonTree_125 {ls : xL} {st : List Value} {h h' : xH} {r : Option Value} (H : x_ev x_nm x_tf x_fn x_Pg x_EV 68 none r h' xb_X0_reckonTree_125 125 ls st h) : x_EV 68 125 ls st h r h' := x_Ev_to (M := xm_X0_reckonTree) (is := xb_X0_reckonTree_125) pg_X0_reckonTree (by rfl) H
theorem xe_X0_reckonTree_131 {ls : xL} {st : List Value} {h h' : xH} {r : Option Value} (H : x_ev x_nm x_tf x_fn x_Pg x_EV 68 none r h' xb_X0_reckonTree_131 131 ls st h) : x_EV 68 131 ls st h r h' := x_Ev_to (M := xm_X0_reckonTree) (is := xb_X0_reckonTree_131) pg_X0_reckonTree (by rfl) H
theorem xe_X0_reckonTree_137 {ls : xL} {st : List Value} {h h' : xH} {r : Option Value} (H : x_ev x_nm x_tf x_fn x_Pg x_EV 68 none r h' xb_X0_reckonTree_137 137 ls st h) : x_EV 68 137 ls st h r h' := x_Ev_to (M := xm_X0_reckonTree) (is := xb_X0_reckonTree_137) pg_X0_reckonTree (by rfl) H
theorem xK_X0_reckonTree {o : Nat} {x1 : Int32} {x2 : Int32} {x3 : Int32} {x4 : Int32} {h h1 : xH} {r : Option Value} {fs : List Value} (ho : h[o]? = some (.inr (0, fs))) (H : x_EV 68 0 [some (.ref o), some (.int x1), some (.int x2), some (.int x3), some (.int x4), none, none, none, none, none, none, none, none, none] [] h r h1) : xK 68 [.ref o, .int x1, .int x2, .int x3, .int x4] h r h1 := x_calX_v pg_X0_reckonTree rfl rfl (Nat.le_of_ble_eq_true rfl) rfl ho H
theorem pg_X0_reckonTrees : x_Pg[69]? = some xm_X0_reckonTrees := by
  unfold x_Pg
  rfl
theorem xe_X0_reckonTrees_0 {ls : xL} {st : List Value} {h h' : xH} {r : Option Value} (H : x_ev x_nm x_tf x_fn x_Pg x_EV 69 none r h' xb_X0_reckonTrees_0 0 ls st h) : x_EV 69 0 ls st h r h' := x_Ev_to (M := xm_X0_reckonTrees) (is := xb_X0_reckonTrees_0) pg_X0_reckonTrees (by rfl) H
theorem xe_X0_reckonTrees_11 {ls : xL} {st : List Value} {h h' : xH} {r : Option Value} (H : x_ev x_nm x_tf x_fn x_Pg x_EV 69 none r h' xb_X0_reckonTrees_11 11 ls st h) : x_EV 69 11 ls st h r h' := x_Ev_to (M := xm_X0_reckonTrees) (is := xb_X0_reckonTrees_11) pg_X0_reckonTrees (by rfl) H
theorem xe_X0_reckonTrees_89 {ls : xL} {st : List Value} {h h' : xH} {r : Option Value} (H : x_ev x_nm x_tf x_fn x_Pg x_EV 69 none r h' xb_X0_reckonTrees_89 89 ls st h) : x_EV 69 89 ls st h r h' := x_Ev_to (M := xm_X0_reckonTrees) (is := xb_X0_reckonTrees_89) pg_X0_reckonTrees (by rfl) H
theorem xK_X0_reckonTrees {o : Nat} {x1 : Int32} {x2 : Int32} {x3 : Int32} {x4 : Int32} {h h1 : xH} {r : Option Value} {fs : List Value} (ho : h[o]? = some (.inr (0, fs))) (H : x_EV 69 0 [some (.ref o), some (.int x1), some (.int x2), some (.int x3), some (.int x4), none, none, none, none, none, none] [] h r h1) : xK 69 [.ref o, .int x1, .int x2, .int x3, .int x4] h r h1 := x_calX_v pg_X0_reckonTrees rfl rfl (Nat.le_of_ble_eq_true rfl) rfl ho H
theorem pg_X0_reckonSpan : x_Pg[70]? = some xm_X0_reckonSpan := by
  unfold x_Pg
  rfl
theorem xe_X0_reckonSpan_0 {ls : xL} {st : List Value} {h h' : xH} {r : Option Value} (H : x_ev x_nm x_tf x_fn x_Pg x_EV 70 none r h' xb_X0_reckonSpan_0 0 ls st h) : x_EV 70 0 ls st h r h' := x_Ev_to (M := xm_X0_reckonSpan) (is := xb_X0_reckonSpan_0) pg_X0_reckonSpan (by rfl) H
theorem xe_X0_reckonSpan_3 {ls : xL} {st : List Value} {h h' : xH} {r : Option Value} (H : x_ev x_nm x_tf x_fn x_Pg x_EV 70 none r h' xb_X0_reckonSpan_3 3 ls st h) : x_EV 70 3 ls st h r h' := x_Ev_to (M := xm_X0_reckonSpan) (is := xb_X0_reckonSpan_3) pg_X0_reckonSpan (by rfl) H
theorem xe_X0_reckonSpan_24 {ls : xL} {st : List Value} {h h' : xH} {r : Option Value} (H : x_ev x_nm x_tf x_fn x_Pg x_EV 70 none r h' xb_X0_reckonSpan_24 24 ls st h) : x_EV 70 24 ls st h r h' := x_Ev_to (M := xm_X0_reckonSpan) (is := xb_X0_reckonSpan_24) pg_X0_reckonSpan (by rfl) H
theorem xe_X0_reckonSpan_27 {ls : xL} {st : List Value} {h h' : xH} {r : Option Value} (H : x_ev x_nm x_tf x_fn x_Pg x_EV 70 none r h' xb_X0_reckonSpan_27 27 ls st h) : x_EV 70 27 ls st h r h' := x_Ev_to (M := xm_X0_reckonSpan) (is := xb_X0_reckonSpan_27) pg_X0_reckonSpan (by rfl) H
theorem xe_X0_reckonSpan_59 {ls : xL} {st : List Value} {h h' : xH} {r : Option Value} (H : x_ev x_nm x_tf x_fn x_Pg x_EV 70 none r h' xb_X0_reckonSpan_59 59 ls st h) : x_EV 70 59 ls st h r h' := x_Ev_to (M := xm_X0_reckonSpan) (is := xb_X0_reckonSpan_59) pg_X0_reckonSpan (by rfl) H
theorem xe_X0_reckonSpan_65 {ls : xL} {st : List Value} {h h' : xH} {r : Option Value} (H : x_ev x_nm x_tf x_fn x_Pg x_EV 70 none r h' xb_X0_reckonSpan_65 65 ls st h) : x_EV 70 65 ls st h r h' := x_Ev_to (M := xm_X0_reckonSpan) (is := xb_X0_reckonSpan_65) pg_X0_reckonSpan (by rfl) H
theorem xK_X0_reckonSpan {o : Nat} {x1 : Int32} {x2 : Int32} {x3 : Int32} {h h1 : xH} {r : Option Value} {fs : List Value} (ho : h[o]? = some (.inr (0, fs))) (H : x_EV 70 0 [some (.ref o), some (.int x1), some (.int x2), some (.int x3), none, none] [] h r h1) : xK 70 [.ref o, .int x1, .int x2, .int x3] h r h1 := x_calX_v pg_X0_reckonSpan rfl rfl (Nat.le_of_ble_eq_true rfl) rfl ho H
theorem pg_X0_costOfRoot : x_Pg[71]? = some xm_X0_costOfRoot := by
  unfold x_Pg
  rfl
theorem xe_X0_costOfRoot_0 {ls : xL} {st : List Value} {h h' : xH} {r : Option Value} (H : x_ev x_nm x_tf x_fn x_Pg x_EV 71 (some .int) r h' xb_X0_costOfRoot_0 0 ls st h) : x_EV 71 0 ls st h r h' := x_Ev_to (M := xm_X0_costOfRoot) (is := xb_X0_costOfRoot_0) pg_X0_costOfRoot (by rfl) H
theorem xe_X0_costOfRoot_41 {ls : xL} {st : List Value} {h h' : xH} {r : Option Value} (H : x_ev x_nm x_tf x_fn x_Pg x_EV 71 (some .int) r h' xb_X0_costOfRoot_41 41 ls st h) : x_EV 71 41 ls st h r h' := x_Ev_to (M := xm_X0_costOfRoot) (is := xb_X0_costOfRoot_41) pg_X0_costOfRoot (by rfl) H
theorem xe_X0_costOfRoot_43 {ls : xL} {st : List Value} {h h' : xH} {r : Option Value} (H : x_ev x_nm x_tf x_fn x_Pg x_EV 71 (some .int) r h' xb_X0_costOfRoot_43 43 ls st h) : x_EV 71 43 ls st h r h' := x_Ev_to (M := xm_X0_costOfRoot) (is := xb_X0_costOfRoot_43) pg_X0_costOfRoot (by rfl) H
theorem xK_X0_costOfRoot {x1 : Nat} {x2 : Int32} {x3 : Int32} {h h1 : xH} {r : Option Value} (H : x_EV 71 0 [some (.ref x1), some (.int x2), some (.int x3), none, none] [] h r h1) : xK 71 [.ref x1, .int x2, .int x3] h r h1 := x_calX_s pg_X0_costOfRoot rfl (Nat.le_of_ble_eq_true rfl) rfl H
theorem pg_X0_reckonRoots : x_Pg[72]? = some xm_X0_reckonRoots := by
  unfold x_Pg
  rfl
theorem xe_X0_reckonRoots_0 {ls : xL} {st : List Value} {h h' : xH} {r : Option Value} (H : x_ev x_nm x_tf x_fn x_Pg x_EV 72 none r h' xb_X0_reckonRoots_0 0 ls st h) : x_EV 72 0 ls st h r h' := x_Ev_to (M := xm_X0_reckonRoots) (is := xb_X0_reckonRoots_0) pg_X0_reckonRoots (by rfl) H
theorem xe_X0_reckonRoots_23 {ls : xL} {st : List Value} {h h' : xH} {r : Option Value} (H : x_ev x_nm x_tf x_fn x_Pg x_EV 72 none r h' xb_X0_reckonRoots_23 23 ls st h) : x_EV 72 23 ls st h r h' := x_Ev_to (M := xm_X0_reckonRoots) (is := xb_X0_reckonRoots_23) pg_X0_reckonRoots (by rfl) H
theorem xe_X0_reckonRoots_32 {ls : xL} {st : List Value} {h h' : xH} {r : Option Value} (H : x_ev x_nm x_tf x_fn x_Pg x_EV 72 none r h' xb_X0_reckonRoots_32 32 ls st h) : x_EV 72 32 ls st h r h' := x_Ev_to (M := xm_X0_reckonRoots) (is := xb_X0_reckonRoots_32) pg_X0_reckonRoots (by rfl) H
theorem xe_X0_reckonRoots_167 {ls : xL} {st : List Value} {h h' : xH} {r : Option Value} (H : x_ev x_nm x_tf x_fn x_Pg x_EV 72 none r h' xb_X0_reckonRoots_167 167 ls st h) : x_EV 72 167 ls st h r h' := x_Ev_to (M := xm_X0_reckonRoots) (is := xb_X0_reckonRoots_167) pg_X0_reckonRoots (by rfl) H
theorem xe_X0_reckonRoots_173 {ls : xL} {st : List Value} {h h' : xH} {r : Option Value} (H : x_ev x_nm x_tf x_fn x_Pg x_EV 72 none r h' xb_X0_reckonRoots_173 173 ls st h) : x_EV 72 173 ls st h r h' := x_Ev_to (M := xm_X0_reckonRoots) (is := xb_X0_reckonRoots_173) pg_X0_reckonRoots (by rfl) H
theorem xe_X0_reckonRoots_179 {ls : xL} {st : List Value} {h h' : xH} {r : Option Value} (H : x_ev x_nm x_tf x_fn x_Pg x_EV 72 none r h' xb_X0_reckonRoots_179 179 ls st h) : x_EV 72 179 ls st h r h' := x_Ev_to (M := xm_X0_reckonRoots) (is := xb_X0_reckonRoots_179) pg_X0_reckonRoots (by rfl) H
theorem xK_X0_reckonRoots {o : Nat} {x1 : Nat} {x2 : Int32} {h h1 : xH} {r : Option Value} {fs : List Value} (ho : h[o]? = some (.inr (0, fs))) (H : x_EV 72 0 [some (.ref o), some (.ref x1), some (.int x2), none, none, none, none, none, none, none, none, none] [] h r h1) : xK 72 [.ref o, .ref x1, .int x2] h r h1 := x_calX_v pg_X0_reckonRoots rfl rfl (Nat.le_of_ble_eq_true rfl) rfl ho H
theorem pg_X0_reckon : x_Pg[73]? = some xm_X0_reckon := by
  unfold x_Pg
  rfl
theorem xe_X0_reckon_0 {ls : xL} {st : List Value} {h h' : xH} {r : Option Value} (H : x_ev x_nm x_tf x_fn x_Pg x_EV 73 none r h' xb_X0_reckon_0 0 ls st h) : x_EV 73 0 ls st h r h' := x_Ev_to (M := xm_X0_reckon) (is := xb_X0_reckon_0) pg_X0_reckon (by rfl) H
theorem xe_X0_reckon_11 {ls : xL} {st : List Value} {h h' : xH} {r : Option Value} (H : x_ev x_nm x_tf x_fn x_Pg x_EV 73 none r h' xb_X0_reckon_11 11 ls st h) : x_EV 73 11 ls st h r h' := x_Ev_to (M := xm_X0_reckon) (is := xb_X0_reckon_11) pg_X0_reckon (by rfl) H
theorem xe_X0_reckon_31 {ls : xL} {st : List Value} {h h' : xH} {r : Option Value} (H : x_ev x_nm x_tf x_fn x_Pg x_EV 73 none r h' xb_X0_reckon_31 31 ls st h) : x_EV 73 31 ls st h r h' := x_Ev_to (M := xm_X0_reckon) (is := xb_X0_reckon_31) pg_X0_reckon (by rfl) H
theorem xe_X0_reckon_34 {ls : xL} {st : List Value} {h h' : xH} {r : Option Value} (H : x_ev x_nm x_tf x_fn x_Pg x_EV 73 none r h' xb_X0_reckon_34 34 ls st h) : x_EV 73 34 ls st h r h' := x_Ev_to (M := xm_X0_reckon) (is := xb_X0_reckon_34) pg_X0_reckon (by rfl) H
theorem xe_X0_reckon_43 {ls : xL} {st : List Value} {h h' : xH} {r : Option Value} (H : x_ev x_nm x_tf x_fn x_Pg x_EV 73 none r h' xb_X0_reckon_43 43 ls st h) : x_EV 73 43 ls st h r h' := x_Ev_to (M := xm_X0_reckon) (is := xb_X0_reckon_43) pg_X0_reckon (by rfl) H
theorem xe_X0_reckon_74 {ls : xL} {st : List Value} {h h' : xH} {r : Option Value} (H : x_ev x_nm x_tf x_fn x_Pg x_EV 73 none r h' xb_X0_reckon_74 74 ls st h) : x_EV 73 74 ls st h r h' := x_Ev_to (M := xm_X0_reckon) (is := xb_X0_reckon_74) pg_X0_reckon (by rfl) H
theorem xe_X0_reckon_80 {ls : xL} {st : List Value} {h h' : xH} {r : Option Value} (H : x_ev x_nm x_tf x_fn x_Pg x_EV 73 none r h' xb_X0_reckon_80 80 ls st h) : x_EV 73 80 ls st h r h' := x_Ev_to (M := xm_X0_reckon) (is := xb_X0_reckon_80) pg_X0_reckon (by rfl) H
theorem xK_X0_reckon {o : Nat} {x1 : Nat} {x2 : Int32} {h h1 : xH} {r : Option Value} {fs : List Value} (ho : h[o]? = some (.inr (0, fs))) (H : x_EV 73 0 [some (.ref o), some (.ref x1), some (.int x2), none, none, none] [] h r h1) : xK 73 [.ref o, .ref x1, .int x2] h r h1 := x_calX_v pg_X0_reckon rfl rfl (Nat.le_of_ble_eq_true rfl) rfl ho H
theorem pg_X0_hasAnalysis : x_Pg[74]? = some xm_X0_hasAnalysis := by
  unfold x_Pg
  rfl
theorem xe_X0_hasAnalysis_0 {ls : xL} {st : List Value} {h h' : xH} {r : Option Value} (H : x_ev x_nm x_tf x_fn x_Pg x_EV 74 (some .boolean) r h' xb_X0_hasAnalysis_0 0 ls st h) : x_EV 74 0 ls st h r h' := x_Ev_to (M := xm_X0_hasAnalysis) (is := xb_X0_hasAnalysis_0) pg_X0_hasAnalysis (by rfl) H
theorem xe_X0_hasAnalysis_11 {ls : xL} {st : List Value} {h h' : xH} {r : Option Value} (H : x_ev x_nm x_tf x_fn x_Pg x_EV 74 (some .boolean) r h' xb_X0_hasAnalysis_11 11 ls st h) : x_EV 74 11 ls st h r h' := x_Ev_to (M := xm_X0_hasAnalysis) (is := xb_X0_hasAnalysis_11) pg_X0_hasAnalysis (by rfl) H
theorem xe_X0_hasAnalysis_12 {ls : xL} {st : List Value} {h h' : xH} {r : Option Value} (H : x_ev x_nm x_tf x_fn x_Pg x_EV 74 (some .boolean) r h' xb_X0_hasAnalysis_12 12 ls st h) : x_EV 74 12 ls st h r h' := x_Ev_to (M := xm_X0_hasAnalysis) (is := xb_X0_hasAnalysis_12) pg_X0_hasAnalysis (by rfl) H
theorem xK_X0_hasAnalysis {o : Nat}  {h h1 : xH} {r : Option Value} {fs : List Value} (ho : h[o]? = some (.inr (0, fs))) (H : x_EV 74 0 [some (.ref o)] [] h r h1) : xK 74 [.ref o] h r h1 := x_calX_v pg_X0_hasAnalysis rfl rfl (Nat.le_of_ble_eq_true rfl) rfl ho H
theorem pg_X4_putReckoned : x_Pg[75]? = some xm_X4_putReckoned := by
  unfold x_Pg
  rfl
theorem xe_X4_putReckoned_0 {ls : xL} {st : List Value} {h h' : xH} {r : Option Value} (H : x_ev x_nm x_tf x_fn x_Pg x_EV 75 none r h' xb_X4_putReckoned_0 0 ls st h) : x_EV 75 0 ls st h r h' := x_Ev_to (M := xm_X4_putReckoned) (is := xb_X4_putReckoned_0) pg_X4_putReckoned (by rfl) H
theorem xK_X4_putReckoned {o : Nat} {x1 : Int32} {x2 : Int32} {x3 : Int32} {x4 : Int32} {h h1 : xH} {r : Option Value} {fs : List Value} (ho : h[o]? = some (.inr (3, fs))) (H : x_EV 75 0 [some (.ref o), some (.int x1), some (.int x2), some (.int x3), some (.int x4)] [] h r h1) : xK 75 [.ref o, .int x1, .int x2, .int x3, .int x4] h r h1 := x_calX_v pg_X4_putReckoned rfl rfl (Nat.le_of_ble_eq_true rfl) rfl ho H
theorem pg_X0_leastRepair : x_Pg[76]? = some xm_X0_leastRepair := by
  unfold x_Pg
  rfl
theorem xe_X0_leastRepair_0 {ls : xL} {st : List Value} {h h' : xH} {r : Option Value} (H : x_ev x_nm x_tf x_fn x_Pg x_EV 76 (some .int) r h' xb_X0_leastRepair_0 0 ls st h) : x_EV 76 0 ls st h r h' := x_Ev_to (M := xm_X0_leastRepair) (is := xb_X0_leastRepair_0) pg_X0_leastRepair (by rfl) H
theorem xK_X0_leastRepair {o : Nat}  {h h1 : xH} {r : Option Value} {fs : List Value} (ho : h[o]? = some (.inr (0, fs))) (H : x_EV 76 0 [some (.ref o)] [] h r h1) : xK 76 [.ref o] h r h1 := x_calX_v pg_X0_leastRepair rfl rfl (Nat.le_of_ble_eq_true rfl) rfl ho H
theorem pg_X0_leastRow : x_Pg[77]? = some xm_X0_leastRow := by
  unfold x_Pg
  rfl
theorem xe_X0_leastRow_0 {ls : xL} {st : List Value} {h h' : xH} {r : Option Value} (H : x_ev x_nm x_tf x_fn x_Pg x_EV 77 (some .int) r h' xb_X0_leastRow_0 0 ls st h) : x_EV 77 0 ls st h r h' := x_Ev_to (M := xm_X0_leastRow) (is := xb_X0_leastRow_0) pg_X0_leastRow (by rfl) H
theorem xK_X0_leastRow {o : Nat}  {h h1 : xH} {r : Option Value} {fs : List Value} (ho : h[o]? = some (.inr (0, fs))) (H : x_EV 77 0 [some (.ref o)] [] h r h1) : xK 77 [.ref o] h r h1 := x_calX_v pg_X0_leastRow rfl rfl (Nat.le_of_ble_eq_true rfl) rfl ho H
theorem pg_X0_leastCost : x_Pg[78]? = some xm_X0_leastCost := by
  unfold x_Pg
  rfl
theorem xe_X0_leastCost_0 {ls : xL} {st : List Value} {h h' : xH} {r : Option Value} (H : x_ev x_nm x_tf x_fn x_Pg x_EV 78 (some .int) r h' xb_X0_leastCost_0 0 ls st h) : x_EV 78 0 ls st h r h' := x_Ev_to (M := xm_X0_leastCost) (is := xb_X0_leastCost_0) pg_X0_leastCost (by rfl) H
theorem xK_X0_leastCost {o : Nat}  {h h1 : xH} {r : Option Value} {fs : List Value} (ho : h[o]? = some (.inr (0, fs))) (H : x_EV 78 0 [some (.ref o)] [] h r h1) : xK 78 [.ref o] h r h1 := x_calX_v pg_X0_leastCost rfl rfl (Nat.le_of_ble_eq_true rfl) rfl ho H
theorem pg_X6_hear : x_Pg[79]? = some xm_X6_hear := by
  unfold x_Pg
  rfl
theorem xe_X6_hear_0 {ls : xL} {st : List Value} {h h' : xH} {r : Option Value} (H : x_ev x_nm x_tf x_fn x_Pg x_EV 79 none r h' xb_X6_hear_0 0 ls st h) : x_EV 79 0 ls st h r h' := x_Ev_to (M := xm_X6_hear) (is := xb_X6_hear_0) pg_X6_hear (by rfl) H
theorem xe_X6_hear_55 {ls : xL} {st : List Value} {h h' : xH} {r : Option Value} (H : x_ev x_nm x_tf x_fn x_Pg x_EV 79 none r h' xb_X6_hear_55 55 ls st h) : x_EV 79 55 ls st h r h' := x_Ev_to (M := xm_X6_hear) (is := xb_X6_hear_55) pg_X6_hear (by rfl) H
theorem xe_X6_hear_66 {ls : xL} {st : List Value} {h h' : xH} {r : Option Value} (H : x_ev x_nm x_tf x_fn x_Pg x_EV 79 none r h' xb_X6_hear_66 66 ls st h) : x_EV 79 66 ls st h r h' := x_Ev_to (M := xm_X6_hear) (is := xb_X6_hear_66) pg_X6_hear (by rfl) H
theorem xe_X6_hear_78 {ls : xL} {st : List Value} {h h' : xH} {r : Option Value} (H : x_ev x_nm x_tf x_fn x_Pg x_EV 79 none r h' xb_X6_hear_78 78 ls st h) : x_EV 79 78 ls st h r h' := x_Ev_to (M := xm_X6_hear) (is := xb_X6_hear_78) pg_X6_hear (by rfl) H
theorem xe_X6_hear_102 {ls : xL} {st : List Value} {h h' : xH} {r : Option Value} (H : x_ev x_nm x_tf x_fn x_Pg x_EV 79 none r h' xb_X6_hear_102 102 ls st h) : x_EV 79 102 ls st h r h' := x_Ev_to (M := xm_X6_hear) (is := xb_X6_hear_102) pg_X6_hear (by rfl) H
theorem xe_X6_hear_103 {ls : xL} {st : List Value} {h h' : xH} {r : Option Value} (H : x_ev x_nm x_tf x_fn x_Pg x_EV 79 none r h' xb_X6_hear_103 103 ls st h) : x_EV 79 103 ls st h r h' := x_Ev_to (M := xm_X6_hear) (is := xb_X6_hear_103) pg_X6_hear (by rfl) H
theorem xK_X6_hear {o : Nat} {x1 : Int32} {x2 : Nat} {h h1 : xH} {r : Option Value} {fs : List Value} (ho : h[o]? = some (.inr (5, fs))) (H : x_EV 79 0 [some (.ref o), some (.int x1), some (.ref x2), none, none, none] [] h r h1) : xK 79 [.ref o, .int x1, .ref x2] h r h1 := x_calX_v pg_X6_hear rfl rfl (Nat.le_of_ble_eq_true rfl) rfl ho H
theorem pg_X7_hears : x_Pg[80]? = some xm_X7_hears := by
  unfold x_Pg
  rfl
theorem xe_X7_hears_0 {ls : xL} {st : List Value} {h h' : xH} {r : Option Value} (H : x_ev x_nm x_tf x_fn x_Pg x_EV 80 (some .int) r h' xb_X7_hears_0 0 ls st h) : x_EV 80 0 ls st h r h' := x_Ev_to (M := xm_X7_hears) (is := xb_X7_hears_0) pg_X7_hears (by rfl) H
theorem xe_X7_hears_19 {ls : xL} {st : List Value} {h h' : xH} {r : Option Value} (H : x_ev x_nm x_tf x_fn x_Pg x_EV 80 (some .int) r h' xb_X7_hears_19 19 ls st h) : x_EV 80 19 ls st h r h' := x_Ev_to (M := xm_X7_hears) (is := xb_X7_hears_19) pg_X7_hears (by rfl) H
theorem xe_X7_hears_61 {ls : xL} {st : List Value} {h h' : xH} {r : Option Value} (H : x_ev x_nm x_tf x_fn x_Pg x_EV 80 (some .int) r h' xb_X7_hears_61 61 ls st h) : x_EV 80 61 ls st h r h' := x_Ev_to (M := xm_X7_hears) (is := xb_X7_hears_61) pg_X7_hears (by rfl) H
theorem xe_X7_hears_70 {ls : xL} {st : List Value} {h h' : xH} {r : Option Value} (H : x_ev x_nm x_tf x_fn x_Pg x_EV 80 (some .int) r h' xb_X7_hears_70 70 ls st h) : x_EV 80 70 ls st h r h' := x_Ev_to (M := xm_X7_hears) (is := xb_X7_hears_70) pg_X7_hears (by rfl) H
theorem xK_X7_hears {o : Nat} {x1 : Int32} {h h1 : xH} {r : Option Value} {fs : List Value} (ho : h[o]? = some (.inr (6, fs))) (H : x_EV 80 0 [some (.ref o), some (.int x1), none, none] [] h r h1) : xK 80 [.ref o, .int x1] h r h1 := x_calX_v pg_X7_hears rfl rfl (Nat.le_of_ble_eq_true rfl) rfl ho H
theorem pg_X8_wordAt : x_Pg[81]? = some xm_X8_wordAt := by
  unfold x_Pg
  rfl
theorem xe_X8_wordAt_0 {ls : xL} {st : List Value} {h h' : xH} {r : Option Value} (H : x_ev x_nm x_tf x_fn x_Pg x_EV 81 (some .int) r h' xb_X8_wordAt_0 0 ls st h) : x_EV 81 0 ls st h r h' := x_Ev_to (M := xm_X8_wordAt) (is := xb_X8_wordAt_0) pg_X8_wordAt (by rfl) H
theorem xK_X8_wordAt {o : Nat} {x1 : Int32} {h h1 : xH} {r : Option Value} {fs : List Value} (ho : h[o]? = some (.inr (7, fs))) (H : x_EV 81 0 [some (.ref o), some (.int x1)] [] h r h1) : xK 81 [.ref o, .int x1] h r h1 := x_calX_v pg_X8_wordAt rfl rfl (Nat.le_of_ble_eq_true rfl) rfl ho H
theorem pg_X8_holds : x_Pg[82]? = some xm_X8_holds := by
  unfold x_Pg
  rfl
theorem xe_X8_holds_0 {ls : xL} {st : List Value} {h h' : xH} {r : Option Value} (H : x_ev x_nm x_tf x_fn x_Pg x_EV 82 (some .boolean) r h' xb_X8_holds_0 0 ls st h) : x_EV 82 0 ls st h r h' := x_Ev_to (M := xm_X8_holds) (is := xb_X8_holds_0) pg_X8_holds (by rfl) H
theorem xe_X8_holds_23 {ls : xL} {st : List Value} {h h' : xH} {r : Option Value} (H : x_ev x_nm x_tf x_fn x_Pg x_EV 82 (some .boolean) r h' xb_X8_holds_23 23 ls st h) : x_EV 82 23 ls st h r h' := x_Ev_to (M := xm_X8_holds) (is := xb_X8_holds_23) pg_X8_holds (by rfl) H
theorem xe_X8_holds_24 {ls : xL} {st : List Value} {h h' : xH} {r : Option Value} (H : x_ev x_nm x_tf x_fn x_Pg x_EV 82 (some .boolean) r h' xb_X8_holds_24 24 ls st h) : x_EV 82 24 ls st h r h' := x_Ev_to (M := xm_X8_holds) (is := xb_X8_holds_24) pg_X8_holds (by rfl) H
theorem xK_X8_holds {o : Nat} {x1 : Int32} {h h1 : xH} {r : Option Value} {fs : List Value} (ho : h[o]? = some (.inr (7, fs))) (H : x_EV 82 0 [some (.ref o), some (.int x1)] [] h r h1) : xK 82 [.ref o, .int x1] h r h1 := x_calX_v pg_X8_holds rfl rfl (Nat.le_of_ble_eq_true rfl) rfl ho H
theorem pg_X8_laysHeld : x_Pg[83]? = some xm_X8_laysHeld := by
  unfold x_Pg
  rfl
theorem xe_X8_laysHeld_0 {ls : xL} {st : List Value} {h h' : xH} {r : Option Value} (H : x_ev x_nm x_tf x_fn x_Pg x_EV 83 none r h' xb_X8_laysHeld_0 0 ls st h) : x_EV 83 0 ls st h r h' := x_Ev_to (M := xm_X8_laysHeld) (is := xb_X8_laysHeld_0) pg_X8_laysHeld (by rfl) H
theorem xe_X8_laysHeld_15 {ls : xL} {st : List Value} {h h' : xH} {r : Option Value} (H : x_ev x_nm x_tf x_fn x_Pg x_EV 83 none r h' xb_X8_laysHeld_15 15 ls st h) : x_EV 83 15 ls st h r h' := x_Ev_to (M := xm_X8_laysHeld) (is := xb_X8_laysHeld_15) pg_X8_laysHeld (by rfl) H
theorem xe_X8_laysHeld_59 {ls : xL} {st : List Value} {h h' : xH} {r : Option Value} (H : x_ev x_nm x_tf x_fn x_Pg x_EV 83 none r h' xb_X8_laysHeld_59 59 ls st h) : x_EV 83 59 ls st h r h' := x_Ev_to (M := xm_X8_laysHeld) (is := xb_X8_laysHeld_59) pg_X8_laysHeld (by rfl) H
theorem xK_X8_laysHeld {o : Nat} {x1 : Int32} {h h1 : xH} {r : Option Value} {fs : List Value} (ho : h[o]? = some (.inr (7, fs))) (H : x_EV 83 0 [some (.ref o), some (.int x1), none, none, none] [] h r h1) : xK 83 [.ref o, .int x1] h r h1 := x_calX_v pg_X8_laysHeld rfl rfl (Nat.le_of_ble_eq_true rfl) rfl ho H
theorem pg_X8_laysAhead : x_Pg[84]? = some xm_X8_laysAhead := by
  unfold x_Pg
  rfl
theorem xe_X8_laysAhead_0 {ls : xL} {st : List Value} {h h' : xH} {r : Option Value} (H : x_ev x_nm x_tf x_fn x_Pg x_EV 84 none r h' xb_X8_laysAhead_0 0 ls st h) : x_EV 84 0 ls st h r h' := x_Ev_to (M := xm_X8_laysAhead) (is := xb_X8_laysAhead_0) pg_X8_laysAhead (by rfl) H
theorem xe_X8_laysAhead_9 {ls : xL} {st : List Value} {h h' : xH} {r : Option Value} (H : x_ev x_nm x_tf x_fn x_Pg x_EV 84 none r h' xb_X8_laysAhead_9 9 ls st h) : x_EV 84 9 ls st h r h' := x_Ev_to (M := xm_X8_laysAhead) (is := xb_X8_laysAhead_9) pg_X8_laysAhead (by rfl) H
theorem xe_X8_laysAhead_11 {ls : xL} {st : List Value} {h h' : xH} {r : Option Value} (H : x_ev x_nm x_tf x_fn x_Pg x_EV 84 none r h' xb_X8_laysAhead_11 11 ls st h) : x_EV 84 11 ls st h r h' := x_Ev_to (M := xm_X8_laysAhead) (is := xb_X8_laysAhead_11) pg_X8_laysAhead (by rfl) H
theorem xe_X8_laysAhead_46 {ls : xL} {st : List Value} {h h' : xH} {r : Option Value} (H : x_ev x_nm x_tf x_fn x_Pg x_EV 84 none r h' xb_X8_laysAhead_46 46 ls st h) : x_EV 84 46 ls st h r h' := x_Ev_to (M := xm_X8_laysAhead) (is := xb_X8_laysAhead_46) pg_X8_laysAhead (by rfl) H
theorem xK_X8_laysAhead {o : Nat} {x1 : Int32} {h h1 : xH} {r : Option Value} {fs : List Value} (ho : h[o]? = some (.inr (7, fs))) (H : x_EV 84 0 [some (.ref o), some (.int x1), none] [] h r h1) : xK 84 [.ref o, .int x1] h r h1 := x_calX_v pg_X8_laysAhead rfl rfl (Nat.le_of_ble_eq_true rfl) rfl ho H
theorem pg_X8_entryAt : x_Pg[85]? = some xm_X8_entryAt := by
  unfold x_Pg
  rfl
theorem xe_X8_entryAt_0 {ls : xL} {st : List Value} {h h' : xH} {r : Option Value} (H : x_ev x_nm x_tf x_fn x_Pg x_EV 85 (some .int) r h' xb_X8_entryAt_0 0 ls st h) : x_EV 85 0 ls st h r h' := x_Ev_to (M := xm_X8_entryAt) (is := xb_X8_entryAt_0) pg_X8_entryAt (by rfl) H
theorem xK_X8_entryAt {o : Nat} {x1 : Int32} {h h1 : xH} {r : Option Value} {fs : List Value} (ho : h[o]? = some (.inr (7, fs))) (H : x_EV 85 0 [some (.ref o), some (.int x1)] [] h r h1) : xK 85 [.ref o, .int x1] h r h1 := x_calX_v pg_X8_entryAt rfl rfl (Nat.le_of_ble_eq_true rfl) rfl ho H
theorem pg_X8_laysReadings : x_Pg[86]? = some xm_X8_laysReadings := by
  unfold x_Pg
  rfl
theorem xe_X8_laysReadings_0 {ls : xL} {st : List Value} {h h' : xH} {r : Option Value} (H : x_ev x_nm x_tf x_fn x_Pg x_EV 86 (some .boolean) r h' xb_X8_laysReadings_0 0 ls st h) : x_EV 86 0 ls st h r h' := x_Ev_to (M := xm_X8_laysReadings) (is := xb_X8_laysReadings_0) pg_X8_laysReadings (by rfl) H
theorem xe_X8_laysReadings_5 {ls : xL} {st : List Value} {h h' : xH} {r : Option Value} (H : x_ev x_nm x_tf x_fn x_Pg x_EV 86 (some .boolean) r h' xb_X8_laysReadings_5 5 ls st h) : x_EV 86 5 ls st h r h' := x_Ev_to (M := xm_X8_laysReadings) (is := xb_X8_laysReadings_5) pg_X8_laysReadings (by rfl) H
theorem xe_X8_laysReadings_70 {ls : xL} {st : List Value} {h h' : xH} {r : Option Value} (H : x_ev x_nm x_tf x_fn x_Pg x_EV 86 (some .boolean) r h' xb_X8_laysReadings_70 70 ls st h) : x_EV 86 70 ls st h r h' := x_Ev_to (M := xm_X8_laysReadings) (is := xb_X8_laysReadings_70) pg_X8_laysReadings (by rfl) H
theorem xe_X8_laysReadings_71 {ls : xL} {st : List Value} {h h' : xH} {r : Option Value} (H : x_ev x_nm x_tf x_fn x_Pg x_EV 86 (some .boolean) r h' xb_X8_laysReadings_71 71 ls st h) : x_EV 86 71 ls st h r h' := x_Ev_to (M := xm_X8_laysReadings) (is := xb_X8_laysReadings_71) pg_X8_laysReadings (by rfl) H
theorem xe_X8_laysReadings_78 {ls : xL} {st : List Value} {h h' : xH} {r : Option Value} (H : x_ev x_nm x_tf x_fn x_Pg x_EV 86 (some .boolean) r h' xb_X8_laysReadings_78 78 ls st h) : x_EV 86 78 ls st h r h' := x_Ev_to (M := xm_X8_laysReadings) (is := xb_X8_laysReadings_78) pg_X8_laysReadings (by rfl) H
theorem xK_X8_laysReadings {o : Nat} {x1 : Int32} {x2 : Int32} {h h1 : xH} {r : Option Value} {fs : List Value} (ho : h[o]? = some (.inr (7, fs))) (H : x_EV 86 0 [some (.ref o), some (.int x1), some (.int x2), none, none] [] h r h1) : xK 86 [.ref o, .int x1, .int x2] h r h1 := x_calX_v pg_X8_laysReadings rfl rfl (Nat.le_of_ble_eq_true rfl) rfl ho H
theorem pg_X8_priceOf : x_Pg[87]? = some xm_X8_priceOf := by
  unfold x_Pg
  rfl
theorem xe_X8_priceOf_0 {ls : xL} {st : List Value} {h h' : xH} {r : Option Value} (H : x_ev x_nm x_tf x_fn x_Pg x_EV 87 (some .int) r h' xb_X8_priceOf_0 0 ls st h) : x_EV 87 0 ls st h r h' := x_Ev_to (M := xm_X8_priceOf) (is := xb_X8_priceOf_0) pg_X8_priceOf (by rfl) H
theorem xe_X8_priceOf_28 {ls : xL} {st : List Value} {h h' : xH} {r : Option Value} (H : x_ev x_nm x_tf x_fn x_Pg x_EV 87 (some .int) r h' xb_X8_priceOf_28 28 ls st h) : x_EV 87 28 ls st h r h' := x_Ev_to (M := xm_X8_priceOf) (is := xb_X8_priceOf_28) pg_X8_priceOf (by rfl) H
theorem xe_X8_priceOf_53 {ls : xL} {st : List Value} {h h' : xH} {r : Option Value} (H : x_ev x_nm x_tf x_fn x_Pg x_EV 87 (some .int) r h' xb_X8_priceOf_53 53 ls st h) : x_EV 87 53 ls st h r h' := x_Ev_to (M := xm_X8_priceOf) (is := xb_X8_priceOf_53) pg_X8_priceOf (by rfl) H
theorem xe_X8_priceOf_54 {ls : xL} {st : List Value} {h h' : xH} {r : Option Value} (H : x_ev x_nm x_tf x_fn x_Pg x_EV 87 (some .int) r h' xb_X8_priceOf_54 54 ls st h) : x_EV 87 54 ls st h r h' := x_Ev_to (M := xm_X8_priceOf) (is := xb_X8_priceOf_54) pg_X8_priceOf (by rfl) H
theorem xe_X8_priceOf_58 {ls : xL} {st : List Value} {h h' : xH} {r : Option Value} (H : x_ev x_nm x_tf x_fn x_Pg x_EV 87 (some .int) r h' xb_X8_priceOf_58 58 ls st h) : x_EV 87 58 ls st h r h' := x_Ev_to (M := xm_X8_priceOf) (is := xb_X8_priceOf_58) pg_X8_priceOf (by rfl) H
theorem xK_X8_priceOf {o : Nat} {x1 : Int32} {h h1 : xH} {r : Option Value} {fs : List Value} (ho : h[o]? = some (.inr (7, fs))) (H : x_EV 87 0 [some (.ref o), some (.int x1), none] [] h r h1) : xK 87 [.ref o, .int x1] h r h1 := x_calX_v pg_X8_priceOf rfl rfl (Nat.le_of_ble_eq_true rfl) rfl ho H
theorem pg_X8_betweenOf : x_Pg[88]? = some xm_X8_betweenOf := by
  unfold x_Pg
  rfl
theorem xe_X8_betweenOf_0 {ls : xL} {st : List Value} {h h' : xH} {r : Option Value} (H : x_ev x_nm x_tf x_fn x_Pg x_EV 88 (some .int) r h' xb_X8_betweenOf_0 0 ls st h) : x_EV 88 0 ls st h r h' := x_Ev_to (M := xm_X8_betweenOf) (is := xb_X8_betweenOf_0) pg_X8_betweenOf (by rfl) H
theorem xe_X8_betweenOf_15 {ls : xL} {st : List Value} {h h' : xH} {r : Option Value} (H : x_ev x_nm x_tf x_fn x_Pg x_EV 88 (some .int) r h' xb_X8_betweenOf_15 15 ls st h) : x_EV 88 15 ls st h r h' := x_Ev_to (M := xm_X8_betweenOf) (is := xb_X8_betweenOf_15) pg_X8_betweenOf (by rfl) H
theorem xe_X8_betweenOf_28 {ls : xL} {st : List Value} {h h' : xH} {r : Option Value} (H : x_ev x_nm x_tf x_fn x_Pg x_EV 88 (some .int) r h' xb_X8_betweenOf_28 28 ls st h) : x_EV 88 28 ls st h r h' := x_Ev_to (M := xm_X8_betweenOf) (is := xb_X8_betweenOf_28) pg_X8_betweenOf (by rfl) H
theorem xe_X8_betweenOf_33 {ls : xL} {st : List Value} {h h' : xH} {r : Option Value} (H : x_ev x_nm x_tf x_fn x_Pg x_EV 88 (some .int) r h' xb_X8_betweenOf_33 33 ls st h) : x_EV 88 33 ls st h r h' := x_Ev_to (M := xm_X8_betweenOf) (is := xb_X8_betweenOf_33) pg_X8_betweenOf (by rfl) H
theorem xK_X8_betweenOf {o : Nat} {x1 : Int32} {h h1 : xH} {r : Option Value} {fs : List Value} (ho : h[o]? = some (.inr (7, fs))) (H : x_EV 88 0 [some (.ref o), some (.int x1), none] [] h r h1) : xK 88 [.ref o, .int x1] h r h1 := x_calX_v pg_X8_betweenOf rfl rfl (Nat.le_of_ble_eq_true rfl) rfl ho H
theorem pg_X8_costOf : x_Pg[89]? = some xm_X8_costOf := by
  unfold x_Pg
  rfl
theorem xe_X8_costOf_0 {ls : xL} {st : List Value} {h h' : xH} {r : Option Value} (H : x_ev x_nm x_tf x_fn x_Pg x_EV 89 (some .int) r h' xb_X8_costOf_0 0 ls st h) : x_EV 89 0 ls st h r h' := x_Ev_to (M := xm_X8_costOf) (is := xb_X8_costOf_0) pg_X8_costOf (by rfl) H
theorem xe_X8_costOf_7 {ls : xL} {st : List Value} {h h' : xH} {r : Option Value} (H : x_ev x_nm x_tf x_fn x_Pg x_EV 89 (some .int) r h' xb_X8_costOf_7 7 ls st h) : x_EV 89 7 ls st h r h' := x_Ev_to (M := xm_X8_costOf) (is := xb_X8_costOf_7) pg_X8_costOf (by rfl) H
theorem xe_X8_costOf_34 {ls : xL} {st : List Value} {h h' : xH} {r : Option Value} (H : x_ev x_nm x_tf x_fn x_Pg x_EV 89 (some .int) r h' xb_X8_costOf_34 34 ls st h) : x_EV 89 34 ls st h r h' := x_Ev_to (M := xm_X8_costOf) (is := xb_X8_costOf_34) pg_X8_costOf (by rfl) H
theorem xe_X8_costOf_35 {ls : xL} {st : List Value} {h h' : xH} {r : Option Value} (H : x_ev x_nm x_tf x_fn x_Pg x_EV 89 (some .int) r h' xb_X8_costOf_35 35 ls st h) : x_EV 89 35 ls st h r h' := x_Ev_to (M := xm_X8_costOf) (is := xb_X8_costOf_35) pg_X8_costOf (by rfl) H
theorem xe_X8_costOf_84 {ls : xL} {st : List Value} {h h' : xH} {r : Option Value} (H : x_ev x_nm x_tf x_fn x_Pg x_EV 89 (some .int) r h' xb_X8_costOf_84 84 ls st h) : x_EV 89 84 ls st h r h' := x_Ev_to (M := xm_X8_costOf) (is := xb_X8_costOf_84) pg_X8_costOf (by rfl) H
theorem xe_X8_costOf_85 {ls : xL} {st : List Value} {h h' : xH} {r : Option Value} (H : x_ev x_nm x_tf x_fn x_Pg x_EV 89 (some .int) r h' xb_X8_costOf_85 85 ls st h) : x_EV 89 85 ls st h r h' := x_Ev_to (M := xm_X8_costOf) (is := xb_X8_costOf_85) pg_X8_costOf (by rfl) H
theorem xe_X8_costOf_93 {ls : xL} {st : List Value} {h h' : xH} {r : Option Value} (H : x_ev x_nm x_tf x_fn x_Pg x_EV 89 (some .int) r h' xb_X8_costOf_93 93 ls st h) : x_EV 89 93 ls st h r h' := x_Ev_to (M := xm_X8_costOf) (is := xb_X8_costOf_93) pg_X8_costOf (by rfl) H
theorem xe_X8_costOf_101 {ls : xL} {st : List Value} {h h' : xH} {r : Option Value} (H : x_ev x_nm x_tf x_fn x_Pg x_EV 89 (some .int) r h' xb_X8_costOf_101 101 ls st h) : x_EV 89 101 ls st h r h' := x_Ev_to (M := xm_X8_costOf) (is := xb_X8_costOf_101) pg_X8_costOf (by rfl) H
theorem xe_X8_costOf_102 {ls : xL} {st : List Value} {h h' : xH} {r : Option Value} (H : x_ev x_nm x_tf x_fn x_Pg x_EV 89 (some .int) r h' xb_X8_costOf_102 102 ls st h) : x_EV 89 102 ls st h r h' := x_Ev_to (M := xm_X8_costOf) (is := xb_X8_costOf_102) pg_X8_costOf (by rfl) H
theorem xK_X8_costOf {o : Nat} {x1 : Int32} {h h1 : xH} {r : Option Value} {fs : List Value} (ho : h[o]? = some (.inr (7, fs))) (H : x_EV 89 0 [some (.ref o), some (.int x1), none, none, none, none] [] h r h1) : xK 89 [.ref o, .int x1] h r h1 := x_calX_v pg_X8_costOf rfl rfl (Nat.le_of_ble_eq_true rfl) rfl ho H
theorem pg_X8_repairOf : x_Pg[90]? = some xm_X8_repairOf := by
  unfold x_Pg
  rfl
theorem xe_X8_repairOf_0 {ls : xL} {st : List Value} {h h' : xH} {r : Option Value} (H : x_ev x_nm x_tf x_fn x_Pg x_EV 90 (some .int) r h' xb_X8_repairOf_0 0 ls st h) : x_EV 90 0 ls st h r h' := x_Ev_to (M := xm_X8_repairOf) (is := xb_X8_repairOf_0) pg_X8_repairOf (by rfl) H
theorem xe_X8_repairOf_4 {ls : xL} {st : List Value} {h h' : xH} {r : Option Value} (H : x_ev x_nm x_tf x_fn x_Pg x_EV 90 (some .int) r h' xb_X8_repairOf_4 4 ls st h) : x_EV 90 4 ls st h r h' := x_Ev_to (M := xm_X8_repairOf) (is := xb_X8_repairOf_4) pg_X8_repairOf (by rfl) H
theorem xe_X8_repairOf_37 {ls : xL} {st : List Value} {h h' : xH} {r : Option Value} (H : x_ev x_nm x_tf x_fn x_Pg x_EV 90 (some .int) r h' xb_X8_repairOf_37 37 ls st h) : x_EV 90 37 ls st h r h' := x_Ev_to (M := xm_X8_repairOf) (is := xb_X8_repairOf_37) pg_X8_repairOf (by rfl) H
theorem xe_X8_repairOf_38 {ls : xL} {st : List Value} {h h' : xH} {r : Option Value} (H : x_ev x_nm x_tf x_fn x_Pg x_EV 90 (some .int) r h' xb_X8_repairOf_38 38 ls st h) : x_EV 90 38 ls st h r h' := x_Ev_to (M := xm_X8_repairOf) (is := xb_X8_repairOf_38) pg_X8_repairOf (by rfl) H
theorem xe_X8_repairOf_61 {ls : xL} {st : List Value} {h h' : xH} {r : Option Value} (H : x_ev x_nm x_tf x_fn x_Pg x_EV 90 (some .int) r h' xb_X8_repairOf_61 61 ls st h) : x_EV 90 61 ls st h r h' := x_Ev_to (M := xm_X8_repairOf) (is := xb_X8_repairOf_61) pg_X8_repairOf (by rfl) H
theorem xe_X8_repairOf_75 {ls : xL} {st : List Value} {h h' : xH} {r : Option Value} (H : x_ev x_nm x_tf x_fn x_Pg x_EV 90 (some .int) r h' xb_X8_repairOf_75 75 ls st h) : x_EV 90 75 ls st h r h' := x_Ev_to (M := xm_X8_repairOf) (is := xb_X8_repairOf_75) pg_X8_repairOf (by rfl) H
theorem xe_X8_repairOf_76 {ls : xL} {st : List Value} {h h' : xH} {r : Option Value} (H : x_ev x_nm x_tf x_fn x_Pg x_EV 90 (some .int) r h' xb_X8_repairOf_76 76 ls st h) : x_EV 90 76 ls st h r h' := x_Ev_to (M := xm_X8_repairOf) (is := xb_X8_repairOf_76) pg_X8_repairOf (by rfl) H
theorem xe_X8_repairOf_84 {ls : xL} {st : List Value} {h h' : xH} {r : Option Value} (H : x_ev x_nm x_tf x_fn x_Pg x_EV 90 (some .int) r h' xb_X8_repairOf_84 84 ls st h) : x_EV 90 84 ls st h r h' := x_Ev_to (M := xm_X8_repairOf) (is := xb_X8_repairOf_84) pg_X8_repairOf (by rfl) H
theorem xK_X8_repairOf {o : Nat} {x1 : Int32} {h h1 : xH} {r : Option Value} {fs : List Value} (ho : h[o]? = some (.inr (7, fs))) (H : x_EV 90 0 [some (.ref o), some (.int x1), none, none, none] [] h r h1) : xK 90 [.ref o, .int x1] h r h1 := x_calX_v pg_X8_repairOf rfl rfl (Nat.le_of_ble_eq_true rfl) rfl ho H
theorem pg_X8_codeOf : x_Pg[91]? = some xm_X8_codeOf := by
  unfold x_Pg
  rfl
theorem xe_X8_codeOf_0 {ls : xL} {st : List Value} {h h' : xH} {r : Option Value} (H : x_ev x_nm x_tf x_fn x_Pg x_EV 91 (some .int) r h' xb_X8_codeOf_0 0 ls st h) : x_EV 91 0 ls st h r h' := x_Ev_to (M := xm_X8_codeOf) (is := xb_X8_codeOf_0) pg_X8_codeOf (by rfl) H
theorem xe_X8_codeOf_4 {ls : xL} {st : List Value} {h h' : xH} {r : Option Value} (H : x_ev x_nm x_tf x_fn x_Pg x_EV 91 (some .int) r h' xb_X8_codeOf_4 4 ls st h) : x_EV 91 4 ls st h r h' := x_Ev_to (M := xm_X8_codeOf) (is := xb_X8_codeOf_4) pg_X8_codeOf (by rfl) H
theorem xe_X8_codeOf_37 {ls : xL} {st : List Value} {h h' : xH} {r : Option Value} (H : x_ev x_nm x_tf x_fn x_Pg x_EV 91 (some .int) r h' xb_X8_codeOf_37 37 ls st h) : x_EV 91 37 ls st h r h' := x_Ev_to (M := xm_X8_codeOf) (is := xb_X8_codeOf_37) pg_X8_codeOf (by rfl) H
theorem xK_X8_codeOf {o : Nat} {x1 : Int32} {h h1 : xH} {r : Option Value} {fs : List Value} (ho : h[o]? = some (.inr (7, fs))) (H : x_EV 91 0 [some (.ref o), some (.int x1), none, none] [] h r h1) : xK 91 [.ref o, .int x1] h r h1 := x_calX_v pg_X8_codeOf rfl rfl (Nat.le_of_ble_eq_true rfl) rfl ho H
theorem pg_X8_isBetter : x_Pg[92]? = some xm_X8_isBetter := by
  unfold x_Pg
  rfl
theorem xe_X8_isBetter_0 {ls : xL} {st : List Value} {h h' : xH} {r : Option Value} (H : x_ev x_nm x_tf x_fn x_Pg x_EV 92 (some .boolean) r h' xb_X8_isBetter_0 0 ls st h) : x_EV 92 0 ls st h r h' := x_Ev_to (M := xm_X8_isBetter) (is := xb_X8_isBetter_0) pg_X8_isBetter (by rfl) H
theorem xe_X8_isBetter_26 {ls : xL} {st : List Value} {h h' : xH} {r : Option Value} (H : x_ev x_nm x_tf x_fn x_Pg x_EV 92 (some .boolean) r h' xb_X8_isBetter_26 26 ls st h) : x_EV 92 26 ls st h r h' := x_Ev_to (M := xm_X8_isBetter) (is := xb_X8_isBetter_26) pg_X8_isBetter (by rfl) H
theorem xe_X8_isBetter_41 {ls : xL} {st : List Value} {h h' : xH} {r : Option Value} (H : x_ev x_nm x_tf x_fn x_Pg x_EV 92 (some .boolean) r h' xb_X8_isBetter_41 41 ls st h) : x_EV 92 41 ls st h r h' := x_Ev_to (M := xm_X8_isBetter) (is := xb_X8_isBetter_41) pg_X8_isBetter (by rfl) H
theorem xe_X8_isBetter_45 {ls : xL} {st : List Value} {h h' : xH} {r : Option Value} (H : x_ev x_nm x_tf x_fn x_Pg x_EV 92 (some .boolean) r h' xb_X8_isBetter_45 45 ls st h) : x_EV 92 45 ls st h r h' := x_Ev_to (M := xm_X8_isBetter) (is := xb_X8_isBetter_45) pg_X8_isBetter (by rfl) H
theorem xe_X8_isBetter_46 {ls : xL} {st : List Value} {h h' : xH} {r : Option Value} (H : x_ev x_nm x_tf x_fn x_Pg x_EV 92 (some .boolean) r h' xb_X8_isBetter_46 46 ls st h) : x_EV 92 46 ls st h r h' := x_Ev_to (M := xm_X8_isBetter) (is := xb_X8_isBetter_46) pg_X8_isBetter (by rfl) H
theorem xe_X8_isBetter_47 {ls : xL} {st : List Value} {h h' : xH} {r : Option Value} (H : x_ev x_nm x_tf x_fn x_Pg x_EV 92 (some .boolean) r h' xb_X8_isBetter_47 47 ls st h) : x_EV 92 47 ls st h r h' := x_Ev_to (M := xm_X8_isBetter) (is := xb_X8_isBetter_47) pg_X8_isBetter (by rfl) H
theorem xe_X8_isBetter_71 {ls : xL} {st : List Value} {h h' : xH} {r : Option Value} (H : x_ev x_nm x_tf x_fn x_Pg x_EV 92 (some .boolean) r h' xb_X8_isBetter_71 71 ls st h) : x_EV 92 71 ls st h r h' := x_Ev_to (M := xm_X8_isBetter) (is := xb_X8_isBetter_71) pg_X8_isBetter (by rfl) H
theorem xe_X8_isBetter_75 {ls : xL} {st : List Value} {h h' : xH} {r : Option Value} (H : x_ev x_nm x_tf x_fn x_Pg x_EV 92 (some .boolean) r h' xb_X8_isBetter_75 75 ls st h) : x_EV 92 75 ls st h r h' := x_Ev_to (M := xm_X8_isBetter) (is := xb_X8_isBetter_75) pg_X8_isBetter (by rfl) H
theorem xe_X8_isBetter_76 {ls : xL} {st : List Value} {h h' : xH} {r : Option Value} (H : x_ev x_nm x_tf x_fn x_Pg x_EV 92 (some .boolean) r h' xb_X8_isBetter_76 76 ls st h) : x_EV 92 76 ls st h r h' := x_Ev_to (M := xm_X8_isBetter) (is := xb_X8_isBetter_76) pg_X8_isBetter (by rfl) H
theorem xK_X8_isBetter {o : Nat} {x1 : Int32} {x2 : Int32} {x3 : Int32} {h h1 : xH} {r : Option Value} {fs : List Value} (ho : h[o]? = some (.inr (7, fs))) (H : x_EV 92 0 [some (.ref o), some (.int x1), some (.int x2), some (.int x3), none] [] h r h1) : xK 92 [.ref o, .int x1, .int x2, .int x3] h r h1 := x_calX_v pg_X8_isBetter rfl rfl (Nat.le_of_ble_eq_true rfl) rfl ho H
theorem pg_X8_tries : x_Pg[93]? = some xm_X8_tries := by
  unfold x_Pg
  rfl
theorem xe_X8_tries_0 {ls : xL} {st : List Value} {h h' : xH} {r : Option Value} (H : x_ev x_nm x_tf x_fn x_Pg x_EV 93 none r h' xb_X8_tries_0 0 ls st h) : x_EV 93 0 ls st h r h' := x_Ev_to (M := xm_X8_tries) (is := xb_X8_tries_0) pg_X8_tries (by rfl) H
theorem xe_X8_tries_11 {ls : xL} {st : List Value} {h h' : xH} {r : Option Value} (H : x_ev x_nm x_tf x_fn x_Pg x_EV 93 none r h' xb_X8_tries_11 11 ls st h) : x_EV 93 11 ls st h r h' := x_Ev_to (M := xm_X8_tries) (is := xb_X8_tries_11) pg_X8_tries (by rfl) H
theorem xe_X8_tries_23 {ls : xL} {st : List Value} {h h' : xH} {r : Option Value} (H : x_ev x_nm x_tf x_fn x_Pg x_EV 93 none r h' xb_X8_tries_23 23 ls st h) : x_EV 93 23 ls st h r h' := x_Ev_to (M := xm_X8_tries) (is := xb_X8_tries_23) pg_X8_tries (by rfl) H
theorem xe_X8_tries_24 {ls : xL} {st : List Value} {h h' : xH} {r : Option Value} (H : x_ev x_nm x_tf x_fn x_Pg x_EV 93 none r h' xb_X8_tries_24 24 ls st h) : x_EV 93 24 ls st h r h' := x_Ev_to (M := xm_X8_tries) (is := xb_X8_tries_24) pg_X8_tries (by rfl) H
theorem xe_X8_tries_62 {ls : xL} {st : List Value} {h h' : xH} {r : Option Value} (H : x_ev x_nm x_tf x_fn x_Pg x_EV 93 none r h' xb_X8_tries_62 62 ls st h) : x_EV 93 62 ls st h r h' := x_Ev_to (M := xm_X8_tries) (is := xb_X8_tries_62) pg_X8_tries (by rfl) H
theorem xK_X8_tries {o : Nat} {x1 : Int32} {x2 : Int32} {h h1 : xH} {r : Option Value} {fs : List Value} (ho : h[o]? = some (.inr (7, fs))) (H : x_EV 93 0 [some (.ref o), some (.int x1), some (.int x2), none, none, none] [] h r h1) : xK 93 [.ref o, .int x1, .int x2] h r h1 := x_calX_v pg_X8_tries rfl rfl (Nat.le_of_ble_eq_true rfl) rfl ho H
theorem pg_X8_finds : x_Pg[94]? = some xm_X8_finds := by
  unfold x_Pg
  rfl
theorem xe_X8_finds_0 {ls : xL} {st : List Value} {h h' : xH} {r : Option Value} (H : x_ev x_nm x_tf x_fn x_Pg x_EV 94 none r h' xb_X8_finds_0 0 ls st h) : x_EV 94 0 ls st h r h' := x_Ev_to (M := xm_X8_finds) (is := xb_X8_finds_0) pg_X8_finds (by rfl) H
theorem xe_X8_finds_7 {ls : xL} {st : List Value} {h h' : xH} {r : Option Value} (H : x_ev x_nm x_tf x_fn x_Pg x_EV 94 none r h' xb_X8_finds_7 7 ls st h) : x_EV 94 7 ls st h r h' := x_Ev_to (M := xm_X8_finds) (is := xb_X8_finds_7) pg_X8_finds (by rfl) H
theorem xe_X8_finds_30 {ls : xL} {st : List Value} {h h' : xH} {r : Option Value} (H : x_ev x_nm x_tf x_fn x_Pg x_EV 94 none r h' xb_X8_finds_30 30 ls st h) : x_EV 94 30 ls st h r h' := x_Ev_to (M := xm_X8_finds) (is := xb_X8_finds_30) pg_X8_finds (by rfl) H
theorem xe_X8_finds_72 {ls : xL} {st : List Value} {h h' : xH} {r : Option Value} (H : x_ev x_nm x_tf x_fn x_Pg x_EV 94 none r h' xb_X8_finds_72 72 ls st h) : x_EV 94 72 ls st h r h' := x_Ev_to (M := xm_X8_finds) (is := xb_X8_finds_72) pg_X8_finds (by rfl) H
theorem xe_X8_finds_78 {ls : xL} {st : List Value} {h h' : xH} {r : Option Value} (H : x_ev x_nm x_tf x_fn x_Pg x_EV 94 none r h' xb_X8_finds_78 78 ls st h) : x_EV 94 78 ls st h r h' := x_Ev_to (M := xm_X8_finds) (is := xb_X8_finds_78) pg_X8_finds (by rfl) H
theorem xK_X8_finds {o : Nat} {x1 : Int32} {x2 : Int32} {h h1 : xH} {r : Option Value} {fs : List Value} (ho : h[o]? = some (.inr (7, fs))) (H : x_EV 94 0 [some (.ref o), some (.int x1), some (.int x2), none, none, none] [] h r h1) : xK 94 [.ref o, .int x1, .int x2] h r h1 := x_calX_v pg_X8_finds rfl rfl (Nat.le_of_ble_eq_true rfl) rfl ho H
theorem pg_X8_listens : x_Pg[95]? = some xm_X8_listens := by
  unfold x_Pg
  rfl
theorem xe_X8_listens_0 {ls : xL} {st : List Value} {h h' : xH} {r : Option Value} (H : x_ev x_nm x_tf x_fn x_Pg x_EV 95 none r h' xb_X8_listens_0 0 ls st h) : x_EV 95 0 ls st h r h' := x_Ev_to (M := xm_X8_listens) (is := xb_X8_listens_0) pg_X8_listens (by rfl) H
theorem xe_X8_listens_91 {ls : xL} {st : List Value} {h h' : xH} {r : Option Value} (H : x_ev x_nm x_tf x_fn x_Pg x_EV 95 none r h' xb_X8_listens_91 91 ls st h) : x_EV 95 91 ls st h r h' := x_Ev_to (M := xm_X8_listens) (is := xb_X8_listens_91) pg_X8_listens (by rfl) H
theorem xe_X8_listens_148 {ls : xL} {st : List Value} {h h' : xH} {r : Option Value} (H : x_ev x_nm x_tf x_fn x_Pg x_EV 95 none r h' xb_X8_listens_148 148 ls st h) : x_EV 95 148 ls st h r h' := x_Ev_to (M := xm_X8_listens) (is := xb_X8_listens_148) pg_X8_listens (by rfl) H
theorem xe_X8_listens_149 {ls : xL} {st : List Value} {h h' : xH} {r : Option Value} (H : x_ev x_nm x_tf x_fn x_Pg x_EV 95 none r h' xb_X8_listens_149 149 ls st h) : x_EV 95 149 ls st h r h' := x_Ev_to (M := xm_X8_listens) (is := xb_X8_listens_149) pg_X8_listens (by rfl) H
theorem xe_X8_listens_176 {ls : xL} {st : List Value} {h h' : xH} {r : Option Value} (H : x_ev x_nm x_tf x_fn x_Pg x_EV 95 none r h' xb_X8_listens_176 176 ls st h) : x_EV 95 176 ls st h r h' := x_Ev_to (M := xm_X8_listens) (is := xb_X8_listens_176) pg_X8_listens (by rfl) H
theorem xK_X8_listens {o : Nat} {x1 : Int32} {h h1 : xH} {r : Option Value} {fs : List Value} (ho : h[o]? = some (.inr (7, fs))) (H : x_EV 95 0 [some (.ref o), some (.int x1), none, none, none] [] h r h1) : xK 95 [.ref o, .int x1] h r h1 := x_calX_v pg_X8_listens rfl rfl (Nat.le_of_ble_eq_true rfl) rfl ho H
theorem pg_X8_hears : x_Pg[96]? = some xm_X8_hears := by
  unfold x_Pg
  rfl
theorem xe_X8_hears_0 {ls : xL} {st : List Value} {h h' : xH} {r : Option Value} (H : x_ev x_nm x_tf x_fn x_Pg x_EV 96 (some .int) r h' xb_X8_hears_0 0 ls st h) : x_EV 96 0 ls st h r h' := x_Ev_to (M := xm_X8_hears) (is := xb_X8_hears_0) pg_X8_hears (by rfl) H
theorem xe_X8_hears_13 {ls : xL} {st : List Value} {h h' : xH} {r : Option Value} (H : x_ev x_nm x_tf x_fn x_Pg x_EV 96 (some .int) r h' xb_X8_hears_13 13 ls st h) : x_EV 96 13 ls st h r h' := x_Ev_to (M := xm_X8_hears) (is := xb_X8_hears_13) pg_X8_hears (by rfl) H
theorem xe_X8_hears_30 {ls : xL} {st : List Value} {h h' : xH} {r : Option Value} (H : x_ev x_nm x_tf x_fn x_Pg x_EV 96 (some .int) r h' xb_X8_hears_30 30 ls st h) : x_EV 96 30 ls st h r h' := x_Ev_to (M := xm_X8_hears) (is := xb_X8_hears_30) pg_X8_hears (by rfl) H
theorem xe_X8_hears_74 {ls : xL} {st : List Value} {h h' : xH} {r : Option Value} (H : x_ev x_nm x_tf x_fn x_Pg x_EV 96 (some .int) r h' xb_X8_hears_74 74 ls st h) : x_EV 96 74 ls st h r h' := x_Ev_to (M := xm_X8_hears) (is := xb_X8_hears_74) pg_X8_hears (by rfl) H
theorem xe_X8_hears_75 {ls : xL} {st : List Value} {h h' : xH} {r : Option Value} (H : x_ev x_nm x_tf x_fn x_Pg x_EV 96 (some .int) r h' xb_X8_hears_75 75 ls st h) : x_EV 96 75 ls st h r h' := x_Ev_to (M := xm_X8_hears) (is := xb_X8_hears_75) pg_X8_hears (by rfl) H
theorem xK_X8_hears {o : Nat} {x1 : Int32} {h h1 : xH} {r : Option Value} {fs : List Value} (ho : h[o]? = some (.inr (7, fs))) (H : x_EV 96 0 [some (.ref o), some (.int x1)] [] h r h1) : xK 96 [.ref o, .int x1] h r h1 := x_calX_v pg_X8_hears rfl rfl (Nat.le_of_ble_eq_true rfl) rfl ho H
theorem pg_X7_unhears : x_Pg[97]? = some xm_X7_unhears := by
  unfold x_Pg
  rfl
theorem xe_X7_unhears_0 {ls : xL} {st : List Value} {h h' : xH} {r : Option Value} (H : x_ev x_nm x_tf x_fn x_Pg x_EV 97 (some .int) r h' xb_X7_unhears_0 0 ls st h) : x_EV 97 0 ls st h r h' := x_Ev_to (M := xm_X7_unhears) (is := xb_X7_unhears_0) pg_X7_unhears (by rfl) H
theorem xe_X7_unhears_20 {ls : xL} {st : List Value} {h h' : xH} {r : Option Value} (H : x_ev x_nm x_tf x_fn x_Pg x_EV 97 (some .int) r h' xb_X7_unhears_20 20 ls st h) : x_EV 97 20 ls st h r h' := x_Ev_to (M := xm_X7_unhears) (is := xb_X7_unhears_20) pg_X7_unhears (by rfl) H
theorem xK_X7_unhears {o : Nat}  {h h1 : xH} {r : Option Value} {fs : List Value} (ho : h[o]? = some (.inr (6, fs))) (H : x_EV 97 0 [some (.ref o)] [] h r h1) : xK 97 [.ref o] h r h1 := x_calX_v pg_X7_unhears rfl rfl (Nat.le_of_ble_eq_true rfl) rfl ho H
theorem pg_X8_no : x_Pg[98]? = some xm_X8_no := by
  unfold x_Pg
  rfl
theorem xe_X8_no_0 {ls : xL} {st : List Value} {h h' : xH} {r : Option Value} (H : x_ev x_nm x_tf x_fn x_Pg x_EV 98 (some .int) r h' xb_X8_no_0 0 ls st h) : x_EV 98 0 ls st h r h' := x_Ev_to (M := xm_X8_no) (is := xb_X8_no_0) pg_X8_no (by rfl) H
theorem xK_X8_no {o : Nat}  {h h1 : xH} {r : Option Value} {fs : List Value} (ho : h[o]? = some (.inr (7, fs))) (H : x_EV 98 0 [some (.ref o)] [] h r h1) : xK 98 [.ref o] h r h1 := x_calX_v pg_X8_no rfl rfl (Nat.le_of_ble_eq_true rfl) rfl ho H
theorem pg_X8_unhears : x_Pg[99]? = some xm_X8_unhears := by
  unfold x_Pg
  rfl
theorem xe_X8_unhears_0 {ls : xL} {st : List Value} {h h' : xH} {r : Option Value} (H : x_ev x_nm x_tf x_fn x_Pg x_EV 99 (some .int) r h' xb_X8_unhears_0 0 ls st h) : x_EV 99 0 ls st h r h' := x_Ev_to (M := xm_X8_unhears) (is := xb_X8_unhears_0) pg_X8_unhears (by rfl) H
theorem xe_X8_unhears_15 {ls : xL} {st : List Value} {h h' : xH} {r : Option Value} (H : x_ev x_nm x_tf x_fn x_Pg x_EV 99 (some .int) r h' xb_X8_unhears_15 15 ls st h) : x_EV 99 15 ls st h r h' := x_Ev_to (M := xm_X8_unhears) (is := xb_X8_unhears_15) pg_X8_unhears (by rfl) H
theorem xK_X8_unhears {o : Nat}  {h h1 : xH} {r : Option Value} {fs : List Value} (ho : h[o]? = some (.inr (7, fs))) (H : x_EV 99 0 [some (.ref o)] [] h r h1) : xK 99 [.ref o] h r h1 := x_calX_v pg_X8_unhears rfl rfl (Nat.le_of_ble_eq_true rfl) rfl ho H
theorem pg_X7_silence : x_Pg[100]? = some xm_X7_silence := by
  unfold x_Pg
  rfl
theorem xe_X7_silence_0 {ls : xL} {st : List Value} {h h' : xH} {r : Option Value} (H : x_ev x_nm x_tf x_fn x_Pg x_EV 100 (some .int) r h' xb_X7_silence_0 0 ls st h) : x_EV 100 0 ls st h r h' := x_Ev_to (M := xm_X7_silence) (is := xb_X7_silence_0) pg_X7_silence (by rfl) H
theorem xK_X7_silence {o : Nat}  {h h1 : xH} {r : Option Value} {fs : List Value} (ho : h[o]? = some (.inr (6, fs))) (H : x_EV 100 0 [some (.ref o), none] [] h r h1) : xK 100 [.ref o] h r h1 := x_calX_v pg_X7_silence rfl rfl (Nat.le_of_ble_eq_true rfl) rfl ho H
theorem pg_X8_silence : x_Pg[101]? = some xm_X8_silence := by
  unfold x_Pg
  rfl
theorem xe_X8_silence_0 {ls : xL} {st : List Value} {h h' : xH} {r : Option Value} (H : x_ev x_nm x_tf x_fn x_Pg x_EV 101 (some .int) r h' xb_X8_silence_0 0 ls st h) : x_EV 101 0 ls st h r h' := x_Ev_to (M := xm_X8_silence) (is := xb_X8_silence_0) pg_X8_silence (by rfl) H
theorem xK_X8_silence {o : Nat}  {h h1 : xH} {r : Option Value} {fs : List Value} (ho : h[o]? = some (.inr (7, fs))) (H : x_EV 101 0 [some (.ref o), none] [] h r h1) : xK 101 [.ref o] h r h1 := x_calX_v pg_X8_silence rfl rfl (Nat.le_of_ble_eq_true rfl) rfl ho H
theorem pg_X6_hearAllAnew : x_Pg[102]? = some xm_X6_hearAllAnew := by
  unfold x_Pg
  rfl
theorem xe_X6_hearAllAnew_0 {ls : xL} {st : List Value} {h h' : xH} {r : Option Value} (H : x_ev x_nm x_tf x_fn x_Pg x_EV 102 none r h' xb_X6_hearAllAnew_0 0 ls st h) : x_EV 102 0 ls st h r h' := x_Ev_to (M := xm_X6_hearAllAnew) (is := xb_X6_hearAllAnew_0) pg_X6_hearAllAnew (by rfl) H
theorem xe_X6_hearAllAnew_18 {ls : xL} {st : List Value} {h h' : xH} {r : Option Value} (H : x_ev x_nm x_tf x_fn x_Pg x_EV 102 none r h' xb_X6_hearAllAnew_18 18 ls st h) : x_EV 102 18 ls st h r h' := x_Ev_to (M := xm_X6_hearAllAnew) (is := xb_X6_hearAllAnew_18) pg_X6_hearAllAnew (by rfl) H
theorem xe_X6_hearAllAnew_43 {ls : xL} {st : List Value} {h h' : xH} {r : Option Value} (H : x_ev x_nm x_tf x_fn x_Pg x_EV 102 none r h' xb_X6_hearAllAnew_43 43 ls st h) : x_EV 102 43 ls st h r h' := x_Ev_to (M := xm_X6_hearAllAnew) (is := xb_X6_hearAllAnew_43) pg_X6_hearAllAnew (by rfl) H
theorem xK_X6_hearAllAnew {o : Nat} {x1 : Nat} {h h1 : xH} {r : Option Value} {fs : List Value} (ho : h[o]? = some (.inr (5, fs))) (H : x_EV 102 0 [some (.ref o), some (.ref x1), none, none] [] h r h1) : xK 102 [.ref o, .ref x1] h r h1 := x_calX_v pg_X6_hearAllAnew rfl rfl (Nat.le_of_ble_eq_true rfl) rfl ho H
theorem pg_X4_sumOfStumbles : x_Pg[103]? = some xm_X4_sumOfStumbles := by
  unfold x_Pg
  rfl
theorem xe_X4_sumOfStumbles_0 {ls : xL} {st : List Value} {h h' : xH} {r : Option Value} (H : x_ev x_nm x_tf x_fn x_Pg x_EV 103 (some .int) r h' xb_X4_sumOfStumbles_0 0 ls st h) : x_EV 103 0 ls st h r h' := x_Ev_to (M := xm_X4_sumOfStumbles) (is := xb_X4_sumOfStumbles_0) pg_X4_sumOfStumbles (by rfl) H
theorem xe_X4_sumOfStumbles_4 {ls : xL} {st : List Value} {h h' : xH} {r : Option Value} (H : x_ev x_nm x_tf x_fn x_Pg x_EV 103 (some .int) r h' xb_X4_sumOfStumbles_4 4 ls st h) : x_EV 103 4 ls st h r h' := x_Ev_to (M := xm_X4_sumOfStumbles) (is := xb_X4_sumOfStumbles_4) pg_X4_sumOfStumbles (by rfl) H
theorem xe_X4_sumOfStumbles_27 {ls : xL} {st : List Value} {h h' : xH} {r : Option Value} (H : x_ev x_nm x_tf x_fn x_Pg x_EV 103 (some .int) r h' xb_X4_sumOfStumbles_27 27 ls st h) : x_EV 103 27 ls st h r h' := x_Ev_to (M := xm_X4_sumOfStumbles) (is := xb_X4_sumOfStumbles_27) pg_X4_sumOfStumbles (by rfl) H
theorem xK_X4_sumOfStumbles {o : Nat}  {h h1 : xH} {r : Option Value} {fs : List Value} (ho : h[o]? = some (.inr (3, fs))) (H : x_EV 103 0 [some (.ref o), none, none] [] h r h1) : xK 103 [.ref o] h r h1 := x_calX_v pg_X4_sumOfStumbles rfl rfl (Nat.le_of_ble_eq_true rfl) rfl ho H
theorem pg_X7_rereads : x_Pg[104]? = some xm_X7_rereads := by
  unfold x_Pg
  rfl
theorem xe_X7_rereads_0 {ls : xL} {st : List Value} {h h' : xH} {r : Option Value} (H : x_ev x_nm x_tf x_fn x_Pg x_EV 104 (some .int) r h' xb_X7_rereads_0 0 ls st h) : x_EV 104 0 ls st h r h' := x_Ev_to (M := xm_X7_rereads) (is := xb_X7_rereads_0) pg_X7_rereads (by rfl) H
theorem xe_X7_rereads_39 {ls : xL} {st : List Value} {h h' : xH} {r : Option Value} (H : x_ev x_nm x_tf x_fn x_Pg x_EV 104 (some .int) r h' xb_X7_rereads_39 39 ls st h) : x_EV 104 39 ls st h r h' := x_Ev_to (M := xm_X7_rereads) (is := xb_X7_rereads_39) pg_X7_rereads (by rfl) H
theorem xe_X7_rereads_49 {ls : xL} {st : List Value} {h h' : xH} {r : Option Value} (H : x_ev x_nm x_tf x_fn x_Pg x_EV 104 (some .int) r h' xb_X7_rereads_49 49 ls st h) : x_EV 104 49 ls st h r h' := x_Ev_to (M := xm_X7_rereads) (is := xb_X7_rereads_49) pg_X7_rereads (by rfl) H
theorem xK_X7_rereads {o : Nat}  {h h1 : xH} {r : Option Value} {fs : List Value} (ho : h[o]? = some (.inr (6, fs))) (H : x_EV 104 0 [some (.ref o)] [] h r h1) : xK 104 [.ref o] h r h1 := x_calX_v pg_X7_rereads rfl rfl (Nat.le_of_ble_eq_true rfl) rfl ho H
theorem pg_X8_isStuck : x_Pg[105]? = some xm_X8_isStuck := by
  unfold x_Pg
  rfl
theorem xe_X8_isStuck_0 {ls : xL} {st : List Value} {h h' : xH} {r : Option Value} (H : x_ev x_nm x_tf x_fn x_Pg x_EV 105 (some .boolean) r h' xb_X8_isStuck_0 0 ls st h) : x_EV 105 0 ls st h r h' := x_Ev_to (M := xm_X8_isStuck) (is := xb_X8_isStuck_0) pg_X8_isStuck (by rfl) H
theorem xe_X8_isStuck_28 {ls : xL} {st : List Value} {h h' : xH} {r : Option Value} (H : x_ev x_nm x_tf x_fn x_Pg x_EV 105 (some .boolean) r h' xb_X8_isStuck_28 28 ls st h) : x_EV 105 28 ls st h r h' := x_Ev_to (M := xm_X8_isStuck) (is := xb_X8_isStuck_28) pg_X8_isStuck (by rfl) H
theorem xe_X8_isStuck_29 {ls : xL} {st : List Value} {h h' : xH} {r : Option Value} (H : x_ev x_nm x_tf x_fn x_Pg x_EV 105 (some .boolean) r h' xb_X8_isStuck_29 29 ls st h) : x_EV 105 29 ls st h r h' := x_Ev_to (M := xm_X8_isStuck) (is := xb_X8_isStuck_29) pg_X8_isStuck (by rfl) H
theorem xK_X8_isStuck {o : Nat}  {h h1 : xH} {r : Option Value} {fs : List Value} (ho : h[o]? = some (.inr (7, fs))) (H : x_EV 105 0 [some (.ref o)] [] h r h1) : xK 105 [.ref o] h r h1 := x_calX_v pg_X8_isStuck rfl rfl (Nat.le_of_ble_eq_true rfl) rfl ho H
theorem pg_X8_sumOf : x_Pg[106]? = some xm_X8_sumOf := by
  unfold x_Pg
  rfl
theorem xe_X8_sumOf_0 {ls : xL} {st : List Value} {h h' : xH} {r : Option Value} (H : x_ev x_nm x_tf x_fn x_Pg x_EV 106 (some .int) r h' xb_X8_sumOf_0 0 ls st h) : x_EV 106 0 ls st h r h' := x_Ev_to (M := xm_X8_sumOf) (is := xb_X8_sumOf_0) pg_X8_sumOf (by rfl) H
theorem xe_X8_sumOf_4 {ls : xL} {st : List Value} {h h' : xH} {r : Option Value} (H : x_ev x_nm x_tf x_fn x_Pg x_EV 106 (some .int) r h' xb_X8_sumOf_4 4 ls st h) : x_EV 106 4 ls st h r h' := x_Ev_to (M := xm_X8_sumOf) (is := xb_X8_sumOf_4) pg_X8_sumOf (by rfl) H
theorem xe_X8_sumOf_36 {ls : xL} {st : List Value} {h h' : xH} {r : Option Value} (H : x_ev x_nm x_tf x_fn x_Pg x_EV 106 (some .int) r h' xb_X8_sumOf_36 36 ls st h) : x_EV 106 36 ls st h r h' := x_Ev_to (M := xm_X8_sumOf) (is := xb_X8_sumOf_36) pg_X8_sumOf (by rfl) H
theorem xK_X8_sumOf {o : Nat} {x1 : Int32} {h h1 : xH} {r : Option Value} {fs : List Value} (ho : h[o]? = some (.inr (7, fs))) (H : x_EV 106 0 [some (.ref o), some (.int x1), none, none] [] h r h1) : xK 106 [.ref o, .int x1] h r h1 := x_calX_v pg_X8_sumOf rfl rfl (Nat.le_of_ble_eq_true rfl) rfl ho H
theorem pg_X8_rereads : x_Pg[107]? = some xm_X8_rereads := by
  unfold x_Pg
  rfl
theorem xe_X8_rereads_0 {ls : xL} {st : List Value} {h h' : xH} {r : Option Value} (H : x_ev x_nm x_tf x_fn x_Pg x_EV 107 (some .int) r h' xb_X8_rereads_0 0 ls st h) : x_EV 107 0 ls st h r h' := x_Ev_to (M := xm_X8_rereads) (is := xb_X8_rereads_0) pg_X8_rereads (by rfl) H
theorem xe_X8_rereads_22 {ls : xL} {st : List Value} {h h' : xH} {r : Option Value} (H : x_ev x_nm x_tf x_fn x_Pg x_EV 107 (some .int) r h' xb_X8_rereads_22 22 ls st h) : x_EV 107 22 ls st h r h' := x_Ev_to (M := xm_X8_rereads) (is := xb_X8_rereads_22) pg_X8_rereads (by rfl) H
theorem xe_X8_rereads_47 {ls : xL} {st : List Value} {h h' : xH} {r : Option Value} (H : x_ev x_nm x_tf x_fn x_Pg x_EV 107 (some .int) r h' xb_X8_rereads_47 47 ls st h) : x_EV 107 47 ls st h r h' := x_Ev_to (M := xm_X8_rereads) (is := xb_X8_rereads_47) pg_X8_rereads (by rfl) H
theorem xe_X8_rereads_58 {ls : xL} {st : List Value} {h h' : xH} {r : Option Value} (H : x_ev x_nm x_tf x_fn x_Pg x_EV 107 (some .int) r h' xb_X8_rereads_58 58 ls st h) : x_EV 107 58 ls st h r h' := x_Ev_to (M := xm_X8_rereads) (is := xb_X8_rereads_58) pg_X8_rereads (by rfl) H
theorem xe_X8_rereads_63 {ls : xL} {st : List Value} {h h' : xH} {r : Option Value} (H : x_ev x_nm x_tf x_fn x_Pg x_EV 107 (some .int) r h' xb_X8_rereads_63 63 ls st h) : x_EV 107 63 ls st h r h' := x_Ev_to (M := xm_X8_rereads) (is := xb_X8_rereads_63) pg_X8_rereads (by rfl) H
theorem xK_X8_rereads {o : Nat}  {h h1 : xH} {r : Option Value} {fs : List Value} (ho : h[o]? = some (.inr (7, fs))) (H : x_EV 107 0 [some (.ref o), none, none] [] h r h1) : xK 107 [.ref o] h r h1 := x_calX_v pg_X8_rereads rfl rfl (Nat.le_of_ble_eq_true rfl) rfl ho H
theorem pg_X7_word : x_Pg[108]? = some xm_X7_word := by
  unfold x_Pg
  rfl
theorem xe_X7_word_0 {ls : xL} {st : List Value} {h h' : xH} {r : Option Value} (H : x_ev x_nm x_tf x_fn x_Pg x_EV 108 (some .int) r h' xb_X7_word_0 0 ls st h) : x_EV 108 0 ls st h r h' := x_Ev_to (M := xm_X7_word) (is := xb_X7_word_0) pg_X7_word (by rfl) H
theorem xe_X7_word_21 {ls : xL} {st : List Value} {h h' : xH} {r : Option Value} (H : x_ev x_nm x_tf x_fn x_Pg x_EV 108 (some .int) r h' xb_X7_word_21 21 ls st h) : x_EV 108 21 ls st h r h' := x_Ev_to (M := xm_X7_word) (is := xb_X7_word_21) pg_X7_word (by rfl) H
theorem xe_X7_word_28 {ls : xL} {st : List Value} {h h' : xH} {r : Option Value} (H : x_ev x_nm x_tf x_fn x_Pg x_EV 108 (some .int) r h' xb_X7_word_28 28 ls st h) : x_EV 108 28 ls st h r h' := x_Ev_to (M := xm_X7_word) (is := xb_X7_word_28) pg_X7_word (by rfl) H
theorem xe_X7_word_72 {ls : xL} {st : List Value} {h h' : xH} {r : Option Value} (H : x_ev x_nm x_tf x_fn x_Pg x_EV 108 (some .int) r h' xb_X7_word_72 72 ls st h) : x_EV 108 72 ls st h r h' := x_Ev_to (M := xm_X7_word) (is := xb_X7_word_72) pg_X7_word (by rfl) H
theorem xe_X7_word_79 {ls : xL} {st : List Value} {h h' : xH} {r : Option Value} (H : x_ev x_nm x_tf x_fn x_Pg x_EV 108 (some .int) r h' xb_X7_word_79 79 ls st h) : x_EV 108 79 ls st h r h' := x_Ev_to (M := xm_X7_word) (is := xb_X7_word_79) pg_X7_word (by rfl) H
theorem xe_X7_word_89 {ls : xL} {st : List Value} {h h' : xH} {r : Option Value} (H : x_ev x_nm x_tf x_fn x_Pg x_EV 108 (some .int) r h' xb_X7_word_89 89 ls st h) : x_EV 108 89 ls st h r h' := x_Ev_to (M := xm_X7_word) (is := xb_X7_word_89) pg_X7_word (by rfl) H
theorem xe_X7_word_95 {ls : xL} {st : List Value} {h h' : xH} {r : Option Value} (H : x_ev x_nm x_tf x_fn x_Pg x_EV 108 (some .int) r h' xb_X7_word_95 95 ls st h) : x_EV 108 95 ls st h r h' := x_Ev_to (M := xm_X7_word) (is := xb_X7_word_95) pg_X7_word (by rfl) H
theorem xe_X7_word_96 {ls : xL} {st : List Value} {h h' : xH} {r : Option Value} (H : x_ev x_nm x_tf x_fn x_Pg x_EV 108 (some .int) r h' xb_X7_word_96 96 ls st h) : x_EV 108 96 ls st h r h' := x_Ev_to (M := xm_X7_word) (is := xb_X7_word_96) pg_X7_word (by rfl) H
theorem xe_X7_word_106 {ls : xL} {st : List Value} {h h' : xH} {r : Option Value} (H : x_ev x_nm x_tf x_fn x_Pg x_EV 108 (some .int) r h' xb_X7_word_106 106 ls st h) : x_EV 108 106 ls st h r h' := x_Ev_to (M := xm_X7_word) (is := xb_X7_word_106) pg_X7_word (by rfl) H
theorem xe_X7_word_112 {ls : xL} {st : List Value} {h h' : xH} {r : Option Value} (H : x_ev x_nm x_tf x_fn x_Pg x_EV 108 (some .int) r h' xb_X7_word_112 112 ls st h) : x_EV 108 112 ls st h r h' := x_Ev_to (M := xm_X7_word) (is := xb_X7_word_112) pg_X7_word (by rfl) H
theorem xe_X7_word_113 {ls : xL} {st : List Value} {h h' : xH} {r : Option Value} (H : x_ev x_nm x_tf x_fn x_Pg x_EV 108 (some .int) r h' xb_X7_word_113 113 ls st h) : x_EV 108 113 ls st h r h' := x_Ev_to (M := xm_X7_word) (is := xb_X7_word_113) pg_X7_word (by rfl) H
theorem xe_X7_word_120 {ls : xL} {st : List Value} {h h' : xH} {r : Option Value} (H : x_ev x_nm x_tf x_fn x_Pg x_EV 108 (some .int) r h' xb_X7_word_120 120 ls st h) : x_EV 108 120 ls st h r h' := x_Ev_to (M := xm_X7_word) (is := xb_X7_word_120) pg_X7_word (by rfl) H
theorem xe_X7_word_127 {ls : xL} {st : List Value} {h h' : xH} {r : Option Value} (H : x_ev x_nm x_tf x_fn x_Pg x_EV 108 (some .int) r h' xb_X7_word_127 127 ls st h) : x_EV 108 127 ls st h r h' := x_Ev_to (M := xm_X7_word) (is := xb_X7_word_127) pg_X7_word (by rfl) H
theorem xe_X7_word_134 {ls : xL} {st : List Value} {h h' : xH} {r : Option Value} (H : x_ev x_nm x_tf x_fn x_Pg x_EV 108 (some .int) r h' xb_X7_word_134 134 ls st h) : x_EV 108 134 ls st h r h' := x_Ev_to (M := xm_X7_word) (is := xb_X7_word_134) pg_X7_word (by rfl) H
theorem xK_X7_word {o : Nat} {x1 : Int32} {x2 : Int32} {h h1 : xH} {r : Option Value} {fs : List Value} (ho : h[o]? = some (.inr (6, fs))) (H : x_EV 108 0 [some (.ref o), some (.int x1), some (.int x2), none, none] [] h r h1) : xK 108 [.ref o, .int x1, .int x2] h r h1 := x_calX_v pg_X7_word rfl rfl (Nat.le_of_ble_eq_true rfl) rfl ho H
theorem pg_X8_wordOf : x_Pg[109]? = some xm_X8_wordOf := by
  unfold x_Pg
  rfl
theorem xe_X8_wordOf_0 {ls : xL} {st : List Value} {h h' : xH} {r : Option Value} (H : x_ev x_nm x_tf x_fn x_Pg x_EV 109 (some .int) r h' xb_X8_wordOf_0 0 ls st h) : x_EV 109 0 ls st h r h' := x_Ev_to (M := xm_X8_wordOf) (is := xb_X8_wordOf_0) pg_X8_wordOf (by rfl) H
theorem xe_X8_wordOf_9 {ls : xL} {st : List Value} {h h' : xH} {r : Option Value} (H : x_ev x_nm x_tf x_fn x_Pg x_EV 109 (some .int) r h' xb_X8_wordOf_9 9 ls st h) : x_EV 109 9 ls st h r h' := x_Ev_to (M := xm_X8_wordOf) (is := xb_X8_wordOf_9) pg_X8_wordOf (by rfl) H
theorem xe_X8_wordOf_26 {ls : xL} {st : List Value} {h h' : xH} {r : Option Value} (H : x_ev x_nm x_tf x_fn x_Pg x_EV 109 (some .int) r h' xb_X8_wordOf_26 26 ls st h) : x_EV 109 26 ls st h r h' := x_Ev_to (M := xm_X8_wordOf) (is := xb_X8_wordOf_26) pg_X8_wordOf (by rfl) H
theorem xe_X8_wordOf_29 {ls : xL} {st : List Value} {h h' : xH} {r : Option Value} (H : x_ev x_nm x_tf x_fn x_Pg x_EV 109 (some .int) r h' xb_X8_wordOf_29 29 ls st h) : x_EV 109 29 ls st h r h' := x_Ev_to (M := xm_X8_wordOf) (is := xb_X8_wordOf_29) pg_X8_wordOf (by rfl) H
theorem xe_X8_wordOf_32 {ls : xL} {st : List Value} {h h' : xH} {r : Option Value} (H : x_ev x_nm x_tf x_fn x_Pg x_EV 109 (some .int) r h' xb_X8_wordOf_32 32 ls st h) : x_EV 109 32 ls st h r h' := x_Ev_to (M := xm_X8_wordOf) (is := xb_X8_wordOf_32) pg_X8_wordOf (by rfl) H
theorem xe_X8_wordOf_48 {ls : xL} {st : List Value} {h h' : xH} {r : Option Value} (H : x_ev x_nm x_tf x_fn x_Pg x_EV 109 (some .int) r h' xb_X8_wordOf_48 48 ls st h) : x_EV 109 48 ls st h r h' := x_Ev_to (M := xm_X8_wordOf) (is := xb_X8_wordOf_48) pg_X8_wordOf (by rfl) H
theorem xe_X8_wordOf_73 {ls : xL} {st : List Value} {h h' : xH} {r : Option Value} (H : x_ev x_nm x_tf x_fn x_Pg x_EV 109 (some .int) r h' xb_X8_wordOf_73 73 ls st h) : x_EV 109 73 ls st h r h' := x_Ev_to (M := xm_X8_wordOf) (is := xb_X8_wordOf_73) pg_X8_wordOf (by rfl) H
theorem xe_X8_wordOf_79 {ls : xL} {st : List Value} {h h' : xH} {r : Option Value} (H : x_ev x_nm x_tf x_fn x_Pg x_EV 109 (some .int) r h' xb_X8_wordOf_79 79 ls st h) : x_EV 109 79 ls st h r h' := x_Ev_to (M := xm_X8_wordOf) (is := xb_X8_wordOf_79) pg_X8_wordOf (by rfl) H
theorem xK_X8_wordOf {o : Nat} {x1 : Int32} {x2 : Int32} {h h1 : xH} {r : Option Value} {fs : List Value} (ho : h[o]? = some (.inr (7, fs))) (H : x_EV 109 0 [some (.ref o), some (.int x1), some (.int x2)] [] h r h1) : xK 109 [.ref o, .int x1, .int x2] h r h1 := x_calX_v pg_X8_wordOf rfl rfl (Nat.le_of_ble_eq_true rfl) rfl ho H
theorem pg_X8_word : x_Pg[110]? = some xm_X8_word := by
  unfold x_Pg
  rfl
theorem xe_X8_word_0 {ls : xL} {st : List Value} {h h' : xH} {r : Option Value} (H : x_ev x_nm x_tf x_fn x_Pg x_EV 110 (some .int) r h' xb_X8_word_0 0 ls st h) : x_EV 110 0 ls st h r h' := x_Ev_to (M := xm_X8_word) (is := xb_X8_word_0) pg_X8_word (by rfl) H
theorem xe_X8_word_33 {ls : xL} {st : List Value} {h h' : xH} {r : Option Value} (H : x_ev x_nm x_tf x_fn x_Pg x_EV 110 (some .int) r h' xb_X8_word_33 33 ls st h) : x_EV 110 33 ls st h r h' := x_Ev_to (M := xm_X8_word) (is := xb_X8_word_33) pg_X8_word (by rfl) H
theorem xe_X8_word_37 {ls : xL} {st : List Value} {h h' : xH} {r : Option Value} (H : x_ev x_nm x_tf x_fn x_Pg x_EV 110 (some .int) r h' xb_X8_word_37 37 ls st h) : x_EV 110 37 ls st h r h' := x_Ev_to (M := xm_X8_word) (is := xb_X8_word_37) pg_X8_word (by rfl) H
theorem xK_X8_word {o : Nat} {x1 : Int32} {x2 : Int32} {h h1 : xH} {r : Option Value} {fs : List Value} (ho : h[o]? = some (.inr (7, fs))) (H : x_EV 110 0 [some (.ref o), some (.int x1), some (.int x2)] [] h r h1) : xK 110 [.ref o, .int x1, .int x2] h r h1 := x_calX_v pg_X8_word rfl rfl (Nat.le_of_ble_eq_true rfl) rfl ho H
theorem pg_X4_sumOfRepairs : x_Pg[111]? = some xm_X4_sumOfRepairs := by
  unfold x_Pg
  rfl
theorem xe_X4_sumOfRepairs_0 {ls : xL} {st : List Value} {h h' : xH} {r : Option Value} (H : x_ev x_nm x_tf x_fn x_Pg x_EV 111 (some .int) r h' xb_X4_sumOfRepairs_0 0 ls st h) : x_EV 111 0 ls st h r h' := x_Ev_to (M := xm_X4_sumOfRepairs) (is := xb_X4_sumOfRepairs_0) pg_X4_sumOfRepairs (by rfl) H
theorem xe_X4_sumOfRepairs_4 {ls : xL} {st : List Value} {h h' : xH} {r : Option Value} (H : x_ev x_nm x_tf x_fn x_Pg x_EV 111 (some .int) r h' xb_X4_sumOfRepairs_4 4 ls st h) : x_EV 111 4 ls st h r h' := x_Ev_to (M := xm_X4_sumOfRepairs) (is := xb_X4_sumOfRepairs_4) pg_X4_sumOfRepairs (by rfl) H
theorem xe_X4_sumOfRepairs_27 {ls : xL} {st : List Value} {h h' : xH} {r : Option Value} (H : x_ev x_nm x_tf x_fn x_Pg x_EV 111 (some .int) r h' xb_X4_sumOfRepairs_27 27 ls st h) : x_EV 111 27 ls st h r h' := x_Ev_to (M := xm_X4_sumOfRepairs) (is := xb_X4_sumOfRepairs_27) pg_X4_sumOfRepairs (by rfl) H
theorem xK_X4_sumOfRepairs {o : Nat}  {h h1 : xH} {r : Option Value} {fs : List Value} (ho : h[o]? = some (.inr (3, fs))) (H : x_EV 111 0 [some (.ref o), none, none] [] h r h1) : xK 111 [.ref o] h r h1 := x_calX_v pg_X4_sumOfRepairs rfl rfl (Nat.le_of_ble_eq_true rfl) rfl ho H
theorem pg_X2_rootOf : x_Pg[112]? = some xm_X2_rootOf := by
  unfold x_Pg
  rfl
theorem xe_X2_rootOf_0 {ls : xL} {st : List Value} {h h' : xH} {r : Option Value} (H : x_ev x_nm x_tf x_fn x_Pg x_EV 112 (some .int) r h' xb_X2_rootOf_0 0 ls st h) : x_EV 112 0 ls st h r h' := x_Ev_to (M := xm_X2_rootOf) (is := xb_X2_rootOf_0) pg_X2_rootOf (by rfl) H
theorem xe_X2_rootOf_2 {ls : xL} {st : List Value} {h h' : xH} {r : Option Value} (H : x_ev x_nm x_tf x_fn x_Pg x_EV 112 (some .int) r h' xb_X2_rootOf_2 2 ls st h) : x_EV 112 2 ls st h r h' := x_Ev_to (M := xm_X2_rootOf) (is := xb_X2_rootOf_2) pg_X2_rootOf (by rfl) H
theorem xe_X2_rootOf_17 {ls : xL} {st : List Value} {h h' : xH} {r : Option Value} (H : x_ev x_nm x_tf x_fn x_Pg x_EV 112 (some .int) r h' xb_X2_rootOf_17 17 ls st h) : x_EV 112 17 ls st h r h' := x_Ev_to (M := xm_X2_rootOf) (is := xb_X2_rootOf_17) pg_X2_rootOf (by rfl) H
theorem xe_X2_rootOf_23 {ls : xL} {st : List Value} {h h' : xH} {r : Option Value} (H : x_ev x_nm x_tf x_fn x_Pg x_EV 112 (some .int) r h' xb_X2_rootOf_23 23 ls st h) : x_EV 112 23 ls st h r h' := x_Ev_to (M := xm_X2_rootOf) (is := xb_X2_rootOf_23) pg_X2_rootOf (by rfl) H
theorem xK_X2_rootOf {x1 : Int32} {x2 : Int32} {h h1 : xH} {r : Option Value} (H : x_EV 112 0 [some (.int x1), some (.int x2), none] [] h r h1) : xK 112 [.int x1, .int x2] h r h1 := x_calX_s pg_X2_rootOf rfl (Nat.le_of_ble_eq_true rfl) rfl H
theorem pg_X2_levelOf : x_Pg[113]? = some xm_X2_levelOf := by
  unfold x_Pg
  rfl
theorem xe_X2_levelOf_0 {ls : xL} {st : List Value} {h h' : xH} {r : Option Value} (H : x_ev x_nm x_tf x_fn x_Pg x_EV 113 (some .int) r h' xb_X2_levelOf_0 0 ls st h) : x_EV 113 0 ls st h r h' := x_Ev_to (M := xm_X2_levelOf) (is := xb_X2_levelOf_0) pg_X2_levelOf (by rfl) H
theorem xe_X2_levelOf_8 {ls : xL} {st : List Value} {h h' : xH} {r : Option Value} (H : x_ev x_nm x_tf x_fn x_Pg x_EV 113 (some .int) r h' xb_X2_levelOf_8 8 ls st h) : x_EV 113 8 ls st h r h' := x_Ev_to (M := xm_X2_levelOf) (is := xb_X2_levelOf_8) pg_X2_levelOf (by rfl) H
theorem xe_X2_levelOf_30 {ls : xL} {st : List Value} {h h' : xH} {r : Option Value} (H : x_ev x_nm x_tf x_fn x_Pg x_EV 113 (some .int) r h' xb_X2_levelOf_30 30 ls st h) : x_EV 113 30 ls st h r h' := x_Ev_to (M := xm_X2_levelOf) (is := xb_X2_levelOf_30) pg_X2_levelOf (by rfl) H
theorem xK_X2_levelOf {x1 : Int32} {x2 : Int32} {h h1 : xH} {r : Option Value} (H : x_EV 113 0 [some (.int x1), some (.int x2), none, none] [] h r h1) : xK 113 [.int x1, .int x2] h r h1 := x_calX_s pg_X2_levelOf rfl (Nat.le_of_ble_eq_true rfl) rfl H
theorem pg_X2_deepestLevel : x_Pg[114]? = some xm_X2_deepestLevel := by
  unfold x_Pg
  rfl
theorem xe_X2_deepestLevel_0 {ls : xL} {st : List Value} {h h' : xH} {r : Option Value} (H : x_ev x_nm x_tf x_fn x_Pg x_EV 114 (some .int) r h' xb_X2_deepestLevel_0 0 ls st h) : x_EV 114 0 ls st h r h' := x_Ev_to (M := xm_X2_deepestLevel) (is := xb_X2_deepestLevel_0) pg_X2_deepestLevel (by rfl) H
theorem xe_X2_deepestLevel_4 {ls : xL} {st : List Value} {h h' : xH} {r : Option Value} (H : x_ev x_nm x_tf x_fn x_Pg x_EV 114 (some .int) r h' xb_X2_deepestLevel_4 4 ls st h) : x_EV 114 4 ls st h r h' := x_Ev_to (M := xm_X2_deepestLevel) (is := xb_X2_deepestLevel_4) pg_X2_deepestLevel (by rfl) H
theorem xe_X2_deepestLevel_25 {ls : xL} {st : List Value} {h h' : xH} {r : Option Value} (H : x_ev x_nm x_tf x_fn x_Pg x_EV 114 (some .int) r h' xb_X2_deepestLevel_25 25 ls st h) : x_EV 114 25 ls st h r h' := x_Ev_to (M := xm_X2_deepestLevel) (is := xb_X2_deepestLevel_25) pg_X2_deepestLevel (by rfl) H
theorem xK_X2_deepestLevel {x1 : Int32} {x2 : Int32} {h h1 : xH} {r : Option Value} (H : x_EV 114 0 [some (.int x1), some (.int x2), none, none] [] h r h1) : xK 114 [.int x1, .int x2] h r h1 := x_calX_s pg_X2_deepestLevel rfl (Nat.le_of_ble_eq_true rfl) rfl H
theorem pg_X7_held : x_Pg[115]? = some xm_X7_held := by
  unfold x_Pg
  rfl
theorem xe_X7_held_0 {ls : xL} {st : List Value} {h h' : xH} {r : Option Value} (H : x_ev x_nm x_tf x_fn x_Pg x_EV 115 (some .int) r h' xb_X7_held_0 0 ls st h) : x_EV 115 0 ls st h r h' := x_Ev_to (M := xm_X7_held) (is := xb_X7_held_0) pg_X7_held (by rfl) H
theorem xe_X7_held_56 {ls : xL} {st : List Value} {h h' : xH} {r : Option Value} (H : x_ev x_nm x_tf x_fn x_Pg x_EV 115 (some .int) r h' xb_X7_held_56 56 ls st h) : x_EV 115 56 ls st h r h' := x_Ev_to (M := xm_X7_held) (is := xb_X7_held_56) pg_X7_held (by rfl) H
theorem xe_X7_held_61 {ls : xL} {st : List Value} {h h' : xH} {r : Option Value} (H : x_ev x_nm x_tf x_fn x_Pg x_EV 115 (some .int) r h' xb_X7_held_61 61 ls st h) : x_EV 115 61 ls st h r h' := x_Ev_to (M := xm_X7_held) (is := xb_X7_held_61) pg_X7_held (by rfl) H
theorem xe_X7_held_72 {ls : xL} {st : List Value} {h h' : xH} {r : Option Value} (H : x_ev x_nm x_tf x_fn x_Pg x_EV 115 (some .int) r h' xb_X7_held_72 72 ls st h) : x_EV 115 72 ls st h r h' := x_Ev_to (M := xm_X7_held) (is := xb_X7_held_72) pg_X7_held (by rfl) H
theorem xe_X7_held_73 {ls : xL} {st : List Value} {h h' : xH} {r : Option Value} (H : x_ev x_nm x_tf x_fn x_Pg x_EV 115 (some .int) r h' xb_X7_held_73 73 ls st h) : x_EV 115 73 ls st h r h' := x_Ev_to (M := xm_X7_held) (is := xb_X7_held_73) pg_X7_held (by rfl) H
theorem xe_X7_held_74 {ls : xL} {st : List Value} {h h' : xH} {r : Option Value} (H : x_ev x_nm x_tf x_fn x_Pg x_EV 115 (some .int) r h' xb_X7_held_74 74 ls st h) : x_EV 115 74 ls st h r h' := x_Ev_to (M := xm_X7_held) (is := xb_X7_held_74) pg_X7_held (by rfl) H
theorem xe_X7_held_79 {ls : xL} {st : List Value} {h h' : xH} {r : Option Value} (H : x_ev x_nm x_tf x_fn x_Pg x_EV 115 (some .int) r h' xb_X7_held_79 79 ls st h) : x_EV 115 79 ls st h r h' := x_Ev_to (M := xm_X7_held) (is := xb_X7_held_79) pg_X7_held (by rfl) H
theorem xe_X7_held_84 {ls : xL} {st : List Value} {h h' : xH} {r : Option Value} (H : x_ev x_nm x_tf x_fn x_Pg x_EV 115 (some .int) r h' xb_X7_held_84 84 ls st h) : x_EV 115 84 ls st h r h' := x_Ev_to (M := xm_X7_held) (is := xb_X7_held_84) pg_X7_held (by rfl) H
theorem xe_X7_held_94 {ls : xL} {st : List Value} {h h' : xH} {r : Option Value} (H : x_ev x_nm x_tf x_fn x_Pg x_EV 115 (some .int) r h' xb_X7_held_94 94 ls st h) : x_EV 115 94 ls st h r h' := x_Ev_to (M := xm_X7_held) (is := xb_X7_held_94) pg_X7_held (by rfl) H
theorem xe_X7_held_103 {ls : xL} {st : List Value} {h h' : xH} {r : Option Value} (H : x_ev x_nm x_tf x_fn x_Pg x_EV 115 (some .int) r h' xb_X7_held_103 103 ls st h) : x_EV 115 103 ls st h r h' := x_Ev_to (M := xm_X7_held) (is := xb_X7_held_103) pg_X7_held (by rfl) H
theorem xe_X7_held_111 {ls : xL} {st : List Value} {h h' : xH} {r : Option Value} (H : x_ev x_nm x_tf x_fn x_Pg x_EV 115 (some .int) r h' xb_X7_held_111 111 ls st h) : x_EV 115 111 ls st h r h' := x_Ev_to (M := xm_X7_held) (is := xb_X7_held_111) pg_X7_held (by rfl) H
theorem xe_X7_held_112 {ls : xL} {st : List Value} {h h' : xH} {r : Option Value} (H : x_ev x_nm x_tf x_fn x_Pg x_EV 115 (some .int) r h' xb_X7_held_112 112 ls st h) : x_EV 115 112 ls st h r h' := x_Ev_to (M := xm_X7_held) (is := xb_X7_held_112) pg_X7_held (by rfl) H
theorem xe_X7_held_121 {ls : xL} {st : List Value} {h h' : xH} {r : Option Value} (H : x_ev x_nm x_tf x_fn x_Pg x_EV 115 (some .int) r h' xb_X7_held_121 121 ls st h) : x_EV 115 121 ls st h r h' := x_Ev_to (M := xm_X7_held) (is := xb_X7_held_121) pg_X7_held (by rfl) H
theorem xe_X7_held_129 {ls : xL} {st : List Value} {h h' : xH} {r : Option Value} (H : x_ev x_nm x_tf x_fn x_Pg x_EV 115 (some .int) r h' xb_X7_held_129 129 ls st h) : x_EV 115 129 ls st h r h' := x_Ev_to (M := xm_X7_held) (is := xb_X7_held_129) pg_X7_held (by rfl) H
theorem xe_X7_held_130 {ls : xL} {st : List Value} {h h' : xH} {r : Option Value} (H : x_ev x_nm x_tf x_fn x_Pg x_EV 115 (some .int) r h' xb_X7_held_130 130 ls st h) : x_EV 115 130 ls st h r h' := x_Ev_to (M := xm_X7_held) (is := xb_X7_held_130) pg_X7_held (by rfl) H
theorem xK_X7_held {o : Nat} {x1 : Int32} {h h1 : xH} {r : Option Value} {fs : List Value} (ho : h[o]? = some (.inr (6, fs))) (H : x_EV 115 0 [some (.ref o), some (.int x1), none, none] [] h r h1) : xK 115 [.ref o, .int x1] h r h1 := x_calX_v pg_X7_held rfl rfl (Nat.le_of_ble_eq_true rfl) rfl ho H
theorem pg_X8_levelOf : x_Pg[116]? = some xm_X8_levelOf := by
  unfold x_Pg
  rfl
theorem xe_X8_levelOf_0 {ls : xL} {st : List Value} {h h' : xH} {r : Option Value} (H : x_ev x_nm x_tf x_fn x_Pg x_EV 116 (some .int) r h' xb_X8_levelOf_0 0 ls st h) : x_EV 116 0 ls st h r h' := x_Ev_to (M := xm_X8_levelOf) (is := xb_X8_levelOf_0) pg_X8_levelOf (by rfl) H
theorem xe_X8_levelOf_4 {ls : xL} {st : List Value} {h h' : xH} {r : Option Value} (H : x_ev x_nm x_tf x_fn x_Pg x_EV 116 (some .int) r h' xb_X8_levelOf_4 4 ls st h) : x_EV 116 4 ls st h r h' := x_Ev_to (M := xm_X8_levelOf) (is := xb_X8_levelOf_4) pg_X8_levelOf (by rfl) H
theorem xe_X8_levelOf_26 {ls : xL} {st : List Value} {h h' : xH} {r : Option Value} (H : x_ev x_nm x_tf x_fn x_Pg x_EV 116 (some .int) r h' xb_X8_levelOf_26 26 ls st h) : x_EV 116 26 ls st h r h' := x_Ev_to (M := xm_X8_levelOf) (is := xb_X8_levelOf_26) pg_X8_levelOf (by rfl) H
theorem xK_X8_levelOf {o : Nat} {x1 : Int32} {h h1 : xH} {r : Option Value} {fs : List Value} (ho : h[o]? = some (.inr (7, fs))) (H : x_EV 116 0 [some (.ref o), some (.int x1), none, none] [] h r h1) : xK 116 [.ref o, .int x1] h r h1 := x_calX_v pg_X8_levelOf rfl rfl (Nat.le_of_ble_eq_true rfl) rfl ho H
theorem pg_X8_heldOf : x_Pg[117]? = some xm_X8_heldOf := by
  unfold x_Pg
  rfl
theorem xe_X8_heldOf_0 {ls : xL} {st : List Value} {h h' : xH} {r : Option Value} (H : x_ev x_nm x_tf x_fn x_Pg x_EV 117 (some .int) r h' xb_X8_heldOf_0 0 ls st h) : x_EV 117 0 ls st h r h' := x_Ev_to (M := xm_X8_heldOf) (is := xb_X8_heldOf_0) pg_X8_heldOf (by rfl) H
theorem xe_X8_heldOf_21 {ls : xL} {st : List Value} {h h' : xH} {r : Option Value} (H : x_ev x_nm x_tf x_fn x_Pg x_EV 117 (some .int) r h' xb_X8_heldOf_21 21 ls st h) : x_EV 117 21 ls st h r h' := x_Ev_to (M := xm_X8_heldOf) (is := xb_X8_heldOf_21) pg_X8_heldOf (by rfl) H
theorem xe_X8_heldOf_42 {ls : xL} {st : List Value} {h h' : xH} {r : Option Value} (H : x_ev x_nm x_tf x_fn x_Pg x_EV 117 (some .int) r h' xb_X8_heldOf_42 42 ls st h) : x_EV 117 42 ls st h r h' := x_Ev_to (M := xm_X8_heldOf) (is := xb_X8_heldOf_42) pg_X8_heldOf (by rfl) H
theorem xe_X8_heldOf_43 {ls : xL} {st : List Value} {h h' : xH} {r : Option Value} (H : x_ev x_nm x_tf x_fn x_Pg x_EV 117 (some .int) r h' xb_X8_heldOf_43 43 ls st h) : x_EV 117 43 ls st h r h' := x_Ev_to (M := xm_X8_heldOf) (is := xb_X8_heldOf_43) pg_X8_heldOf (by rfl) H
theorem xe_X8_heldOf_64 {ls : xL} {st : List Value} {h h' : xH} {r : Option Value} (H : x_ev x_nm x_tf x_fn x_Pg x_EV 117 (some .int) r h' xb_X8_heldOf_64 64 ls st h) : x_EV 117 64 ls st h r h' := x_Ev_to (M := xm_X8_heldOf) (is := xb_X8_heldOf_64) pg_X8_heldOf (by rfl) H
theorem xe_X8_heldOf_66 {ls : xL} {st : List Value} {h h' : xH} {r : Option Value} (H : x_ev x_nm x_tf x_fn x_Pg x_EV 117 (some .int) r h' xb_X8_heldOf_66 66 ls st h) : x_EV 117 66 ls st h r h' := x_Ev_to (M := xm_X8_heldOf) (is := xb_X8_heldOf_66) pg_X8_heldOf (by rfl) H
theorem xe_X8_heldOf_74 {ls : xL} {st : List Value} {h h' : xH} {r : Option Value} (H : x_ev x_nm x_tf x_fn x_Pg x_EV 117 (some .int) r h' xb_X8_heldOf_74 74 ls st h) : x_EV 117 74 ls st h r h' := x_Ev_to (M := xm_X8_heldOf) (is := xb_X8_heldOf_74) pg_X8_heldOf (by rfl) H
theorem xe_X8_heldOf_83 {ls : xL} {st : List Value} {h h' : xH} {r : Option Value} (H : x_ev x_nm x_tf x_fn x_Pg x_EV 117 (some .int) r h' xb_X8_heldOf_83 83 ls st h) : x_EV 117 83 ls st h r h' := x_Ev_to (M := xm_X8_heldOf) (is := xb_X8_heldOf_83) pg_X8_heldOf (by rfl) H
theorem xe_X8_heldOf_85 {ls : xL} {st : List Value} {h h' : xH} {r : Option Value} (H : x_ev x_nm x_tf x_fn x_Pg x_EV 117 (some .int) r h' xb_X8_heldOf_85 85 ls st h) : x_EV 117 85 ls st h r h' := x_Ev_to (M := xm_X8_heldOf) (is := xb_X8_heldOf_85) pg_X8_heldOf (by rfl) H
theorem xK_X8_heldOf {o : Nat} {x1 : Int32} {h h1 : xH} {r : Option Value} {fs : List Value} (ho : h[o]? = some (.inr (7, fs))) (H : x_EV 117 0 [some (.ref o), some (.int x1), none, none, none, none] [] h r h1) : xK 117 [.ref o, .int x1] h r h1 := x_calX_v pg_X8_heldOf rfl rfl (Nat.le_of_ble_eq_true rfl) rfl ho H
theorem pg_X8_aboutHeld : x_Pg[118]? = some xm_X8_aboutHeld := by
  unfold x_Pg
  rfl
theorem xe_X8_aboutHeld_0 {ls : xL} {st : List Value} {h h' : xH} {r : Option Value} (H : x_ev x_nm x_tf x_fn x_Pg x_EV 118 (some .int) r h' xb_X8_aboutHeld_0 0 ls st h) : x_EV 118 0 ls st h r h' := x_Ev_to (M := xm_X8_aboutHeld) (is := xb_X8_aboutHeld_0) pg_X8_aboutHeld (by rfl) H
theorem xe_X8_aboutHeld_36 {ls : xL} {st : List Value} {h h' : xH} {r : Option Value} (H : x_ev x_nm x_tf x_fn x_Pg x_EV 118 (some .int) r h' xb_X8_aboutHeld_36 36 ls st h) : x_EV 118 36 ls st h r h' := x_Ev_to (M := xm_X8_aboutHeld) (is := xb_X8_aboutHeld_36) pg_X8_aboutHeld (by rfl) H
theorem xe_X8_aboutHeld_44 {ls : xL} {st : List Value} {h h' : xH} {r : Option Value} (H : x_ev x_nm x_tf x_fn x_Pg x_EV 118 (some .int) r h' xb_X8_aboutHeld_44 44 ls st h) : x_EV 118 44 ls st h r h' := x_Ev_to (M := xm_X8_aboutHeld) (is := xb_X8_aboutHeld_44) pg_X8_aboutHeld (by rfl) H
theorem xe_X8_aboutHeld_55 {ls : xL} {st : List Value} {h h' : xH} {r : Option Value} (H : x_ev x_nm x_tf x_fn x_Pg x_EV 118 (some .int) r h' xb_X8_aboutHeld_55 55 ls st h) : x_EV 118 55 ls st h r h' := x_Ev_to (M := xm_X8_aboutHeld) (is := xb_X8_aboutHeld_55) pg_X8_aboutHeld (by rfl) H
theorem xe_X8_aboutHeld_56 {ls : xL} {st : List Value} {h h' : xH} {r : Option Value} (H : x_ev x_nm x_tf x_fn x_Pg x_EV 118 (some .int) r h' xb_X8_aboutHeld_56 56 ls st h) : x_EV 118 56 ls st h r h' := x_Ev_to (M := xm_X8_aboutHeld) (is := xb_X8_aboutHeld_56) pg_X8_aboutHeld (by rfl) H
theorem xe_X8_aboutHeld_57 {ls : xL} {st : List Value} {h h' : xH} {r : Option Value} (H : x_ev x_nm x_tf x_fn x_Pg x_EV 118 (some .int) r h' xb_X8_aboutHeld_57 57 ls st h) : x_EV 118 57 ls st h r h' := x_Ev_to (M := xm_X8_aboutHeld) (is := xb_X8_aboutHeld_57) pg_X8_aboutHeld (by rfl) H
theorem xe_X8_aboutHeld_63 {ls : xL} {st : List Value} {h h' : xH} {r : Option Value} (H : x_ev x_nm x_tf x_fn x_Pg x_EV 118 (some .int) r h' xb_X8_aboutHeld_63 63 ls st h) : x_EV 118 63 ls st h r h' := x_Ev_to (M := xm_X8_aboutHeld) (is := xb_X8_aboutHeld_63) pg_X8_aboutHeld (by rfl) H
theorem xe_X8_aboutHeld_69 {ls : xL} {st : List Value} {h h' : xH} {r : Option Value} (H : x_ev x_nm x_tf x_fn x_Pg x_EV 118 (some .int) r h' xb_X8_aboutHeld_69 69 ls st h) : x_EV 118 69 ls st h r h' := x_Ev_to (M := xm_X8_aboutHeld) (is := xb_X8_aboutHeld_69) pg_X8_aboutHeld (by rfl) H
theorem xe_X8_aboutHeld_104 {ls : xL} {st : List Value} {h h' : xH} {r : Option Value} (H : x_ev x_nm x_tf x_fn x_Pg x_EV 118 (some .int) r h' xb_X8_aboutHeld_104 104 ls st h) : x_EV 118 104 ls st h r h' := x_Ev_to (M := xm_X8_aboutHeld) (is := xb_X8_aboutHeld_104) pg_X8_aboutHeld (by rfl) H
theorem xe_X8_aboutHeld_105 {ls : xL} {st : List Value} {h h' : xH} {r : Option Value} (H : x_ev x_nm x_tf x_fn x_Pg x_EV 118 (some .int) r h' xb_X8_aboutHeld_105 105 ls st h) : x_EV 118 105 ls st h r h' := x_Ev_to (M := xm_X8_aboutHeld) (is := xb_X8_aboutHeld_105) pg_X8_aboutHeld (by rfl) H
theorem xe_X8_aboutHeld_106 {ls : xL} {st : List Value} {h h' : xH} {r : Option Value} (H : x_ev x_nm x_tf x_fn x_Pg x_EV 118 (some .int) r h' xb_X8_aboutHeld_106 106 ls st h) : x_EV 118 106 ls st h r h' := x_Ev_to (M := xm_X8_aboutHeld) (is := xb_X8_aboutHeld_106) pg_X8_aboutHeld (by rfl) H
theorem xe_X8_aboutHeld_128 {ls : xL} {st : List Value} {h h' : xH} {r : Option Value} (H : x_ev x_nm x_tf x_fn x_Pg x_EV 118 (some .int) r h' xb_X8_aboutHeld_128 128 ls st h) : x_EV 118 128 ls st h r h' := x_Ev_to (M := xm_X8_aboutHeld) (is := xb_X8_aboutHeld_128) pg_X8_aboutHeld (by rfl) H
theorem xe_X8_aboutHeld_129 {ls : xL} {st : List Value} {h h' : xH} {r : Option Value} (H : x_ev x_nm x_tf x_fn x_Pg x_EV 118 (some .int) r h' xb_X8_aboutHeld_129 129 ls st h) : x_EV 118 129 ls st h r h' := x_Ev_to (M := xm_X8_aboutHeld) (is := xb_X8_aboutHeld_129) pg_X8_aboutHeld (by rfl) H
theorem xK_X8_aboutHeld {o : Nat} {x1 : Int32} {h h1 : xH} {r : Option Value} {fs : List Value} (ho : h[o]? = some (.inr (7, fs))) (H : x_EV 118 0 [some (.ref o), some (.int x1)] [] h r h1) : xK 118 [.ref o, .int x1] h r h1 := x_calX_v pg_X8_aboutHeld rfl rfl (Nat.le_of_ble_eq_true rfl) rfl ho H
theorem pg_X8_held : x_Pg[119]? = some xm_X8_held := by
  unfold x_Pg
  rfl
theorem xe_X8_held_0 {ls : xL} {st : List Value} {h h' : xH} {r : Option Value} (H : x_ev x_nm x_tf x_fn x_Pg x_EV 119 (some .int) r h' xb_X8_held_0 0 ls st h) : x_EV 119 0 ls st h r h' := x_Ev_to (M := xm_X8_held) (is := xb_X8_held_0) pg_X8_held (by rfl) H
theorem xe_X8_held_18 {ls : xL} {st : List Value} {h h' : xH} {r : Option Value} (H : x_ev x_nm x_tf x_fn x_Pg x_EV 119 (some .int) r h' xb_X8_held_18 18 ls st h) : x_EV 119 18 ls st h r h' := x_Ev_to (M := xm_X8_held) (is := xb_X8_held_18) pg_X8_held (by rfl) H
theorem xe_X8_held_22 {ls : xL} {st : List Value} {h h' : xH} {r : Option Value} (H : x_ev x_nm x_tf x_fn x_Pg x_EV 119 (some .int) r h' xb_X8_held_22 22 ls st h) : x_EV 119 22 ls st h r h' := x_Ev_to (M := xm_X8_held) (is := xb_X8_held_22) pg_X8_held (by rfl) H
theorem xK_X8_held {o : Nat} {x1 : Int32} {h h1 : xH} {r : Option Value} {fs : List Value} (ho : h[o]? = some (.inr (7, fs))) (H : x_EV 119 0 [some (.ref o), some (.int x1)] [] h r h1) : xK 119 [.ref o, .int x1] h r h1 := x_calX_v pg_X8_held rfl rfl (Nat.le_of_ble_eq_true rfl) rfl ho H
theorem pg_X7_best : x_Pg[120]? = some xm_X7_best := by
  unfold x_Pg
  rfl
theorem xe_X7_best_0 {ls : xL} {st : List Value} {h h' : xH} {r : Option Value} (H : x_ev x_nm x_tf x_fn x_Pg x_EV 120 (some .int) r h' xb_X7_best_0 0 ls st h) : x_EV 120 0 ls st h r h' := x_Ev_to (M := xm_X7_best) (is := xb_X7_best_0) pg_X7_best (by rfl) H
theorem xe_X7_best_27 {ls : xL} {st : List Value} {h h' : xH} {r : Option Value} (H : x_ev x_nm x_tf x_fn x_Pg x_EV 120 (some .int) r h' xb_X7_best_27 27 ls st h) : x_EV 120 27 ls st h r h' := x_Ev_to (M := xm_X7_best) (is := xb_X7_best_27) pg_X7_best (by rfl) H
theorem xe_X7_best_34 {ls : xL} {st : List Value} {h h' : xH} {r : Option Value} (H : x_ev x_nm x_tf x_fn x_Pg x_EV 120 (some .int) r h' xb_X7_best_34 34 ls st h) : x_EV 120 34 ls st h r h' := x_Ev_to (M := xm_X7_best) (is := xb_X7_best_34) pg_X7_best (by rfl) H
theorem xe_X7_best_58 {ls : xL} {st : List Value} {h h' : xH} {r : Option Value} (H : x_ev x_nm x_tf x_fn x_Pg x_EV 120 (some .int) r h' xb_X7_best_58 58 ls st h) : x_EV 120 58 ls st h r h' := x_Ev_to (M := xm_X7_best) (is := xb_X7_best_58) pg_X7_best (by rfl) H
theorem xe_X7_best_70 {ls : xL} {st : List Value} {h h' : xH} {r : Option Value} (H : x_ev x_nm x_tf x_fn x_Pg x_EV 120 (some .int) r h' xb_X7_best_70 70 ls st h) : x_EV 120 70 ls st h r h' := x_Ev_to (M := xm_X7_best) (is := xb_X7_best_70) pg_X7_best (by rfl) H
theorem xe_X7_best_90 {ls : xL} {st : List Value} {h h' : xH} {r : Option Value} (H : x_ev x_nm x_tf x_fn x_Pg x_EV 120 (some .int) r h' xb_X7_best_90 90 ls st h) : x_EV 120 90 ls st h r h' := x_Ev_to (M := xm_X7_best) (is := xb_X7_best_90) pg_X7_best (by rfl) H
theorem xe_X7_best_95 {ls : xL} {st : List Value} {h h' : xH} {r : Option Value} (H : x_ev x_nm x_tf x_fn x_Pg x_EV 120 (some .int) r h' xb_X7_best_95 95 ls st h) : x_EV 120 95 ls st h r h' := x_Ev_to (M := xm_X7_best) (is := xb_X7_best_95) pg_X7_best (by rfl) H
theorem xK_X7_best {o : Nat} {x1 : Int32} {x2 : Int32} {h h1 : xH} {r : Option Value} {fs : List Value} (ho : h[o]? = some (.inr (6, fs))) (H : x_EV 120 0 [some (.ref o), some (.int x1), some (.int x2), none] [] h r h1) : xK 120 [.ref o, .int x1, .int x2] h r h1 := x_calX_v pg_X7_best rfl rfl (Nat.le_of_ble_eq_true rfl) rfl ho H
theorem pg_X8_digitOf : x_Pg[121]? = some xm_X8_digitOf := by
  unfold x_Pg
  rfl
theorem xe_X8_digitOf_0 {ls : xL} {st : List Value} {h h' : xH} {r : Option Value} (H : x_ev x_nm x_tf x_fn x_Pg x_EV 121 (some .int) r h' xb_X8_digitOf_0 0 ls st h) : x_EV 121 0 ls st h r h' := x_Ev_to (M := xm_X8_digitOf) (is := xb_X8_digitOf_0) pg_X8_digitOf (by rfl) H
theorem xe_X8_digitOf_6 {ls : xL} {st : List Value} {h h' : xH} {r : Option Value} (H : x_ev x_nm x_tf x_fn x_Pg x_EV 121 (some .int) r h' xb_X8_digitOf_6 6 ls st h) : x_EV 121 6 ls st h r h' := x_Ev_to (M := xm_X8_digitOf) (is := xb_X8_digitOf_6) pg_X8_digitOf (by rfl) H
theorem xe_X8_digitOf_25 {ls : xL} {st : List Value} {h h' : xH} {r : Option Value} (H : x_ev x_nm x_tf x_fn x_Pg x_EV 121 (some .int) r h' xb_X8_digitOf_25 25 ls st h) : x_EV 121 25 ls st h r h' := x_Ev_to (M := xm_X8_digitOf) (is := xb_X8_digitOf_25) pg_X8_digitOf (by rfl) H
theorem xK_X8_digitOf {o : Nat} {x1 : Int32} {x2 : Int32} {x3 : Int32} {h h1 : xH} {r : Option Value} {fs : List Value} (ho : h[o]? = some (.inr (7, fs))) (H : x_EV 121 0 [some (.ref o), some (.int x1), some (.int x2), some (.int x3), none, none] [] h r h1) : xK 121 [.ref o, .int x1, .int x2, .int x3] h r h1 := x_calX_v pg_X8_digitOf rfl rfl (Nat.le_of_ble_eq_true rfl) rfl ho H
theorem pg_X8_best : x_Pg[122]? = some xm_X8_best := by
  unfold x_Pg
  rfl
theorem xe_X8_best_0 {ls : xL} {st : List Value} {h h' : xH} {r : Option Value} (H : x_ev x_nm x_tf x_fn x_Pg x_EV 122 (some .int) r h' xb_X8_best_0 0 ls st h) : x_EV 122 0 ls st h r h' := x_Ev_to (M := xm_X8_best) (is := xb_X8_best_0) pg_X8_best (by rfl) H
theorem xe_X8_best_26 {ls : xL} {st : List Value} {h h' : xH} {r : Option Value} (H : x_ev x_nm x_tf x_fn x_Pg x_EV 122 (some .int) r h' xb_X8_best_26 26 ls st h) : x_EV 122 26 ls st h r h' := x_Ev_to (M := xm_X8_best) (is := xb_X8_best_26) pg_X8_best (by rfl) H
theorem xe_X8_best_31 {ls : xL} {st : List Value} {h h' : xH} {r : Option Value} (H : x_ev x_nm x_tf x_fn x_Pg x_EV 122 (some .int) r h' xb_X8_best_31 31 ls st h) : x_EV 122 31 ls st h r h' := x_Ev_to (M := xm_X8_best) (is := xb_X8_best_31) pg_X8_best (by rfl) H
theorem xe_X8_best_46 {ls : xL} {st : List Value} {h h' : xH} {r : Option Value} (H : x_ev x_nm x_tf x_fn x_Pg x_EV 122 (some .int) r h' xb_X8_best_46 46 ls st h) : x_EV 122 46 ls st h r h' := x_Ev_to (M := xm_X8_best) (is := xb_X8_best_46) pg_X8_best (by rfl) H
theorem xe_X8_best_57 {ls : xL} {st : List Value} {h h' : xH} {r : Option Value} (H : x_ev x_nm x_tf x_fn x_Pg x_EV 122 (some .int) r h' xb_X8_best_57 57 ls st h) : x_EV 122 57 ls st h r h' := x_Ev_to (M := xm_X8_best) (is := xb_X8_best_57) pg_X8_best (by rfl) H
theorem xe_X8_best_68 {ls : xL} {st : List Value} {h h' : xH} {r : Option Value} (H : x_ev x_nm x_tf x_fn x_Pg x_EV 122 (some .int) r h' xb_X8_best_68 68 ls st h) : x_EV 122 68 ls st h r h' := x_Ev_to (M := xm_X8_best) (is := xb_X8_best_68) pg_X8_best (by rfl) H
theorem xe_X8_best_72 {ls : xL} {st : List Value} {h h' : xH} {r : Option Value} (H : x_ev x_nm x_tf x_fn x_Pg x_EV 122 (some .int) r h' xb_X8_best_72 72 ls st h) : x_EV 122 72 ls st h r h' := x_Ev_to (M := xm_X8_best) (is := xb_X8_best_72) pg_X8_best (by rfl) H
theorem xe_X8_best_73 {ls : xL} {st : List Value} {h h' : xH} {r : Option Value} (H : x_ev x_nm x_tf x_fn x_Pg x_EV 122 (some .int) r h' xb_X8_best_73 73 ls st h) : x_EV 122 73 ls st h r h' := x_Ev_to (M := xm_X8_best) (is := xb_X8_best_73) pg_X8_best (by rfl) H
theorem xe_X8_best_97 {ls : xL} {st : List Value} {h h' : xH} {r : Option Value} (H : x_ev x_nm x_tf x_fn x_Pg x_EV 122 (some .int) r h' xb_X8_best_97 97 ls st h) : x_EV 122 97 ls st h r h' := x_Ev_to (M := xm_X8_best) (is := xb_X8_best_97) pg_X8_best (by rfl) H
theorem xe_X8_best_102 {ls : xL} {st : List Value} {h h' : xH} {r : Option Value} (H : x_ev x_nm x_tf x_fn x_Pg x_EV 122 (some .int) r h' xb_X8_best_102 102 ls st h) : x_EV 122 102 ls st h r h' := x_Ev_to (M := xm_X8_best) (is := xb_X8_best_102) pg_X8_best (by rfl) H
theorem xK_X8_best {o : Nat} {x1 : Int32} {x2 : Int32} {h h1 : xH} {r : Option Value} {fs : List Value} (ho : h[o]? = some (.inr (7, fs))) (H : x_EV 122 0 [some (.ref o), some (.int x1), some (.int x2), none, none] [] h r h1) : xK 122 [.ref o, .int x1, .int x2] h r h1 := x_calX_v pg_X8_best rfl rfl (Nat.le_of_ble_eq_true rfl) rfl ho H
theorem pg_X0_countOfAnalyses : x_Pg[123]? = some xm_X0_countOfAnalyses := by
  unfold x_Pg
  rfl
theorem xe_X0_countOfAnalyses_0 {ls : xL} {st : List Value} {h h' : xH} {r : Option Value} (H : x_ev x_nm x_tf x_fn x_Pg x_EV 123 (some .int) r h' xb_X0_countOfAnalyses_0 0 ls st h) : x_EV 123 0 ls st h r h' := x_Ev_to (M := xm_X0_countOfAnalyses) (is := xb_X0_countOfAnalyses_0) pg_X0_countOfAnalyses (by rfl) H
theorem xK_X0_countOfAnalyses {o : Nat}  {h h1 : xH} {r : Option Value} {fs : List Value} (ho : h[o]? = some (.inr (0, fs))) (H : x_EV 123 0 [some (.ref o)] [] h r h1) : xK 123 [.ref o] h r h1 := x_calX_v pg_X0_countOfAnalyses rfl rfl (Nat.le_of_ble_eq_true rfl) rfl ho H
theorem pg_X7_ways : x_Pg[124]? = some xm_X7_ways := by
  unfold x_Pg
  rfl
theorem xe_X7_ways_0 {ls : xL} {st : List Value} {h h' : xH} {r : Option Value} (H : x_ev x_nm x_tf x_fn x_Pg x_EV 124 (some .int) r h' xb_X7_ways_0 0 ls st h) : x_EV 124 0 ls st h r h' := x_Ev_to (M := xm_X7_ways) (is := xb_X7_ways_0) pg_X7_ways (by rfl) H
theorem xK_X7_ways {o : Nat}  {h h1 : xH} {r : Option Value} {fs : List Value} (ho : h[o]? = some (.inr (6, fs))) (H : x_EV 124 0 [some (.ref o)] [] h r h1) : xK 124 [.ref o] h r h1 := x_calX_v pg_X7_ways rfl rfl (Nat.le_of_ble_eq_true rfl) rfl ho H
theorem pg_X8_ways : x_Pg[125]? = some xm_X8_ways := by
  unfold x_Pg
  rfl
theorem xe_X8_ways_0 {ls : xL} {st : List Value} {h h' : xH} {r : Option Value} (H : x_ev x_nm x_tf x_fn x_Pg x_EV 125 (some .int) r h' xb_X8_ways_0 0 ls st h) : x_EV 125 0 ls st h r h' := x_Ev_to (M := xm_X8_ways) (is := xb_X8_ways_0) pg_X8_ways (by rfl) H
theorem xe_X8_ways_27 {ls : xL} {st : List Value} {h h' : xH} {r : Option Value} (H : x_ev x_nm x_tf x_fn x_Pg x_EV 125 (some .int) r h' xb_X8_ways_27 27 ls st h) : x_EV 125 27 ls st h r h' := x_Ev_to (M := xm_X8_ways) (is := xb_X8_ways_27) pg_X8_ways (by rfl) H
theorem xK_X8_ways {o : Nat}  {h h1 : xH} {r : Option Value} {fs : List Value} (ho : h[o]? = some (.inr (7, fs))) (H : x_EV 125 0 [some (.ref o)] [] h r h1) : xK 125 [.ref o] h r h1 := x_calX_v pg_X8_ways rfl rfl (Nat.le_of_ble_eq_true rfl) rfl ho H
theorem pg_X6_sortIn : x_Pg[126]? = some xm_X6_sortIn := by
  unfold x_Pg
  rfl
theorem xe_X6_sortIn_0 {ls : xL} {st : List Value} {h h' : xH} {r : Option Value} (H : x_ev x_nm x_tf x_fn x_Pg x_EV 126 (some .int) r h' xb_X6_sortIn_0 0 ls st h) : x_EV 126 0 ls st h r h' := x_Ev_to (M := xm_X6_sortIn) (is := xb_X6_sortIn_0) pg_X6_sortIn (by rfl) H
theorem xK_X6_sortIn {o : Nat} {x1 : Int32} {x2 : Int32} {h h1 : xH} {r : Option Value} {fs : List Value} (ho : h[o]? = some (.inr (5, fs))) (H : x_EV 126 0 [some (.ref o), some (.int x1), some (.int x2)] [] h r h1) : xK 126 [.ref o, .int x1, .int x2] h r h1 := x_calX_v pg_X6_sortIn rfl rfl (Nat.le_of_ble_eq_true rfl) rfl ho H
theorem pg_X6_isHangingAllowed : x_Pg[127]? = some xm_X6_isHangingAllowed := by
  unfold x_Pg
  rfl
theorem xe_X6_isHangingAllowed_0 {ls : xL} {st : List Value} {h h' : xH} {r : Option Value} (H : x_ev x_nm x_tf x_fn x_Pg x_EV 127 (some .boolean) r h' xb_X6_isHangingAllowed_0 0 ls st h) : x_EV 127 0 ls st h r h' := x_Ev_to (M := xm_X6_isHangingAllowed) (is := xb_X6_isHangingAllowed_0) pg_X6_isHangingAllowed (by rfl) H
theorem xe_X6_isHangingAllowed_22 {ls : xL} {st : List Value} {h h' : xH} {r : Option Value} (H : x_ev x_nm x_tf x_fn x_Pg x_EV 127 (some .boolean) r h' xb_X6_isHangingAllowed_22 22 ls st h) : x_EV 127 22 ls st h r h' := x_Ev_to (M := xm_X6_isHangingAllowed) (is := xb_X6_isHangingAllowed_22) pg_X6_isHangingAllowed (by rfl) H
theorem xe_X6_isHangingAllowed_44 {ls : xL} {st : List Value} {h h' : xH} {r : Option Value} (H : x_ev x_nm x_tf x_fn x_Pg x_EV 127 (some .boolean) r h' xb_X6_isHangingAllowed_44 44 ls st h) : x_EV 127 44 ls st h r h' := x_Ev_to (M := xm_X6_isHangingAllowed) (is := xb_X6_isHangingAllowed_44) pg_X6_isHangingAllowed (by rfl) H
theorem xe_X6_isHangingAllowed_45 {ls : xL} {st : List Value} {h h' : xH} {r : Option Value} (H : x_ev x_nm x_tf x_fn x_Pg x_EV 127 (some .boolean) r h' xb_X6_isHangingAllowed_45 45 ls st h) : x_EV 127 45 ls st h r h' := x_Ev_to (M := xm_X6_isHangingAllowed) (is := xb_X6_isHangingAllowed_45) pg_X6_isHangingAllowed (by rfl) H
theorem xe_X6_isHangingAllowed_46 {ls : xL} {st : List Value} {h h' : xH} {r : Option Value} (H : x_ev x_nm x_tf x_fn x_Pg x_EV 127 (some .boolean) r h' xb_X6_isHangingAllowed_46 46 ls st h) : x_EV 127 46 ls st h r h' := x_Ev_to (M := xm_X6_isHangingAllowed) (is := xb_X6_isHangingAllowed_46) pg_X6_isHangingAllowed (by rfl) H
theorem xe_X6_isHangingAllowed_77 {ls : xL} {st : List Value} {h h' : xH} {r : Option Value} (H : x_ev x_nm x_tf x_fn x_Pg x_EV 127 (some .boolean) r h' xb_X6_isHangingAllowed_77 77 ls st h) : x_EV 127 77 ls st h r h' := x_Ev_to (M := xm_X6_isHangingAllowed) (is := xb_X6_isHangingAllowed_77) pg_X6_isHangingAllowed (by rfl) H
theorem xe_X6_isHangingAllowed_78 {ls : xL} {st : List Value} {h h' : xH} {r : Option Value} (H : x_ev x_nm x_tf x_fn x_Pg x_EV 127 (some .boolean) r h' xb_X6_isHangingAllowed_78 78 ls st h) : x_EV 127 78 ls st h r h' := x_Ev_to (M := xm_X6_isHangingAllowed) (is := xb_X6_isHangingAllowed_78) pg_X6_isHangingAllowed (by rfl) H
theorem xe_X6_isHangingAllowed_89 {ls : xL} {st : List Value} {h h' : xH} {r : Option Value} (H : x_ev x_nm x_tf x_fn x_Pg x_EV 127 (some .boolean) r h' xb_X6_isHangingAllowed_89 89 ls st h) : x_EV 127 89 ls st h r h' := x_Ev_to (M := xm_X6_isHangingAllowed) (is := xb_X6_isHangingAllowed_89) pg_X6_isHangingAllowed (by rfl) H
theorem xe_X6_isHangingAllowed_90 {ls : xL} {st : List Value} {h h' : xH} {r : Option Value} (H : x_ev x_nm x_tf x_fn x_Pg x_EV 127 (some .boolean) r h' xb_X6_isHangingAllowed_90 90 ls st h) : x_EV 127 90 ls st h r h' := x_Ev_to (M := xm_X6_isHangingAllowed) (is := xb_X6_isHangingAllowed_90) pg_X6_isHangingAllowed (by rfl) H
theorem xK_X6_isHangingAllowed {o : Nat} {x1 : Int32} {x2 : Int32} {h h1 : xH} {r : Option Value} {fs : List Value} (ho : h[o]? = some (.inr (5, fs))) (H : x_EV 127 0 [some (.ref o), some (.int x1), some (.int x2), none, none, none] [] h r h1) : xK 127 [.ref o, .int x1, .int x2] h r h1 := x_calX_v pg_X6_isHangingAllowed rfl rfl (Nat.le_of_ble_eq_true rfl) rfl ho H
theorem pg_X6_isHeldStillAllowed : x_Pg[128]? = some xm_X6_isHeldStillAllowed := by
  unfold x_Pg
  rfl
theorem xe_X6_isHeldStillAllowed_0 {ls : xL} {st : List Value} {h h' : xH} {r : Option Value} (H : x_ev x_nm x_tf x_fn x_Pg x_EV 128 (some .boolean) r h' xb_X6_isHeldStillAllowed_0 0 ls st h) : x_EV 128 0 ls st h r h' := x_Ev_to (M := xm_X6_isHeldStillAllowed) (is := xb_X6_isHeldStillAllowed_0) pg_X6_isHeldStillAllowed (by rfl) H
theorem xe_X6_isHeldStillAllowed_15 {ls : xL} {st : List Value} {h h' : xH} {r : Option Value} (H : x_ev x_nm x_tf x_fn x_Pg x_EV 128 (some .boolean) r h' xb_X6_isHeldStillAllowed_15 15 ls st h) : x_EV 128 15 ls st h r h' := x_Ev_to (M := xm_X6_isHeldStillAllowed) (is := xb_X6_isHeldStillAllowed_15) pg_X6_isHeldStillAllowed (by rfl) H
theorem xe_X6_isHeldStillAllowed_17 {ls : xL} {st : List Value} {h h' : xH} {r : Option Value} (H : x_ev x_nm x_tf x_fn x_Pg x_EV 128 (some .boolean) r h' xb_X6_isHeldStillAllowed_17 17 ls st h) : x_EV 128 17 ls st h r h' := x_Ev_to (M := xm_X6_isHeldStillAllowed) (is := xb_X6_isHeldStillAllowed_17) pg_X6_isHeldStillAllowed (by rfl) H
theorem xe_X6_isHeldStillAllowed_39 {ls : xL} {st : List Value} {h h' : xH} {r : Option Value} (H : x_ev x_nm x_tf x_fn x_Pg x_EV 128 (some .boolean) r h' xb_X6_isHeldStillAllowed_39 39 ls st h) : x_EV 128 39 ls st h r h' := x_Ev_to (M := xm_X6_isHeldStillAllowed) (is := xb_X6_isHeldStillAllowed_39) pg_X6_isHeldStillAllowed (by rfl) H
theorem xe_X6_isHeldStillAllowed_45 {ls : xL} {st : List Value} {h h' : xH} {r : Option Value} (H : x_ev x_nm x_tf x_fn x_Pg x_EV 128 (some .boolean) r h' xb_X6_isHeldStillAllowed_45 45 ls st h) : x_EV 128 45 ls st h r h' := x_Ev_to (M := xm_X6_isHeldStillAllowed) (is := xb_X6_isHeldStillAllowed_45) pg_X6_isHeldStillAllowed (by rfl) H
theorem xK_X6_isHeldStillAllowed {o : Nat}  {h h1 : xH} {r : Option Value} {fs : List Value} (ho : h[o]? = some (.inr (5, fs))) (H : x_EV 128 0 [some (.ref o), none, none] [] h r h1) : xK 128 [.ref o] h r h1 := x_calX_v pg_X6_isHeldStillAllowed rfl rfl (Nat.le_of_ble_eq_true rfl) rfl ho H
theorem pg_X7_sound : x_Pg[129]? = some xm_X7_sound := by
  unfold x_Pg
  rfl
theorem xe_X7_sound_0 {ls : xL} {st : List Value} {h h' : xH} {r : Option Value} (H : x_ev x_nm x_tf x_fn x_Pg x_EV 129 (some .int) r h' xb_X7_sound_0 0 ls st h) : x_EV 129 0 ls st h r h' := x_Ev_to (M := xm_X7_sound) (is := xb_X7_sound_0) pg_X7_sound (by rfl) H
theorem xe_X7_sound_14 {ls : xL} {st : List Value} {h h' : xH} {r : Option Value} (H : x_ev x_nm x_tf x_fn x_Pg x_EV 129 (some .int) r h' xb_X7_sound_14 14 ls st h) : x_EV 129 14 ls st h r h' := x_Ev_to (M := xm_X7_sound) (is := xb_X7_sound_14) pg_X7_sound (by rfl) H
theorem xe_X7_sound_15 {ls : xL} {st : List Value} {h h' : xH} {r : Option Value} (H : x_ev x_nm x_tf x_fn x_Pg x_EV 129 (some .int) r h' xb_X7_sound_15 15 ls st h) : x_EV 129 15 ls st h r h' := x_Ev_to (M := xm_X7_sound) (is := xb_X7_sound_15) pg_X7_sound (by rfl) H
theorem xK_X7_sound {o : Nat}  {h h1 : xH} {r : Option Value} {fs : List Value} (ho : h[o]? = some (.inr (6, fs))) (H : x_EV 129 0 [some (.ref o)] [] h r h1) : xK 129 [.ref o] h r h1 := x_calX_v pg_X7_sound rfl rfl (Nat.le_of_ble_eq_true rfl) rfl ho H
theorem pg_X8_soundOf : x_Pg[130]? = some xm_X8_soundOf := by
  unfold x_Pg
  rfl
theorem xe_X8_soundOf_0 {ls : xL} {st : List Value} {h h' : xH} {r : Option Value} (H : x_ev x_nm x_tf x_fn x_Pg x_EV 130 (some .int) r h' xb_X8_soundOf_0 0 ls st h) : x_EV 130 0 ls st h r h' := x_Ev_to (M := xm_X8_soundOf) (is := xb_X8_soundOf_0) pg_X8_soundOf (by rfl) H
theorem xe_X8_soundOf_18 {ls : xL} {st : List Value} {h h' : xH} {r : Option Value} (H : x_ev x_nm x_tf x_fn x_Pg x_EV 130 (some .int) r h' xb_X8_soundOf_18 18 ls st h) : x_EV 130 18 ls st h r h' := x_Ev_to (M := xm_X8_soundOf) (is := xb_X8_soundOf_18) pg_X8_soundOf (by rfl) H
theorem xe_X8_soundOf_25 {ls : xL} {st : List Value} {h h' : xH} {r : Option Value} (H : x_ev x_nm x_tf x_fn x_Pg x_EV 130 (some .int) r h' xb_X8_soundOf_25 25 ls st h) : x_EV 130 25 ls st h r h' := x_Ev_to (M := xm_X8_soundOf) (is := xb_X8_soundOf_25) pg_X8_soundOf (by rfl) H
theorem xe_X8_soundOf_59 {ls : xL} {st : List Value} {h h' : xH} {r : Option Value} (H : x_ev x_nm x_tf x_fn x_Pg x_EV 130 (some .int) r h' xb_X8_soundOf_59 59 ls st h) : x_EV 130 59 ls st h r h' := x_Ev_to (M := xm_X8_soundOf) (is := xb_X8_soundOf_59) pg_X8_soundOf (by rfl) H
theorem xe_X8_soundOf_71 {ls : xL} {st : List Value} {h h' : xH} {r : Option Value} (H : x_ev x_nm x_tf x_fn x_Pg x_EV 130 (some .int) r h' xb_X8_soundOf_71 71 ls st h) : x_EV 130 71 ls st h r h' := x_Ev_to (M := xm_X8_soundOf) (is := xb_X8_soundOf_71) pg_X8_soundOf (by rfl) H
theorem xe_X8_soundOf_72 {ls : xL} {st : List Value} {h h' : xH} {r : Option Value} (H : x_ev x_nm x_tf x_fn x_Pg x_EV 130 (some .int) r h' xb_X8_soundOf_72 72 ls st h) : x_EV 130 72 ls st h r h' := x_Ev_to (M := xm_X8_soundOf) (is := xb_X8_soundOf_72) pg_X8_soundOf (by rfl) H
theorem xK_X8_soundOf {o : Nat}  {h h1 : xH} {r : Option Value} {fs : List Value} (ho : h[o]? = some (.inr (7, fs))) (H : x_EV 130 0 [some (.ref o), none, none] [] h r h1) : xK 130 [.ref o] h r h1 := x_calX_v pg_X8_soundOf rfl rfl (Nat.le_of_ble_eq_true rfl) rfl ho H
theorem pg_X8_sound : x_Pg[131]? = some xm_X8_sound := by
  unfold x_Pg
  rfl
theorem xe_X8_sound_0 {ls : xL} {st : List Value} {h h' : xH} {r : Option Value} (H : x_ev x_nm x_tf x_fn x_Pg x_EV 131 (some .int) r h' xb_X8_sound_0 0 ls st h) : x_EV 131 0 ls st h r h' := x_Ev_to (M := xm_X8_sound) (is := xb_X8_sound_0) pg_X8_sound (by rfl) H
theorem xK_X8_sound {o : Nat}  {h h1 : xH} {r : Option Value} {fs : List Value} (ho : h[o]? = some (.inr (7, fs))) (H : x_EV 131 0 [some (.ref o)] [] h r h1) : xK 131 [.ref o] h r h1 := x_calX_v pg_X8_sound rfl rfl (Nat.le_of_ble_eq_true rfl) rfl ho H
theorem pg_X3_append : x_Pg[132]? = some xm_X3_append := by
  unfold x_Pg
  rfl
theorem xe_X3_append_0 {ls : xL} {st : List Value} {h h' : xH} {r : Option Value} (H : x_ev x_nm x_tf x_fn x_Pg x_EV 132 none r h' xb_X3_append_0 0 ls st h) : x_EV 132 0 ls st h r h' := x_Ev_to (M := xm_X3_append) (is := xb_X3_append_0) pg_X3_append (by rfl) H
theorem xe_X3_append_29 {ls : xL} {st : List Value} {h h' : xH} {r : Option Value} (H : x_ev x_nm x_tf x_fn x_Pg x_EV 132 none r h' xb_X3_append_29 29 ls st h) : x_EV 132 29 ls st h r h' := x_Ev_to (M := xm_X3_append) (is := xb_X3_append_29) pg_X3_append (by rfl) H
theorem xK_X3_append {o : Nat} {x1 : Int32} {h h1 : xH} {r : Option Value} {fs : List Value} (ho : h[o]? = some (.inr (2, fs))) (H : x_EV 132 0 [some (.ref o), some (.int x1)] [] h r h1) : xK 132 [.ref o, .int x1] h r h1 := x_calX_v pg_X3_append rfl rfl (Nat.le_of_ble_eq_true rfl) rfl ho H
theorem pg_X7_type : x_Pg[133]? = some xm_X7_type := by
  unfold x_Pg
  rfl
theorem xe_X7_type_0 {ls : xL} {st : List Value} {h h' : xH} {r : Option Value} (H : x_ev x_nm x_tf x_fn x_Pg x_EV 133 (some .int) r h' xb_X7_type_0 0 ls st h) : x_EV 133 0 ls st h r h' := x_Ev_to (M := xm_X7_type) (is := xb_X7_type_0) pg_X7_type (by rfl) H
theorem xe_X7_type_10 {ls : xL} {st : List Value} {h h' : xH} {r : Option Value} (H : x_ev x_nm x_tf x_fn x_Pg x_EV 133 (some .int) r h' xb_X7_type_10 10 ls st h) : x_EV 133 10 ls st h r h' := x_Ev_to (M := xm_X7_type) (is := xb_X7_type_10) pg_X7_type (by rfl) H
theorem xe_X7_type_17 {ls : xL} {st : List Value} {h h' : xH} {r : Option Value} (H : x_ev x_nm x_tf x_fn x_Pg x_EV 133 (some .int) r h' xb_X7_type_17 17 ls st h) : x_EV 133 17 ls st h r h' := x_Ev_to (M := xm_X7_type) (is := xb_X7_type_17) pg_X7_type (by rfl) H
theorem xe_X7_type_36 {ls : xL} {st : List Value} {h h' : xH} {r : Option Value} (H : x_ev x_nm x_tf x_fn x_Pg x_EV 133 (some .int) r h' xb_X7_type_36 36 ls st h) : x_EV 133 36 ls st h r h' := x_Ev_to (M := xm_X7_type) (is := xb_X7_type_36) pg_X7_type (by rfl) H
theorem xK_X7_type {o : Nat} {x1 : Int32} {h h1 : xH} {r : Option Value} {fs : List Value} (ho : h[o]? = some (.inr (6, fs))) (H : x_EV 133 0 [some (.ref o), some (.int x1)] [] h r h1) : xK 133 [.ref o, .int x1] h r h1 := x_calX_v pg_X7_type rfl rfl (Nat.le_of_ble_eq_true rfl) rfl ho H
theorem pg_X8_type : x_Pg[134]? = some xm_X8_type := by
  unfold x_Pg
  rfl
theorem xe_X8_type_0 {ls : xL} {st : List Value} {h h' : xH} {r : Option Value} (H : x_ev x_nm x_tf x_fn x_Pg x_EV 134 (some .int) r h' xb_X8_type_0 0 ls st h) : x_EV 134 0 ls st h r h' := x_Ev_to (M := xm_X8_type) (is := xb_X8_type_0) pg_X8_type (by rfl) H
theorem xe_X8_type_15 {ls : xL} {st : List Value} {h h' : xH} {r : Option Value} (H : x_ev x_nm x_tf x_fn x_Pg x_EV 134 (some .int) r h' xb_X8_type_15 15 ls st h) : x_EV 134 15 ls st h r h' := x_Ev_to (M := xm_X8_type) (is := xb_X8_type_15) pg_X8_type (by rfl) H
theorem xe_X8_type_29 {ls : xL} {st : List Value} {h h' : xH} {r : Option Value} (H : x_ev x_nm x_tf x_fn x_Pg x_EV 134 (some .int) r h' xb_X8_type_29 29 ls st h) : x_EV 134 29 ls st h r h' := x_Ev_to (M := xm_X8_type) (is := xb_X8_type_29) pg_X8_type (by rfl) H
theorem xK_X8_type {o : Nat} {x1 : Int32} {h h1 : xH} {r : Option Value} {fs : List Value} (ho : h[o]? = some (.inr (7, fs))) (H : x_EV 134 0 [some (.ref o), some (.int x1)] [] h r h1) : xK 134 [.ref o, .int x1] h r h1 := x_calX_v pg_X8_type rfl rfl (Nat.le_of_ble_eq_true rfl) rfl ho H
theorem pg_X7_clear : x_Pg[135]? = some xm_X7_clear := by
  unfold x_Pg
  rfl
theorem xe_X7_clear_0 {ls : xL} {st : List Value} {h h' : xH} {r : Option Value} (H : x_ev x_nm x_tf x_fn x_Pg x_EV 135 (some .int) r h' xb_X7_clear_0 0 ls st h) : x_EV 135 0 ls st h r h' := x_Ev_to (M := xm_X7_clear) (is := xb_X7_clear_0) pg_X7_clear (by rfl) H
theorem xK_X7_clear {o : Nat}  {h h1 : xH} {r : Option Value} {fs : List Value} (ho : h[o]? = some (.inr (6, fs))) (H : x_EV 135 0 [some (.ref o), none] [] h r h1) : xK 135 [.ref o] h r h1 := x_calX_v pg_X7_clear rfl rfl (Nat.le_of_ble_eq_true rfl) rfl ho H
theorem pg_X8_clear : x_Pg[136]? = some xm_X8_clear := by
  unfold x_Pg
  rfl
theorem xe_X8_clear_0 {ls : xL} {st : List Value} {h h' : xH} {r : Option Value} (H : x_ev x_nm x_tf x_fn x_Pg x_EV 136 (some .int) r h' xb_X8_clear_0 0 ls st h) : x_EV 136 0 ls st h r h' := x_Ev_to (M := xm_X8_clear) (is := xb_X8_clear_0) pg_X8_clear (by rfl) H
theorem xK_X8_clear {o : Nat}  {h h1 : xH} {r : Option Value} {fs : List Value} (ho : h[o]? = some (.inr (7, fs))) (H : x_EV 136 0 [some (.ref o), none] [] h r h1) : xK 136 [.ref o] h r h1 := x_calX_v pg_X8_clear rfl rfl (Nat.le_of_ble_eq_true rfl) rfl ho H
theorem pg_X3_skipBlanks : x_Pg[137]? = some xm_X3_skipBlanks := by
  unfold x_Pg
  rfl
theorem xe_X3_skipBlanks_0 {ls : xL} {st : List Value} {h h' : xH} {r : Option Value} (H : x_ev x_nm x_tf x_fn x_Pg x_EV 137 none r h' xb_X3_skipBlanks_0 0 ls st h) : x_EV 137 0 ls st h r h' := x_Ev_to (M := xm_X3_skipBlanks) (is := xb_X3_skipBlanks_0) pg_X3_skipBlanks (by rfl) H
theorem xe_X3_skipBlanks_38 {ls : xL} {st : List Value} {h h' : xH} {r : Option Value} (H : x_ev x_nm x_tf x_fn x_Pg x_EV 137 none r h' xb_X3_skipBlanks_38 38 ls st h) : x_EV 137 38 ls st h r h' := x_Ev_to (M := xm_X3_skipBlanks) (is := xb_X3_skipBlanks_38) pg_X3_skipBlanks (by rfl) H
theorem xK_X3_skipBlanks {o : Nat}  {h h1 : xH} {r : Option Value} {fs : List Value} (ho : h[o]? = some (.inr (2, fs))) (H : x_EV 137 0 [some (.ref o)] [] h r h1) : xK 137 [.ref o] h r h1 := x_calX_v pg_X3_skipBlanks rfl rfl (Nat.le_of_ble_eq_true rfl) rfl ho H
theorem pg_X3_here : x_Pg[138]? = some xm_X3_here := by
  unfold x_Pg
  rfl
theorem xe_X3_here_0 {ls : xL} {st : List Value} {h h' : xH} {r : Option Value} (H : x_ev x_nm x_tf x_fn x_Pg x_EV 138 (some .int) r h' xb_X3_here_0 0 ls st h) : x_EV 138 0 ls st h r h' := x_Ev_to (M := xm_X3_here) (is := xb_X3_here_0) pg_X3_here (by rfl) H
theorem xe_X3_here_23 {ls : xL} {st : List Value} {h h' : xH} {r : Option Value} (H : x_ev x_nm x_tf x_fn x_Pg x_EV 138 (some .int) r h' xb_X3_here_23 23 ls st h) : x_EV 138 23 ls st h r h' := x_Ev_to (M := xm_X3_here) (is := xb_X3_here_23) pg_X3_here (by rfl) H
theorem xe_X3_here_24 {ls : xL} {st : List Value} {h h' : xH} {r : Option Value} (H : x_ev x_nm x_tf x_fn x_Pg x_EV 138 (some .int) r h' xb_X3_here_24 24 ls st h) : x_EV 138 24 ls st h r h' := x_Ev_to (M := xm_X3_here) (is := xb_X3_here_24) pg_X3_here (by rfl) H
theorem xK_X3_here {o : Nat}  {h h1 : xH} {r : Option Value} {fs : List Value} (ho : h[o]? = some (.inr (2, fs))) (H : x_EV 138 0 [some (.ref o)] [] h r h1) : xK 138 [.ref o] h r h1 := x_calX_v pg_X3_here rfl rfl (Nat.le_of_ble_eq_true rfl) rfl ho H
theorem pg_X3_mostNumbers : x_Pg[139]? = some xm_X3_mostNumbers := by
  unfold x_Pg
  rfl
theorem xe_X3_mostNumbers_0 {ls : xL} {st : List Value} {h h' : xH} {r : Option Value} (H : x_ev x_nm x_tf x_fn x_Pg x_EV 139 (some .int) r h' xb_X3_mostNumbers_0 0 ls st h) : x_EV 139 0 ls st h r h' := x_Ev_to (M := xm_X3_mostNumbers) (is := xb_X3_mostNumbers_0) pg_X3_mostNumbers (by rfl) H
theorem xe_X3_mostNumbers_52 {ls : xL} {st : List Value} {h h' : xH} {r : Option Value} (H : x_ev x_nm x_tf x_fn x_Pg x_EV 139 (some .int) r h' xb_X3_mostNumbers_52 52 ls st h) : x_EV 139 52 ls st h r h' := x_Ev_to (M := xm_X3_mostNumbers) (is := xb_X3_mostNumbers_52) pg_X3_mostNumbers (by rfl) H
theorem xe_X3_mostNumbers_54 {ls : xL} {st : List Value} {h h' : xH} {r : Option Value} (H : x_ev x_nm x_tf x_fn x_Pg x_EV 139 (some .int) r h' xb_X3_mostNumbers_54 54 ls st h) : x_EV 139 54 ls st h r h' := x_Ev_to (M := xm_X3_mostNumbers) (is := xb_X3_mostNumbers_54) pg_X3_mostNumbers (by rfl) H
theorem xe_X3_mostNumbers_56 {ls : xL} {st : List Value} {h h' : xH} {r : Option Value} (H : x_ev x_nm x_tf x_fn x_Pg x_EV 139 (some .int) r h' xb_X3_mostNumbers_56 56 ls st h) : x_EV 139 56 ls st h r h' := x_Ev_to (M := xm_X3_mostNumbers) (is := xb_X3_mostNumbers_56) pg_X3_mostNumbers (by rfl) H
theorem xe_X3_mostNumbers_58 {ls : xL} {st : List Value} {h h' : xH} {r : Option Value} (H : x_ev x_nm x_tf x_fn x_Pg x_EV 139 (some .int) r h' xb_X3_mostNumbers_58 58 ls st h) : x_EV 139 58 ls st h r h' := x_Ev_to (M := xm_X3_mostNumbers) (is := xb_X3_mostNumbers_58) pg_X3_mostNumbers (by rfl) H
theorem xe_X3_mostNumbers_60 {ls : xL} {st : List Value} {h h' : xH} {r : Option Value} (H : x_ev x_nm x_tf x_fn x_Pg x_EV 139 (some .int) r h' xb_X3_mostNumbers_60 60 ls st h) : x_EV 139 60 ls st h r h' := x_Ev_to (M := xm_X3_mostNumbers) (is := xb_X3_mostNumbers_60) pg_X3_mostNumbers (by rfl) H
theorem xe_X3_mostNumbers_63 {ls : xL} {st : List Value} {h h' : xH} {r : Option Value} (H : x_ev x_nm x_tf x_fn x_Pg x_EV 139 (some .int) r h' xb_X3_mostNumbers_63 63 ls st h) : x_EV 139 63 ls st h r h' := x_Ev_to (M := xm_X3_mostNumbers) (is := xb_X3_mostNumbers_63) pg_X3_mostNumbers (by rfl) H
theorem xK_X3_mostNumbers {x1 : Int32} {h h1 : xH} {r : Option Value} (H : x_EV 139 0 [some (.int x1)] [] h r h1) : xK 139 [.int x1] h r h1 := x_calX_s pg_X3_mostNumbers rfl (Nat.le_of_ble_eq_true rfl) rfl H
theorem pg_X3_isFigureHere : x_Pg[140]? = some xm_X3_isFigureHere := by
  unfold x_Pg
  rfl
theorem xe_X3_isFigureHere_0 {ls : xL} {st : List Value} {h h' : xH} {r : Option Value} (H : x_ev x_nm x_tf x_fn x_Pg x_EV 140 (some .boolean) r h' xb_X3_isFigureHere_0 0 ls st h) : x_EV 140 0 ls st h r h' := x_Ev_to (M := xm_X3_isFigureHere) (is := xb_X3_isFigureHere_0) pg_X3_isFigureHere (by rfl) H
theorem xe_X3_isFigureHere_21 {ls : xL} {st : List Value} {h h' : xH} {r : Option Value} (H : x_ev x_nm x_tf x_fn x_Pg x_EV 140 (some .boolean) r h' xb_X3_isFigureHere_21 21 ls st h) : x_EV 140 21 ls st h r h' := x_Ev_to (M := xm_X3_isFigureHere) (is := xb_X3_isFigureHere_21) pg_X3_isFigureHere (by rfl) H
theorem xe_X3_isFigureHere_22 {ls : xL} {st : List Value} {h h' : xH} {r : Option Value} (H : x_ev x_nm x_tf x_fn x_Pg x_EV 140 (some .boolean) r h' xb_X3_isFigureHere_22 22 ls st h) : x_EV 140 22 ls st h r h' := x_Ev_to (M := xm_X3_isFigureHere) (is := xb_X3_isFigureHere_22) pg_X3_isFigureHere (by rfl) H
theorem xK_X3_isFigureHere {o : Nat}  {h h1 : xH} {r : Option Value} {fs : List Value} (ho : h[o]? = some (.inr (2, fs))) (H : x_EV 140 0 [some (.ref o), none] [] h r h1) : xK 140 [.ref o] h r h1 := x_calX_v pg_X3_isFigureHere rfl rfl (Nat.le_of_ble_eq_true rfl) rfl ho H
theorem pg_X3_keepNumber : x_Pg[141]? = some xm_X3_keepNumber := by
  unfold x_Pg
  rfl
theorem xe_X3_keepNumber_0 {ls : xL} {st : List Value} {h h' : xH} {r : Option Value} (H : x_ev x_nm x_tf x_fn x_Pg x_EV 141 none r h' xb_X3_keepNumber_0 0 ls st h) : x_EV 141 0 ls st h r h' := x_Ev_to (M := xm_X3_keepNumber) (is := xb_X3_keepNumber_0) pg_X3_keepNumber (by rfl) H
theorem xe_X3_keepNumber_29 {ls : xL} {st : List Value} {h h' : xH} {r : Option Value} (H : x_ev x_nm x_tf x_fn x_Pg x_EV 141 none r h' xb_X3_keepNumber_29 29 ls st h) : x_EV 141 29 ls st h r h' := x_Ev_to (M := xm_X3_keepNumber) (is := xb_X3_keepNumber_29) pg_X3_keepNumber (by rfl) H
theorem xK_X3_keepNumber {o : Nat} {x1 : Int32} {h h1 : xH} {r : Option Value} {fs : List Value} (ho : h[o]? = some (.inr (2, fs))) (H : x_EV 141 0 [some (.ref o), some (.int x1)] [] h r h1) : xK 141 [.ref o, .int x1] h r h1 := x_calX_v pg_X3_keepNumber rfl rfl (Nat.le_of_ble_eq_true rfl) rfl ho H
theorem pg_X3_readNumber : x_Pg[142]? = some xm_X3_readNumber := by
  unfold x_Pg
  rfl
theorem xe_X3_readNumber_0 {ls : xL} {st : List Value} {h h' : xH} {r : Option Value} (H : x_ev x_nm x_tf x_fn x_Pg x_EV 142 (some .boolean) r h' xb_X3_readNumber_0 0 ls st h) : x_EV 142 0 ls st h r h' := x_Ev_to (M := xm_X3_readNumber) (is := xb_X3_readNumber_0) pg_X3_readNumber (by rfl) H
theorem xe_X3_readNumber_30 {ls : xL} {st : List Value} {h h' : xH} {r : Option Value} (H : x_ev x_nm x_tf x_fn x_Pg x_EV 142 (some .boolean) r h' xb_X3_readNumber_30 30 ls st h) : x_EV 142 30 ls st h r h' := x_Ev_to (M := xm_X3_readNumber) (is := xb_X3_readNumber_30) pg_X3_readNumber (by rfl) H
theorem xe_X3_readNumber_39 {ls : xL} {st : List Value} {h h' : xH} {r : Option Value} (H : x_ev x_nm x_tf x_fn x_Pg x_EV 142 (some .boolean) r h' xb_X3_readNumber_39 39 ls st h) : x_EV 142 39 ls st h r h' := x_Ev_to (M := xm_X3_readNumber) (is := xb_X3_readNumber_39) pg_X3_readNumber (by rfl) H
theorem xe_X3_readNumber_87 {ls : xL} {st : List Value} {h h' : xH} {r : Option Value} (H : x_ev x_nm x_tf x_fn x_Pg x_EV 142 (some .boolean) r h' xb_X3_readNumber_87 87 ls st h) : x_EV 142 87 ls st h r h' := x_Ev_to (M := xm_X3_readNumber) (is := xb_X3_readNumber_87) pg_X3_readNumber (by rfl) H
theorem xe_X3_readNumber_103 {ls : xL} {st : List Value} {h h' : xH} {r : Option Value} (H : x_ev x_nm x_tf x_fn x_Pg x_EV 142 (some .boolean) r h' xb_X3_readNumber_103 103 ls st h) : x_EV 142 103 ls st h r h' := x_Ev_to (M := xm_X3_readNumber) (is := xb_X3_readNumber_103) pg_X3_readNumber (by rfl) H
theorem xe_X3_readNumber_104 {ls : xL} {st : List Value} {h h' : xH} {r : Option Value} (H : x_ev x_nm x_tf x_fn x_Pg x_EV 142 (some .boolean) r h' xb_X3_readNumber_104 104 ls st h) : x_EV 142 104 ls st h r h' := x_Ev_to (M := xm_X3_readNumber) (is := xb_X3_readNumber_104) pg_X3_readNumber (by rfl) H
theorem xK_X3_readNumber {o : Nat} {x1 : Int32} {h h1 : xH} {r : Option Value} {fs : List Value} (ho : h[o]? = some (.inr (2, fs))) (H : x_EV 142 0 [some (.ref o), some (.int x1), none] [] h r h1) : xK 142 [.ref o, .int x1] h r h1 := x_calX_v pg_X3_readNumber rfl rfl (Nat.le_of_ble_eq_true rfl) rfl ho H
theorem pg_X3_readOrder : x_Pg[143]? = some xm_X3_readOrder := by
  unfold x_Pg
  rfl
theorem xe_X3_readOrder_0 {ls : xL} {st : List Value} {h h' : xH} {r : Option Value} (H : x_ev x_nm x_tf x_fn x_Pg x_EV 143 (some .boolean) r h' xb_X3_readOrder_0 0 ls st h) : x_EV 143 0 ls st h r h' := x_Ev_to (M := xm_X3_readOrder) (is := xb_X3_readOrder_0) pg_X3_readOrder (by rfl) H
theorem xe_X3_readOrder_16 {ls : xL} {st : List Value} {h h' : xH} {r : Option Value} (H : x_ev x_nm x_tf x_fn x_Pg x_EV 143 (some .boolean) r h' xb_X3_readOrder_16 16 ls st h) : x_EV 143 16 ls st h r h' := x_Ev_to (M := xm_X3_readOrder) (is := xb_X3_readOrder_16) pg_X3_readOrder (by rfl) H
theorem xe_X3_readOrder_51 {ls : xL} {st : List Value} {h h' : xH} {r : Option Value} (H : x_ev x_nm x_tf x_fn x_Pg x_EV 143 (some .boolean) r h' xb_X3_readOrder_51 51 ls st h) : x_EV 143 51 ls st h r h' := x_Ev_to (M := xm_X3_readOrder) (is := xb_X3_readOrder_51) pg_X3_readOrder (by rfl) H
theorem xe_X3_readOrder_74 {ls : xL} {st : List Value} {h h' : xH} {r : Option Value} (H : x_ev x_nm x_tf x_fn x_Pg x_EV 143 (some .boolean) r h' xb_X3_readOrder_74 74 ls st h) : x_EV 143 74 ls st h r h' := x_Ev_to (M := xm_X3_readOrder) (is := xb_X3_readOrder_74) pg_X3_readOrder (by rfl) H
theorem xe_X3_readOrder_75 {ls : xL} {st : List Value} {h h' : xH} {r : Option Value} (H : x_ev x_nm x_tf x_fn x_Pg x_EV 143 (some .boolean) r h' xb_X3_readOrder_75 75 ls st h) : x_EV 143 75 ls st h r h' := x_Ev_to (M := xm_X3_readOrder) (is := xb_X3_readOrder_75) pg_X3_readOrder (by rfl) H
theorem xe_X3_readOrder_92 {ls : xL} {st : List Value} {h h' : xH} {r : Option Value} (H : x_ev x_nm x_tf x_fn x_Pg x_EV 143 (some .boolean) r h' xb_X3_readOrder_92 92 ls st h) : x_EV 143 92 ls st h r h' := x_Ev_to (M := xm_X3_readOrder) (is := xb_X3_readOrder_92) pg_X3_readOrder (by rfl) H
theorem xe_X3_readOrder_104 {ls : xL} {st : List Value} {h h' : xH} {r : Option Value} (H : x_ev x_nm x_tf x_fn x_Pg x_EV 143 (some .boolean) r h' xb_X3_readOrder_104 104 ls st h) : x_EV 143 104 ls st h r h' := x_Ev_to (M := xm_X3_readOrder) (is := xb_X3_readOrder_104) pg_X3_readOrder (by rfl) H
theorem xe_X3_readOrder_115 {ls : xL} {st : List Value} {h h' : xH} {r : Option Value} (H : x_ev x_nm x_tf x_fn x_Pg x_EV 143 (some .boolean) r h' xb_X3_readOrder_115 115 ls st h) : x_EV 143 115 ls st h r h' := x_Ev_to (M := xm_X3_readOrder) (is := xb_X3_readOrder_115) pg_X3_readOrder (by rfl) H
theorem xe_X3_readOrder_116 {ls : xL} {st : List Value} {h h' : xH} {r : Option Value} (H : x_ev x_nm x_tf x_fn x_Pg x_EV 143 (some .boolean) r h' xb_X3_readOrder_116 116 ls st h) : x_EV 143 116 ls st h r h' := x_Ev_to (M := xm_X3_readOrder) (is := xb_X3_readOrder_116) pg_X3_readOrder (by rfl) H
theorem xe_X3_readOrder_129 {ls : xL} {st : List Value} {h h' : xH} {r : Option Value} (H : x_ev x_nm x_tf x_fn x_Pg x_EV 143 (some .boolean) r h' xb_X3_readOrder_129 129 ls st h) : x_EV 143 129 ls st h r h' := x_Ev_to (M := xm_X3_readOrder) (is := xb_X3_readOrder_129) pg_X3_readOrder (by rfl) H
theorem xe_X3_readOrder_135 {ls : xL} {st : List Value} {h h' : xH} {r : Option Value} (H : x_ev x_nm x_tf x_fn x_Pg x_EV 143 (some .boolean) r h' xb_X3_readOrder_135 135 ls st h) : x_EV 143 135 ls st h r h' := x_Ev_to (M := xm_X3_readOrder) (is := xb_X3_readOrder_135) pg_X3_readOrder (by rfl) H
theorem xe_X3_readOrder_173 {ls : xL} {st : List Value} {h h' : xH} {r : Option Value} (H : x_ev x_nm x_tf x_fn x_Pg x_EV 143 (some .boolean) r h' xb_X3_readOrder_173 173 ls st h) : x_EV 143 173 ls st h r h' := x_Ev_to (M := xm_X3_readOrder) (is := xb_X3_readOrder_173) pg_X3_readOrder (by rfl) H
theorem xK_X3_readOrder {o : Nat}  {h h1 : xH} {r : Option Value} {fs : List Value} (ho : h[o]? = some (.inr (2, fs))) (H : x_EV 143 0 [some (.ref o), none, none, none, none, none] [] h r h1) : xK 143 [.ref o] h r h1 := x_calX_v pg_X3_readOrder rfl rfl (Nat.le_of_ble_eq_true rfl) rfl ho H
theorem pg_X3_readWhole : x_Pg[144]? = some xm_X3_readWhole := by
  unfold x_Pg
  rfl
theorem xe_X3_readWhole_0 {ls : xL} {st : List Value} {h h' : xH} {r : Option Value} (H : x_ev x_nm x_tf x_fn x_Pg x_EV 144 (some .int) r h' xb_X3_readWhole_0 0 ls st h) : x_EV 144 0 ls st h r h' := x_Ev_to (M := xm_X3_readWhole) (is := xb_X3_readWhole_0) pg_X3_readWhole (by rfl) H
theorem xe_X3_readWhole_19 {ls : xL} {st : List Value} {h h' : xH} {r : Option Value} (H : x_ev x_nm x_tf x_fn x_Pg x_EV 144 (some .int) r h' xb_X3_readWhole_19 19 ls st h) : x_EV 144 19 ls st h r h' := x_Ev_to (M := xm_X3_readWhole) (is := xb_X3_readWhole_19) pg_X3_readWhole (by rfl) H
theorem xe_X3_readWhole_51 {ls : xL} {st : List Value} {h h' : xH} {r : Option Value} (H : x_ev x_nm x_tf x_fn x_Pg x_EV 144 (some .int) r h' xb_X3_readWhole_51 51 ls st h) : x_EV 144 51 ls st h r h' := x_Ev_to (M := xm_X3_readWhole) (is := xb_X3_readWhole_51) pg_X3_readWhole (by rfl) H
theorem xe_X3_readWhole_68 {ls : xL} {st : List Value} {h h' : xH} {r : Option Value} (H : x_ev x_nm x_tf x_fn x_Pg x_EV 144 (some .int) r h' xb_X3_readWhole_68 68 ls st h) : x_EV 144 68 ls st h r h' := x_Ev_to (M := xm_X3_readWhole) (is := xb_X3_readWhole_68) pg_X3_readWhole (by rfl) H
theorem xe_X3_readWhole_82 {ls : xL} {st : List Value} {h h' : xH} {r : Option Value} (H : x_ev x_nm x_tf x_fn x_Pg x_EV 144 (some .int) r h' xb_X3_readWhole_82 82 ls st h) : x_EV 144 82 ls st h r h' := x_Ev_to (M := xm_X3_readWhole) (is := xb_X3_readWhole_82) pg_X3_readWhole (by rfl) H
theorem xe_X3_readWhole_83 {ls : xL} {st : List Value} {h h' : xH} {r : Option Value} (H : x_ev x_nm x_tf x_fn x_Pg x_EV 144 (some .int) r h' xb_X3_readWhole_83 83 ls st h) : x_EV 144 83 ls st h r h' := x_Ev_to (M := xm_X3_readWhole) (is := xb_X3_readWhole_83) pg_X3_readWhole (by rfl) H
theorem xK_X3_readWhole {o : Nat}  {h h1 : xH} {r : Option Value} {fs : List Value} (ho : h[o]? = some (.inr (2, fs))) (H : x_EV 144 0 [some (.ref o)] [] h r h1) : xK 144 [.ref o] h r h1 := x_calX_v pg_X3_readWhole rfl rfl (Nat.le_of_ble_eq_true rfl) rfl ho H
theorem pg_X3_kind : x_Pg[145]? = some xm_X3_kind := by
  unfold x_Pg
  rfl
theorem xe_X3_kind_0 {ls : xL} {st : List Value} {h h' : xH} {r : Option Value} (H : x_ev x_nm x_tf x_fn x_Pg x_EV 145 (some .int) r h' xb_X3_kind_0 0 ls st h) : x_EV 145 0 ls st h r h' := x_Ev_to (M := xm_X3_kind) (is := xb_X3_kind_0) pg_X3_kind (by rfl) H
theorem xK_X3_kind {o : Nat} {x1 : Int32} {h h1 : xH} {r : Option Value} {fs : List Value} (ho : h[o]? = some (.inr (2, fs))) (H : x_EV 145 0 [some (.ref o), some (.int x1)] [] h r h1) : xK 145 [.ref o, .int x1] h r h1 := x_calX_v pg_X3_kind rfl rfl (Nat.le_of_ble_eq_true rfl) rfl ho H
theorem pg_X3_numberCount : x_Pg[146]? = some xm_X3_numberCount := by
  unfold x_Pg
  rfl
theorem xe_X3_numberCount_0 {ls : xL} {st : List Value} {h h' : xH} {r : Option Value} (H : x_ev x_nm x_tf x_fn x_Pg x_EV 146 (some .int) r h' xb_X3_numberCount_0 0 ls st h) : x_EV 146 0 ls st h r h' := x_Ev_to (M := xm_X3_numberCount) (is := xb_X3_numberCount_0) pg_X3_numberCount (by rfl) H
theorem xK_X3_numberCount {o : Nat} {x1 : Int32} {h h1 : xH} {r : Option Value} {fs : List Value} (ho : h[o]? = some (.inr (2, fs))) (H : x_EV 146 0 [some (.ref o), some (.int x1)] [] h r h1) : xK 146 [.ref o, .int x1] h r h1 := x_calX_v pg_X3_numberCount rfl rfl (Nat.le_of_ble_eq_true rfl) rfl ho H
theorem pg_X3_number : x_Pg[147]? = some xm_X3_number := by
  unfold x_Pg
  rfl
theorem xe_X3_number_0 {ls : xL} {st : List Value} {h h' : xH} {r : Option Value} (H : x_ev x_nm x_tf x_fn x_Pg x_EV 147 (some .int) r h' xb_X3_number_0 0 ls st h) : x_EV 147 0 ls st h r h' := x_Ev_to (M := xm_X3_number) (is := xb_X3_number_0) pg_X3_number (by rfl) H
theorem xe_X3_number_26 {ls : xL} {st : List Value} {h h' : xH} {r : Option Value} (H : x_ev x_nm x_tf x_fn x_Pg x_EV 147 (some .int) r h' xb_X3_number_26 26 ls st h) : x_EV 147 26 ls st h r h' := x_Ev_to (M := xm_X3_number) (is := xb_X3_number_26) pg_X3_number (by rfl) H
theorem xe_X3_number_27 {ls : xL} {st : List Value} {h h' : xH} {r : Option Value} (H : x_ev x_nm x_tf x_fn x_Pg x_EV 147 (some .int) r h' xb_X3_number_27 27 ls st h) : x_EV 147 27 ls st h r h' := x_Ev_to (M := xm_X3_number) (is := xb_X3_number_27) pg_X3_number (by rfl) H
theorem xK_X3_number {o : Nat} {x1 : Int32} {x2 : Int32} {h h1 : xH} {r : Option Value} {fs : List Value} (ho : h[o]? = some (.inr (2, fs))) (H : x_EV 147 0 [some (.ref o), some (.int x1), some (.int x2)] [] h r h1) : xK 147 [.ref o, .int x1, .int x2] h r h1 := x_calX_v pg_X3_number rfl rfl (Nat.le_of_ble_eq_true rfl) rfl ho H
theorem pg_X7_doWords : x_Pg[148]? = some xm_X7_doWords := by
  unfold x_Pg
  rfl
theorem xe_X7_doWords_0 {ls : xL} {st : List Value} {h h' : xH} {r : Option Value} (H : x_ev x_nm x_tf x_fn x_Pg x_EV 148 (some .boolean) r h' xb_X7_doWords_0 0 ls st h) : x_EV 148 0 ls st h r h' := x_Ev_to (M := xm_X7_doWords) (is := xb_X7_doWords_0) pg_X7_doWords (by rfl) H
theorem xe_X7_doWords_11 {ls : xL} {st : List Value} {h h' : xH} {r : Option Value} (H : x_ev x_nm x_tf x_fn x_Pg x_EV 148 (some .boolean) r h' xb_X7_doWords_11 11 ls st h) : x_EV 148 11 ls st h r h' := x_Ev_to (M := xm_X7_doWords) (is := xb_X7_doWords_11) pg_X7_doWords (by rfl) H
theorem xe_X7_doWords_41 {ls : xL} {st : List Value} {h h' : xH} {r : Option Value} (H : x_ev x_nm x_tf x_fn x_Pg x_EV 148 (some .boolean) r h' xb_X7_doWords_41 41 ls st h) : x_EV 148 41 ls st h r h' := x_Ev_to (M := xm_X7_doWords) (is := xb_X7_doWords_41) pg_X7_doWords (by rfl) H
theorem xe_X7_doWords_60 {ls : xL} {st : List Value} {h h' : xH} {r : Option Value} (H : x_ev x_nm x_tf x_fn x_Pg x_EV 148 (some .boolean) r h' xb_X7_doWords_60 60 ls st h) : x_EV 148 60 ls st h r h' := x_Ev_to (M := xm_X7_doWords) (is := xb_X7_doWords_60) pg_X7_doWords (by rfl) H
theorem xK_X7_doWords {o : Nat} {x1 : Int32} {h h1 : xH} {r : Option Value} {fs : List Value} (ho : h[o]? = some (.inr (6, fs))) (H : x_EV 148 0 [some (.ref o), some (.int x1), none, none, none] [] h r h1) : xK 148 [.ref o, .int x1] h r h1 := x_calX_v pg_X7_doWords rfl rfl (Nat.le_of_ble_eq_true rfl) rfl ho H
theorem pg_X7_doEntry : x_Pg[149]? = some xm_X7_doEntry := by
  unfold x_Pg
  rfl
theorem xe_X7_doEntry_0 {ls : xL} {st : List Value} {h h' : xH} {r : Option Value} (H : x_ev x_nm x_tf x_fn x_Pg x_EV 149 (some .boolean) r h' xb_X7_doEntry_0 0 ls st h) : x_EV 149 0 ls st h r h' := x_Ev_to (M := xm_X7_doEntry) (is := xb_X7_doEntry_0) pg_X7_doEntry (by rfl) H
theorem xe_X7_doEntry_18 {ls : xL} {st : List Value} {h h' : xH} {r : Option Value} (H : x_ev x_nm x_tf x_fn x_Pg x_EV 149 (some .boolean) r h' xb_X7_doEntry_18 18 ls st h) : x_EV 149 18 ls st h r h' := x_Ev_to (M := xm_X7_doEntry) (is := xb_X7_doEntry_18) pg_X7_doEntry (by rfl) H
theorem xK_X7_doEntry {o : Nat} {x1 : Int32} {x2 : Int32} {x3 : Int32} {h h1 : xH} {r : Option Value} {fs : List Value} (ho : h[o]? = some (.inr (6, fs))) (H : x_EV 149 0 [some (.ref o), some (.int x1), some (.int x2), some (.int x3)] [] h r h1) : xK 149 [.ref o, .int x1, .int x2, .int x3] h r h1 := x_calX_v pg_X7_doEntry rfl rfl (Nat.le_of_ble_eq_true rfl) rfl ho H
theorem pg_X7_doOrder : x_Pg[150]? = some xm_X7_doOrder := by
  unfold x_Pg
  rfl
theorem xe_X7_doOrder_0 {ls : xL} {st : List Value} {h h' : xH} {r : Option Value} (H : x_ev x_nm x_tf x_fn x_Pg x_EV 150 (some .boolean) r h' xb_X7_doOrder_0 0 ls st h) : x_EV 150 0 ls st h r h' := x_Ev_to (M := xm_X7_doOrder) (is := xb_X7_doOrder_0) pg_X7_doOrder (by rfl) H
theorem xe_X7_doOrder_100 {ls : xL} {st : List Value} {h h' : xH} {r : Option Value} (H : x_ev x_nm x_tf x_fn x_Pg x_EV 150 (some .boolean) r h' xb_X7_doOrder_100 100 ls st h) : x_EV 150 100 ls st h r h' := x_Ev_to (M := xm_X7_doOrder) (is := xb_X7_doOrder_100) pg_X7_doOrder (by rfl) H
theorem xe_X7_doOrder_108 {ls : xL} {st : List Value} {h h' : xH} {r : Option Value} (H : x_ev x_nm x_tf x_fn x_Pg x_EV 150 (some .boolean) r h' xb_X7_doOrder_108 108 ls st h) : x_EV 150 108 ls st h r h' := x_Ev_to (M := xm_X7_doOrder) (is := xb_X7_doOrder_108) pg_X7_doOrder (by rfl) H
theorem xe_X7_doOrder_118 {ls : xL} {st : List Value} {h h' : xH} {r : Option Value} (H : x_ev x_nm x_tf x_fn x_Pg x_EV 150 (some .boolean) r h' xb_X7_doOrder_118 118 ls st h) : x_EV 150 118 ls st h r h' := x_Ev_to (M := xm_X7_doOrder) (is := xb_X7_doOrder_118) pg_X7_doOrder (by rfl) H
theorem xe_X7_doOrder_134 {ls : xL} {st : List Value} {h h' : xH} {r : Option Value} (H : x_ev x_nm x_tf x_fn x_Pg x_EV 150 (some .boolean) r h' xb_X7_doOrder_134 134 ls st h) : x_EV 150 134 ls st h r h' := x_Ev_to (M := xm_X7_doOrder) (is := xb_X7_doOrder_134) pg_X7_doOrder (by rfl) H
theorem xe_X7_doOrder_148 {ls : xL} {st : List Value} {h h' : xH} {r : Option Value} (H : x_ev x_nm x_tf x_fn x_Pg x_EV 150 (some .boolean) r h' xb_X7_doOrder_148 148 ls st h) : x_EV 150 148 ls st h r h' := x_Ev_to (M := xm_X7_doOrder) (is := xb_X7_doOrder_148) pg_X7_doOrder (by rfl) H
theorem xe_X7_doOrder_160 {ls : xL} {st : List Value} {h h' : xH} {r : Option Value} (H : x_ev x_nm x_tf x_fn x_Pg x_EV 150 (some .boolean) r h' xb_X7_doOrder_160 160 ls st h) : x_EV 150 160 ls st h r h' := x_Ev_to (M := xm_X7_doOrder) (is := xb_X7_doOrder_160) pg_X7_doOrder (by rfl) H
theorem xe_X7_doOrder_170 {ls : xL} {st : List Value} {h h' : xH} {r : Option Value} (H : x_ev x_nm x_tf x_fn x_Pg x_EV 150 (some .boolean) r h' xb_X7_doOrder_170 170 ls st h) : x_EV 150 170 ls st h r h' := x_Ev_to (M := xm_X7_doOrder) (is := xb_X7_doOrder_170) pg_X7_doOrder (by rfl) H
theorem xK_X7_doOrder {o : Nat} {x1 : Int32} {h h1 : xH} {r : Option Value} {fs : List Value} (ho : h[o]? = some (.inr (6, fs))) (H : x_EV 150 0 [some (.ref o), some (.int x1), none, none, none, none, none] [] h r h1) : xK 150 [.ref o, .int x1] h r h1 := x_calX_v pg_X7_doOrder rfl rfl (Nat.le_of_ble_eq_true rfl) rfl ho H
theorem pg_X7_does : x_Pg[151]? = some xm_X7_does := by
  unfold x_Pg
  rfl
theorem xe_X7_does_0 {ls : xL} {st : List Value} {h h' : xH} {r : Option Value} (H : x_ev x_nm x_tf x_fn x_Pg x_EV 151 (some .int) r h' xb_X7_does_0 0 ls st h) : x_EV 151 0 ls st h r h' := x_Ev_to (M := xm_X7_does) (is := xb_X7_does_0) pg_X7_does (by rfl) H
theorem xe_X7_does_18 {ls : xL} {st : List Value} {h h' : xH} {r : Option Value} (H : x_ev x_nm x_tf x_fn x_Pg x_EV 151 (some .int) r h' xb_X7_does_18 18 ls st h) : x_EV 151 18 ls st h r h' := x_Ev_to (M := xm_X7_does) (is := xb_X7_does_18) pg_X7_does (by rfl) H
theorem xe_X7_does_31 {ls : xL} {st : List Value} {h h' : xH} {r : Option Value} (H : x_ev x_nm x_tf x_fn x_Pg x_EV 151 (some .int) r h' xb_X7_does_31 31 ls st h) : x_EV 151 31 ls st h r h' := x_Ev_to (M := xm_X7_does) (is := xb_X7_does_31) pg_X7_does (by rfl) H
theorem xe_X7_does_63 {ls : xL} {st : List Value} {h h' : xH} {r : Option Value} (H : x_ev x_nm x_tf x_fn x_Pg x_EV 151 (some .int) r h' xb_X7_does_63 63 ls st h) : x_EV 151 63 ls st h r h' := x_Ev_to (M := xm_X7_does) (is := xb_X7_does_63) pg_X7_does (by rfl) H
theorem xe_X7_does_68 {ls : xL} {st : List Value} {h h' : xH} {r : Option Value} (H : x_ev x_nm x_tf x_fn x_Pg x_EV 151 (some .int) r h' xb_X7_does_68 68 ls st h) : x_EV 151 68 ls st h r h' := x_Ev_to (M := xm_X7_does) (is := xb_X7_does_68) pg_X7_does (by rfl) H
theorem xe_X7_does_90 {ls : xL} {st : List Value} {h h' : xH} {r : Option Value} (H : x_ev x_nm x_tf x_fn x_Pg x_EV 151 (some .int) r h' xb_X7_does_90 90 ls st h) : x_EV 151 90 ls st h r h' := x_Ev_to (M := xm_X7_does) (is := xb_X7_does_90) pg_X7_does (by rfl) H
theorem xe_X7_does_96 {ls : xL} {st : List Value} {h h' : xH} {r : Option Value} (H : x_ev x_nm x_tf x_fn x_Pg x_EV 151 (some .int) r h' xb_X7_does_96 96 ls st h) : x_EV 151 96 ls st h r h' := x_Ev_to (M := xm_X7_does) (is := xb_X7_does_96) pg_X7_does (by rfl) H
theorem xK_X7_does {o : Nat}  {h h1 : xH} {r : Option Value} {fs : List Value} (ho : h[o]? = some (.inr (6, fs))) (H : x_EV 151 0 [some (.ref o), none, none, none] [] h r h1) : xK 151 [.ref o] h r h1 := x_calX_v pg_X7_does rfl rfl (Nat.le_of_ble_eq_true rfl) rfl ho H
theorem pg_X8_isAt : x_Pg[152]? = some xm_X8_isAt := by
  unfold x_Pg
  rfl
theorem xe_X8_isAt_0 {ls : xL} {st : List Value} {h h' : xH} {r : Option Value} (H : x_ev x_nm x_tf x_fn x_Pg x_EV 152 (some .boolean) r h' xb_X8_isAt_0 0 ls st h) : x_EV 152 0 ls st h r h' := x_Ev_to (M := xm_X8_isAt) (is := xb_X8_isAt_0) pg_X8_isAt (by rfl) H
theorem xe_X8_isAt_32 {ls : xL} {st : List Value} {h h' : xH} {r : Option Value} (H : x_ev x_nm x_tf x_fn x_Pg x_EV 152 (some .boolean) r h' xb_X8_isAt_32 32 ls st h) : x_EV 152 32 ls st h r h' := x_Ev_to (M := xm_X8_isAt) (is := xb_X8_isAt_32) pg_X8_isAt (by rfl) H
theorem xe_X8_isAt_33 {ls : xL} {st : List Value} {h h' : xH} {r : Option Value} (H : x_ev x_nm x_tf x_fn x_Pg x_EV 152 (some .boolean) r h' xb_X8_isAt_33 33 ls st h) : x_EV 152 33 ls st h r h' := x_Ev_to (M := xm_X8_isAt) (is := xb_X8_isAt_33) pg_X8_isAt (by rfl) H
theorem xK_X8_isAt {o : Nat} {x1 : Int32} {x2 : Int32} {h h1 : xH} {r : Option Value} {fs : List Value} (ho : h[o]? = some (.inr (7, fs))) (H : x_EV 152 0 [some (.ref o), some (.int x1), some (.int x2)] [] h r h1) : xK 152 [.ref o, .int x1, .int x2] h r h1 := x_calX_v pg_X8_isAt rfl rfl (Nat.le_of_ble_eq_true rfl) rfl ho H
theorem pg_X8_blanks : x_Pg[153]? = some xm_X8_blanks := by
  unfold x_Pg
  rfl
theorem xe_X8_blanks_0 {ls : xL} {st : List Value} {h h' : xH} {r : Option Value} (H : x_ev x_nm x_tf x_fn x_Pg x_EV 153 none r h' xb_X8_blanks_0 0 ls st h) : x_EV 153 0 ls st h r h' := x_Ev_to (M := xm_X8_blanks) (is := xb_X8_blanks_0) pg_X8_blanks (by rfl) H
theorem xe_X8_blanks_24 {ls : xL} {st : List Value} {h h' : xH} {r : Option Value} (H : x_ev x_nm x_tf x_fn x_Pg x_EV 153 none r h' xb_X8_blanks_24 24 ls st h) : x_EV 153 24 ls st h r h' := x_Ev_to (M := xm_X8_blanks) (is := xb_X8_blanks_24) pg_X8_blanks (by rfl) H
theorem xK_X8_blanks {o : Nat}  {h h1 : xH} {r : Option Value} {fs : List Value} (ho : h[o]? = some (.inr (7, fs))) (H : x_EV 153 0 [some (.ref o)] [] h r h1) : xK 153 [.ref o] h r h1 := x_calX_v pg_X8_blanks rfl rfl (Nat.le_of_ble_eq_true rfl) rfl ho H
theorem pg_X8_leastOf : x_Pg[154]? = some xm_X8_leastOf := by
  unfold x_Pg
  rfl
theorem xe_X8_leastOf_0 {ls : xL} {st : List Value} {h h' : xH} {r : Option Value} (H : x_ev x_nm x_tf x_fn x_Pg x_EV 154 (some .int) r h' xb_X8_leastOf_0 0 ls st h) : x_EV 154 0 ls st h r h' := x_Ev_to (M := xm_X8_leastOf) (is := xb_X8_leastOf_0) pg_X8_leastOf (by rfl) H
theorem xe_X8_leastOf_12 {ls : xL} {st : List Value} {h h' : xH} {r : Option Value} (H : x_ev x_nm x_tf x_fn x_Pg x_EV 154 (some .int) r h' xb_X8_leastOf_12 12 ls st h) : x_EV 154 12 ls st h r h' := x_Ev_to (M := xm_X8_leastOf) (is := xb_X8_leastOf_12) pg_X8_leastOf (by rfl) H
theorem xe_X8_leastOf_16 {ls : xL} {st : List Value} {h h' : xH} {r : Option Value} (H : x_ev x_nm x_tf x_fn x_Pg x_EV 154 (some .int) r h' xb_X8_leastOf_16 16 ls st h) : x_EV 154 16 ls st h r h' := x_Ev_to (M := xm_X8_leastOf) (is := xb_X8_leastOf_16) pg_X8_leastOf (by rfl) H
theorem xe_X8_leastOf_26 {ls : xL} {st : List Value} {h h' : xH} {r : Option Value} (H : x_ev x_nm x_tf x_fn x_Pg x_EV 154 (some .int) r h' xb_X8_leastOf_26 26 ls st h) : x_EV 154 26 ls st h r h' := x_Ev_to (M := xm_X8_leastOf) (is := xb_X8_leastOf_26) pg_X8_leastOf (by rfl) H
theorem xe_X8_leastOf_36 {ls : xL} {st : List Value} {h h' : xH} {r : Option Value} (H : x_ev x_nm x_tf x_fn x_Pg x_EV 154 (some .int) r h' xb_X8_leastOf_36 36 ls st h) : x_EV 154 36 ls st h r h' := x_Ev_to (M := xm_X8_leastOf) (is := xb_X8_leastOf_36) pg_X8_leastOf (by rfl) H
theorem xe_X8_leastOf_46 {ls : xL} {st : List Value} {h h' : xH} {r : Option Value} (H : x_ev x_nm x_tf x_fn x_Pg x_EV 154 (some .int) r h' xb_X8_leastOf_46 46 ls st h) : x_EV 154 46 ls st h r h' := x_Ev_to (M := xm_X8_leastOf) (is := xb_X8_leastOf_46) pg_X8_leastOf (by rfl) H
theorem xe_X8_leastOf_47 {ls : xL} {st : List Value} {h h' : xH} {r : Option Value} (H : x_ev x_nm x_tf x_fn x_Pg x_EV 154 (some .int) r h' xb_X8_leastOf_47 47 ls st h) : x_EV 154 47 ls st h r h' := x_Ev_to (M := xm_X8_leastOf) (is := xb_X8_leastOf_47) pg_X8_leastOf (by rfl) H
theorem xK_X8_leastOf {x1 : Int32} {h h1 : xH} {r : Option Value} (H : x_EV 154 0 [some (.int x1)] [] h r h1) : xK 154 [.int x1] h r h1 := x_calX_s pg_X8_leastOf rfl (Nat.le_of_ble_eq_true rfl) rfl H
theorem pg_X8_fails : x_Pg[155]? = some xm_X8_fails := by
  unfold x_Pg
  rfl
theorem xe_X8_fails_0 {ls : xL} {st : List Value} {h h' : xH} {r : Option Value} (H : x_ev x_nm x_tf x_fn x_Pg x_EV 155 (some .boolean) r h' xb_X8_fails_0 0 ls st h) : x_EV 155 0 ls st h r h' := x_Ev_to (M := xm_X8_fails) (is := xb_X8_fails_0) pg_X8_fails (by rfl) H
theorem xK_X8_fails {o : Nat} {x1 : Int32} {h h1 : xH} {r : Option Value} {fs : List Value} (ho : h[o]? = some (.inr (7, fs))) (H : x_EV 155 0 [some (.ref o), some (.int x1)] [] h r h1) : xK 155 [.ref o, .int x1] h r h1 := x_calX_v pg_X8_fails rfl rfl (Nat.le_of_ble_eq_true rfl) rfl ho H
theorem pg_X8_mostOf : x_Pg[156]? = some xm_X8_mostOf := by
  unfold x_Pg
  rfl
theorem xe_X8_mostOf_0 {ls : xL} {st : List Value} {h h' : xH} {r : Option Value} (H : x_ev x_nm x_tf x_fn x_Pg x_EV 156 (some .int) r h' xb_X8_mostOf_0 0 ls st h) : x_EV 156 0 ls st h r h' := x_Ev_to (M := xm_X8_mostOf) (is := xb_X8_mostOf_0) pg_X8_mostOf (by rfl) H
theorem xe_X8_mostOf_11 {ls : xL} {st : List Value} {h h' : xH} {r : Option Value} (H : x_ev x_nm x_tf x_fn x_Pg x_EV 156 (some .int) r h' xb_X8_mostOf_11 11 ls st h) : x_EV 156 11 ls st h r h' := x_Ev_to (M := xm_X8_mostOf) (is := xb_X8_mostOf_11) pg_X8_mostOf (by rfl) H
theorem xe_X8_mostOf_15 {ls : xL} {st : List Value} {h h' : xH} {r : Option Value} (H : x_ev x_nm x_tf x_fn x_Pg x_EV 156 (some .int) r h' xb_X8_mostOf_15 15 ls st h) : x_EV 156 15 ls st h r h' := x_Ev_to (M := xm_X8_mostOf) (is := xb_X8_mostOf_15) pg_X8_mostOf (by rfl) H
theorem xK_X8_mostOf {x1 : Int32} {h h1 : xH} {r : Option Value} (H : x_EV 156 0 [some (.int x1)] [] h r h1) : xK 156 [.int x1] h r h1 := x_calX_s pg_X8_mostOf rfl (Nat.le_of_ble_eq_true rfl) rfl H
theorem pg_X8_takesNumber : x_Pg[157]? = some xm_X8_takesNumber := by
  unfold x_Pg
  rfl
theorem xe_X8_takesNumber_0 {ls : xL} {st : List Value} {h h' : xH} {r : Option Value} (H : x_ev x_nm x_tf x_fn x_Pg x_EV 157 (some .boolean) r h' xb_X8_takesNumber_0 0 ls st h) : x_EV 157 0 ls st h r h' := x_Ev_to (M := xm_X8_takesNumber) (is := xb_X8_takesNumber_0) pg_X8_takesNumber (by rfl) H
theorem xe_X8_takesNumber_12 {ls : xL} {st : List Value} {h h' : xH} {r : Option Value} (H : x_ev x_nm x_tf x_fn x_Pg x_EV 157 (some .boolean) r h' xb_X8_takesNumber_12 12 ls st h) : x_EV 157 12 ls st h r h' := x_Ev_to (M := xm_X8_takesNumber) (is := xb_X8_takesNumber_12) pg_X8_takesNumber (by rfl) H
theorem xe_X8_takesNumber_42 {ls : xL} {st : List Value} {h h' : xH} {r : Option Value} (H : x_ev x_nm x_tf x_fn x_Pg x_EV 157 (some .boolean) r h' xb_X8_takesNumber_42 42 ls st h) : x_EV 157 42 ls st h r h' := x_Ev_to (M := xm_X8_takesNumber) (is := xb_X8_takesNumber_42) pg_X8_takesNumber (by rfl) H
theorem xe_X8_takesNumber_83 {ls : xL} {st : List Value} {h h' : xH} {r : Option Value} (H : x_ev x_nm x_tf x_fn x_Pg x_EV 157 (some .boolean) r h' xb_X8_takesNumber_83 83 ls st h) : x_EV 157 83 ls st h r h' := x_Ev_to (M := xm_X8_takesNumber) (is := xb_X8_takesNumber_83) pg_X8_takesNumber (by rfl) H
theorem xK_X8_takesNumber {o : Nat} {x1 : Int32} {h h1 : xH} {r : Option Value} {fs : List Value} (ho : h[o]? = some (.inr (7, fs))) (H : x_EV 157 0 [some (.ref o), some (.int x1), none] [] h r h1) : xK 157 [.ref o, .int x1] h r h1 := x_calX_v pg_X8_takesNumber rfl rfl (Nat.le_of_ble_eq_true rfl) rfl ho H
theorem pg_X8_takesNumbers : x_Pg[158]? = some xm_X8_takesNumbers := by
  unfold x_Pg
  rfl
theorem xe_X8_takesNumbers_0 {ls : xL} {st : List Value} {h h' : xH} {r : Option Value} (H : x_ev x_nm x_tf x_fn x_Pg x_EV 158 (some .boolean) r h' xb_X8_takesNumbers_0 0 ls st h) : x_EV 158 0 ls st h r h' := x_Ev_to (M := xm_X8_takesNumbers) (is := xb_X8_takesNumbers_0) pg_X8_takesNumbers (by rfl) H
theorem xe_X8_takesNumbers_14 {ls : xL} {st : List Value} {h h' : xH} {r : Option Value} (H : x_ev x_nm x_tf x_fn x_Pg x_EV 158 (some .boolean) r h' xb_X8_takesNumbers_14 14 ls st h) : x_EV 158 14 ls st h r h' := x_Ev_to (M := xm_X8_takesNumbers) (is := xb_X8_takesNumbers_14) pg_X8_takesNumbers (by rfl) H
theorem xe_X8_takesNumbers_49 {ls : xL} {st : List Value} {h h' : xH} {r : Option Value} (H : x_ev x_nm x_tf x_fn x_Pg x_EV 158 (some .boolean) r h' xb_X8_takesNumbers_49 49 ls st h) : x_EV 158 49 ls st h r h' := x_Ev_to (M := xm_X8_takesNumbers) (is := xb_X8_takesNumbers_49) pg_X8_takesNumbers (by rfl) H
theorem xe_X8_takesNumbers_50 {ls : xL} {st : List Value} {h h' : xH} {r : Option Value} (H : x_ev x_nm x_tf x_fn x_Pg x_EV 158 (some .boolean) r h' xb_X8_takesNumbers_50 50 ls st h) : x_EV 158 50 ls st h r h' := x_Ev_to (M := xm_X8_takesNumbers) (is := xb_X8_takesNumbers_50) pg_X8_takesNumbers (by rfl) H
theorem xe_X8_takesNumbers_69 {ls : xL} {st : List Value} {h h' : xH} {r : Option Value} (H : x_ev x_nm x_tf x_fn x_Pg x_EV 158 (some .boolean) r h' xb_X8_takesNumbers_69 69 ls st h) : x_EV 158 69 ls st h r h' := x_Ev_to (M := xm_X8_takesNumbers) (is := xb_X8_takesNumbers_69) pg_X8_takesNumbers (by rfl) H
theorem xe_X8_takesNumbers_83 {ls : xL} {st : List Value} {h h' : xH} {r : Option Value} (H : x_ev x_nm x_tf x_fn x_Pg x_EV 158 (some .boolean) r h' xb_X8_takesNumbers_83 83 ls st h) : x_EV 158 83 ls st h r h' := x_Ev_to (M := xm_X8_takesNumbers) (is := xb_X8_takesNumbers_83) pg_X8_takesNumbers (by rfl) H
theorem xe_X8_takesNumbers_84 {ls : xL} {st : List Value} {h h' : xH} {r : Option Value} (H : x_ev x_nm x_tf x_fn x_Pg x_EV 158 (some .boolean) r h' xb_X8_takesNumbers_84 84 ls st h) : x_EV 158 84 ls st h r h' := x_Ev_to (M := xm_X8_takesNumbers) (is := xb_X8_takesNumbers_84) pg_X8_takesNumbers (by rfl) H
theorem xe_X8_takesNumbers_112 {ls : xL} {st : List Value} {h h' : xH} {r : Option Value} (H : x_ev x_nm x_tf x_fn x_Pg x_EV 158 (some .boolean) r h' xb_X8_takesNumbers_112 112 ls st h) : x_EV 158 112 ls st h r h' := x_Ev_to (M := xm_X8_takesNumbers) (is := xb_X8_takesNumbers_112) pg_X8_takesNumbers (by rfl) H
theorem xe_X8_takesNumbers_148 {ls : xL} {st : List Value} {h h' : xH} {r : Option Value} (H : x_ev x_nm x_tf x_fn x_Pg x_EV 158 (some .boolean) r h' xb_X8_takesNumbers_148 148 ls st h) : x_EV 158 148 ls st h r h' := x_Ev_to (M := xm_X8_takesNumbers) (is := xb_X8_takesNumbers_148) pg_X8_takesNumbers (by rfl) H
theorem xe_X8_takesNumbers_157 {ls : xL} {st : List Value} {h h' : xH} {r : Option Value} (H : x_ev x_nm x_tf x_fn x_Pg x_EV 158 (some .boolean) r h' xb_X8_takesNumbers_157 157 ls st h) : x_EV 158 157 ls st h r h' := x_Ev_to (M := xm_X8_takesNumbers) (is := xb_X8_takesNumbers_157) pg_X8_takesNumbers (by rfl) H
theorem xe_X8_takesNumbers_167 {ls : xL} {st : List Value} {h h' : xH} {r : Option Value} (H : x_ev x_nm x_tf x_fn x_Pg x_EV 158 (some .boolean) r h' xb_X8_takesNumbers_167 167 ls st h) : x_EV 158 167 ls st h r h' := x_Ev_to (M := xm_X8_takesNumbers) (is := xb_X8_takesNumbers_167) pg_X8_takesNumbers (by rfl) H
theorem xe_X8_takesNumbers_194 {ls : xL} {st : List Value} {h h' : xH} {r : Option Value} (H : x_ev x_nm x_tf x_fn x_Pg x_EV 158 (some .boolean) r h' xb_X8_takesNumbers_194 194 ls st h) : x_EV 158 194 ls st h r h' := x_Ev_to (M := xm_X8_takesNumbers) (is := xb_X8_takesNumbers_194) pg_X8_takesNumbers (by rfl) H
theorem xK_X8_takesNumbers {o : Nat} {x1 : Int32} {h h1 : xH} {r : Option Value} {fs : List Value} (ho : h[o]? = some (.inr (7, fs))) (H : x_EV 158 0 [some (.ref o), some (.int x1), none, none, none, none] [] h r h1) : xK 158 [.ref o, .int x1] h r h1 := x_calX_v pg_X8_takesNumbers rfl rfl (Nat.le_of_ble_eq_true rfl) rfl ho H
theorem pg_X8_isRead : x_Pg[159]? = some xm_X8_isRead := by
  unfold x_Pg
  rfl
theorem xe_X8_isRead_0 {ls : xL} {st : List Value} {h h' : xH} {r : Option Value} (H : x_ev x_nm x_tf x_fn x_Pg x_EV 159 (some .boolean) r h' xb_X8_isRead_0 0 ls st h) : x_EV 159 0 ls st h r h' := x_Ev_to (M := xm_X8_isRead) (is := xb_X8_isRead_0) pg_X8_isRead (by rfl) H
theorem xe_X8_isRead_21 {ls : xL} {st : List Value} {h h' : xH} {r : Option Value} (H : x_ev x_nm x_tf x_fn x_Pg x_EV 159 (some .boolean) r h' xb_X8_isRead_21 21 ls st h) : x_EV 159 21 ls st h r h' := x_Ev_to (M := xm_X8_isRead) (is := xb_X8_isRead_21) pg_X8_isRead (by rfl) H
theorem xe_X8_isRead_58 {ls : xL} {st : List Value} {h h' : xH} {r : Option Value} (H : x_ev x_nm x_tf x_fn x_Pg x_EV 159 (some .boolean) r h' xb_X8_isRead_58 58 ls st h) : x_EV 159 58 ls st h r h' := x_Ev_to (M := xm_X8_isRead) (is := xb_X8_isRead_58) pg_X8_isRead (by rfl) H
theorem xe_X8_isRead_88 {ls : xL} {st : List Value} {h h' : xH} {r : Option Value} (H : x_ev x_nm x_tf x_fn x_Pg x_EV 159 (some .boolean) r h' xb_X8_isRead_88 88 ls st h) : x_EV 159 88 ls st h r h' := x_Ev_to (M := xm_X8_isRead) (is := xb_X8_isRead_88) pg_X8_isRead (by rfl) H
theorem xe_X8_isRead_95 {ls : xL} {st : List Value} {h h' : xH} {r : Option Value} (H : x_ev x_nm x_tf x_fn x_Pg x_EV 159 (some .boolean) r h' xb_X8_isRead_95 95 ls st h) : x_EV 159 95 ls st h r h' := x_Ev_to (M := xm_X8_isRead) (is := xb_X8_isRead_95) pg_X8_isRead (by rfl) H
theorem xe_X8_isRead_113 {ls : xL} {st : List Value} {h h' : xH} {r : Option Value} (H : x_ev x_nm x_tf x_fn x_Pg x_EV 159 (some .boolean) r h' xb_X8_isRead_113 113 ls st h) : x_EV 159 113 ls st h r h' := x_Ev_to (M := xm_X8_isRead) (is := xb_X8_isRead_113) pg_X8_isRead (by rfl) H
theorem xe_X8_isRead_117 {ls : xL} {st : List Value} {h h' : xH} {r : Option Value} (H : x_ev x_nm x_tf x_fn x_Pg x_EV 159 (some .boolean) r h' xb_X8_isRead_117 117 ls st h) : x_EV 159 117 ls st h r h' := x_Ev_to (M := xm_X8_isRead) (is := xb_X8_isRead_117) pg_X8_isRead (by rfl) H
theorem xe_X8_isRead_118 {ls : xL} {st : List Value} {h h' : xH} {r : Option Value} (H : x_ev x_nm x_tf x_fn x_Pg x_EV 159 (some .boolean) r h' xb_X8_isRead_118 118 ls st h) : x_EV 159 118 ls st h r h' := x_Ev_to (M := xm_X8_isRead) (is := xb_X8_isRead_118) pg_X8_isRead (by rfl) H
theorem xK_X8_isRead {o : Nat}  {h h1 : xH} {r : Option Value} {fs : List Value} (ho : h[o]? = some (.inr (7, fs))) (H : x_EV 159 0 [some (.ref o), none] [] h r h1) : xK 159 [.ref o] h r h1 := x_calX_v pg_X8_isRead rfl rfl (Nat.le_of_ble_eq_true rfl) rfl ho H
theorem pg_X8_entersTold : x_Pg[160]? = some xm_X8_entersTold := by
  unfold x_Pg
  rfl
theorem xe_X8_entersTold_0 {ls : xL} {st : List Value} {h h' : xH} {r : Option Value} (H : x_ev x_nm x_tf x_fn x_Pg x_EV 160 (some .boolean) r h' xb_X8_entersTold_0 0 ls st h) : x_EV 160 0 ls st h r h' := x_Ev_to (M := xm_X8_entersTold) (is := xb_X8_entersTold_0) pg_X8_entersTold (by rfl) H
theorem xe_X8_entersTold_21 {ls : xL} {st : List Value} {h h' : xH} {r : Option Value} (H : x_ev x_nm x_tf x_fn x_Pg x_EV 160 (some .boolean) r h' xb_X8_entersTold_21 21 ls st h) : x_EV 160 21 ls st h r h' := x_Ev_to (M := xm_X8_entersTold) (is := xb_X8_entersTold_21) pg_X8_entersTold (by rfl) H
theorem xe_X8_entersTold_23 {ls : xL} {st : List Value} {h h' : xH} {r : Option Value} (H : x_ev x_nm x_tf x_fn x_Pg x_EV 160 (some .boolean) r h' xb_X8_entersTold_23 23 ls st h) : x_EV 160 23 ls st h r h' := x_Ev_to (M := xm_X8_entersTold) (is := xb_X8_entersTold_23) pg_X8_entersTold (by rfl) H
theorem xK_X8_entersTold {o : Nat} {x1 : Int32} {x2 : Int32} {x3 : Int32} {h h1 : xH} {r : Option Value} {fs : List Value} (ho : h[o]? = some (.inr (7, fs))) (H : x_EV 160 0 [some (.ref o), some (.int x1), some (.int x2), some (.int x3)] [] h r h1) : xK 160 [.ref o, .int x1, .int x2, .int x3] h r h1 := x_calX_v pg_X8_entersTold rfl rfl (Nat.le_of_ble_eq_true rfl) rfl ho H
theorem pg_X8_prices : x_Pg[161]? = some xm_X8_prices := by
  unfold x_Pg
  rfl
theorem xe_X8_prices_0 {ls : xL} {st : List Value} {h h' : xH} {r : Option Value} (H : x_ev x_nm x_tf x_fn x_Pg x_EV 161 (some .boolean) r h' xb_X8_prices_0 0 ls st h) : x_EV 161 0 ls st h r h' := x_Ev_to (M := xm_X8_prices) (is := xb_X8_prices_0) pg_X8_prices (by rfl) H
theorem xe_X8_prices_18 {ls : xL} {st : List Value} {h h' : xH} {r : Option Value} (H : x_ev x_nm x_tf x_fn x_Pg x_EV 161 (some .boolean) r h' xb_X8_prices_18 18 ls st h) : x_EV 161 18 ls st h r h' := x_Ev_to (M := xm_X8_prices) (is := xb_X8_prices_18) pg_X8_prices (by rfl) H
theorem xe_X8_prices_33 {ls : xL} {st : List Value} {h h' : xH} {r : Option Value} (H : x_ev x_nm x_tf x_fn x_Pg x_EV 161 (some .boolean) r h' xb_X8_prices_33 33 ls st h) : x_EV 161 33 ls st h r h' := x_Ev_to (M := xm_X8_prices) (is := xb_X8_prices_33) pg_X8_prices (by rfl) H
theorem xe_X8_prices_34 {ls : xL} {st : List Value} {h h' : xH} {r : Option Value} (H : x_ev x_nm x_tf x_fn x_Pg x_EV 161 (some .boolean) r h' xb_X8_prices_34 34 ls st h) : x_EV 161 34 ls st h r h' := x_Ev_to (M := xm_X8_prices) (is := xb_X8_prices_34) pg_X8_prices (by rfl) H
theorem xK_X8_prices {o : Nat} {x1 : Int32} {x2 : Int32} {x3 : Int32} {h h1 : xH} {r : Option Value} {fs : List Value} (ho : h[o]? = some (.inr (7, fs))) (H : x_EV 161 0 [some (.ref o), some (.int x1), some (.int x2), some (.int x3)] [] h r h1) : xK 161 [.ref o, .int x1, .int x2, .int x3] h r h1 := x_calX_v pg_X8_prices rfl rfl (Nat.le_of_ble_eq_true rfl) rfl ho H
theorem pg_X8_listensAll : x_Pg[162]? = some xm_X8_listensAll := by
  unfold x_Pg
  rfl
theorem xe_X8_listensAll_0 {ls : xL} {st : List Value} {h h' : xH} {r : Option Value} (H : x_ev x_nm x_tf x_fn x_Pg x_EV 162 (some .boolean) r h' xb_X8_listensAll_0 0 ls st h) : x_EV 162 0 ls st h r h' := x_Ev_to (M := xm_X8_listensAll) (is := xb_X8_listensAll_0) pg_X8_listensAll (by rfl) H
theorem xe_X8_listensAll_7 {ls : xL} {st : List Value} {h h' : xH} {r : Option Value} (H : x_ev x_nm x_tf x_fn x_Pg x_EV 162 (some .boolean) r h' xb_X8_listensAll_7 7 ls st h) : x_EV 162 7 ls st h r h' := x_Ev_to (M := xm_X8_listensAll) (is := xb_X8_listensAll_7) pg_X8_listensAll (by rfl) H
theorem xe_X8_listensAll_44 {ls : xL} {st : List Value} {h h' : xH} {r : Option Value} (H : x_ev x_nm x_tf x_fn x_Pg x_EV 162 (some .boolean) r h' xb_X8_listensAll_44 44 ls st h) : x_EV 162 44 ls st h r h' := x_Ev_to (M := xm_X8_listensAll) (is := xb_X8_listensAll_44) pg_X8_listensAll (by rfl) H
theorem xe_X8_listensAll_46 {ls : xL} {st : List Value} {h h' : xH} {r : Option Value} (H : x_ev x_nm x_tf x_fn x_Pg x_EV 162 (some .boolean) r h' xb_X8_listensAll_46 46 ls st h) : x_EV 162 46 ls st h r h' := x_Ev_to (M := xm_X8_listensAll) (is := xb_X8_listensAll_46) pg_X8_listensAll (by rfl) H
theorem xe_X8_listensAll_62 {ls : xL} {st : List Value} {h h' : xH} {r : Option Value} (H : x_ev x_nm x_tf x_fn x_Pg x_EV 162 (some .boolean) r h' xb_X8_listensAll_62 62 ls st h) : x_EV 162 62 ls st h r h' := x_Ev_to (M := xm_X8_listensAll) (is := xb_X8_listensAll_62) pg_X8_listensAll (by rfl) H
theorem xK_X8_listensAll {o : Nat} {x1 : Int32} {h h1 : xH} {r : Option Value} {fs : List Value} (ho : h[o]? = some (.inr (7, fs))) (H : x_EV 162 0 [some (.ref o), some (.int x1), none] [] h r h1) : xK 162 [.ref o, .int x1] h r h1 := x_calX_v pg_X8_listensAll rfl rfl (Nat.le_of_ble_eq_true rfl) rfl ho H
theorem pg_X8_obeys : x_Pg[163]? = some xm_X8_obeys := by
  unfold x_Pg
  rfl
theorem xe_X8_obeys_0 {ls : xL} {st : List Value} {h h' : xH} {r : Option Value} (H : x_ev x_nm x_tf x_fn x_Pg x_EV 163 (some .boolean) r h' xb_X8_obeys_0 0 ls st h) : x_EV 163 0 ls st h r h' := x_Ev_to (M := xm_X8_obeys) (is := xb_X8_obeys_0) pg_X8_obeys (by rfl) H
theorem xe_X8_obeys_64 {ls : xL} {st : List Value} {h h' : xH} {r : Option Value} (H : x_ev x_nm x_tf x_fn x_Pg x_EV 163 (some .boolean) r h' xb_X8_obeys_64 64 ls st h) : x_EV 163 64 ls st h r h' := x_Ev_to (M := xm_X8_obeys) (is := xb_X8_obeys_64) pg_X8_obeys (by rfl) H
theorem xe_X8_obeys_72 {ls : xL} {st : List Value} {h h' : xH} {r : Option Value} (H : x_ev x_nm x_tf x_fn x_Pg x_EV 163 (some .boolean) r h' xb_X8_obeys_72 72 ls st h) : x_EV 163 72 ls st h r h' := x_Ev_to (M := xm_X8_obeys) (is := xb_X8_obeys_72) pg_X8_obeys (by rfl) H
theorem xe_X8_obeys_94 {ls : xL} {st : List Value} {h h' : xH} {r : Option Value} (H : x_ev x_nm x_tf x_fn x_Pg x_EV 163 (some .boolean) r h' xb_X8_obeys_94 94 ls st h) : x_EV 163 94 ls st h r h' := x_Ev_to (M := xm_X8_obeys) (is := xb_X8_obeys_94) pg_X8_obeys (by rfl) H
theorem xe_X8_obeys_145 {ls : xL} {st : List Value} {h h' : xH} {r : Option Value} (H : x_ev x_nm x_tf x_fn x_Pg x_EV 163 (some .boolean) r h' xb_X8_obeys_145 145 ls st h) : x_EV 163 145 ls st h r h' := x_Ev_to (M := xm_X8_obeys) (is := xb_X8_obeys_145) pg_X8_obeys (by rfl) H
theorem xe_X8_obeys_146 {ls : xL} {st : List Value} {h h' : xH} {r : Option Value} (H : x_ev x_nm x_tf x_fn x_Pg x_EV 163 (some .boolean) r h' xb_X8_obeys_146 146 ls st h) : x_EV 163 146 ls st h r h' := x_Ev_to (M := xm_X8_obeys) (is := xb_X8_obeys_146) pg_X8_obeys (by rfl) H
theorem xe_X8_obeys_160 {ls : xL} {st : List Value} {h h' : xH} {r : Option Value} (H : x_ev x_nm x_tf x_fn x_Pg x_EV 163 (some .boolean) r h' xb_X8_obeys_160 160 ls st h) : x_EV 163 160 ls st h r h' := x_Ev_to (M := xm_X8_obeys) (is := xb_X8_obeys_160) pg_X8_obeys (by rfl) H
theorem xe_X8_obeys_174 {ls : xL} {st : List Value} {h h' : xH} {r : Option Value} (H : x_ev x_nm x_tf x_fn x_Pg x_EV 163 (some .boolean) r h' xb_X8_obeys_174 174 ls st h) : x_EV 163 174 ls st h r h' := x_Ev_to (M := xm_X8_obeys) (is := xb_X8_obeys_174) pg_X8_obeys (by rfl) H
theorem xe_X8_obeys_175 {ls : xL} {st : List Value} {h h' : xH} {r : Option Value} (H : x_ev x_nm x_tf x_fn x_Pg x_EV 163 (some .boolean) r h' xb_X8_obeys_175 175 ls st h) : x_EV 163 175 ls st h r h' := x_Ev_to (M := xm_X8_obeys) (is := xb_X8_obeys_175) pg_X8_obeys (by rfl) H
theorem xe_X8_obeys_192 {ls : xL} {st : List Value} {h h' : xH} {r : Option Value} (H : x_ev x_nm x_tf x_fn x_Pg x_EV 163 (some .boolean) r h' xb_X8_obeys_192 192 ls st h) : x_EV 163 192 ls st h r h' := x_Ev_to (M := xm_X8_obeys) (is := xb_X8_obeys_192) pg_X8_obeys (by rfl) H
theorem xK_X8_obeys {o : Nat} {x1 : Int32} {h h1 : xH} {r : Option Value} {fs : List Value} (ho : h[o]? = some (.inr (7, fs))) (H : x_EV 163 0 [some (.ref o), some (.int x1), none, none, none] [] h r h1) : xK 163 [.ref o, .int x1] h r h1 := x_calX_v pg_X8_obeys rfl rfl (Nat.le_of_ble_eq_true rfl) rfl ho H
theorem pg_X8_turns : x_Pg[164]? = some xm_X8_turns := by
  unfold x_Pg
  rfl
theorem xe_X8_turns_0 {ls : xL} {st : List Value} {h h' : xH} {r : Option Value} (H : x_ev x_nm x_tf x_fn x_Pg x_EV 164 none r h' xb_X8_turns_0 0 ls st h) : x_EV 164 0 ls st h r h' := x_Ev_to (M := xm_X8_turns) (is := xb_X8_turns_0) pg_X8_turns (by rfl) H
theorem xe_X8_turns_2 {ls : xL} {st : List Value} {h h' : xH} {r : Option Value} (H : x_ev x_nm x_tf x_fn x_Pg x_EV 164 none r h' xb_X8_turns_2 2 ls st h) : x_EV 164 2 ls st h r h' := x_Ev_to (M := xm_X8_turns) (is := xb_X8_turns_2) pg_X8_turns (by rfl) H
theorem xe_X8_turns_41 {ls : xL} {st : List Value} {h h' : xH} {r : Option Value} (H : x_ev x_nm x_tf x_fn x_Pg x_EV 164 none r h' xb_X8_turns_41 41 ls st h) : x_EV 164 41 ls st h r h' := x_Ev_to (M := xm_X8_turns) (is := xb_X8_turns_41) pg_X8_turns (by rfl) H
theorem xK_X8_turns {o : Nat}  {h h1 : xH} {r : Option Value} {fs : List Value} (ho : h[o]? = some (.inr (7, fs))) (H : x_EV 164 0 [some (.ref o), none, none] [] h r h1) : xK 164 [.ref o] h r h1 := x_calX_v pg_X8_turns rfl rfl (Nat.le_of_ble_eq_true rfl) rfl ho H
theorem pg_X8_does : x_Pg[165]? = some xm_X8_does := by
  unfold x_Pg
  rfl
theorem xe_X8_does_0 {ls : xL} {st : List Value} {h h' : xH} {r : Option Value} (H : x_ev x_nm x_tf x_fn x_Pg x_EV 165 (some .int) r h' xb_X8_does_0 0 ls st h) : x_EV 165 0 ls st h r h' := x_Ev_to (M := xm_X8_does) (is := xb_X8_does_0) pg_X8_does (by rfl) H
theorem xe_X8_does_15 {ls : xL} {st : List Value} {h h' : xH} {r : Option Value} (H : x_ev x_nm x_tf x_fn x_Pg x_EV 165 (some .int) r h' xb_X8_does_15 15 ls st h) : x_EV 165 15 ls st h r h' := x_Ev_to (M := xm_X8_does) (is := xb_X8_does_15) pg_X8_does (by rfl) H
theorem xe_X8_does_17 {ls : xL} {st : List Value} {h h' : xH} {r : Option Value} (H : x_ev x_nm x_tf x_fn x_Pg x_EV 165 (some .int) r h' xb_X8_does_17 17 ls st h) : x_EV 165 17 ls st h r h' := x_Ev_to (M := xm_X8_does) (is := xb_X8_does_17) pg_X8_does (by rfl) H
theorem xe_X8_does_42 {ls : xL} {st : List Value} {h h' : xH} {r : Option Value} (H : x_ev x_nm x_tf x_fn x_Pg x_EV 165 (some .int) r h' xb_X8_does_42 42 ls st h) : x_EV 165 42 ls st h r h' := x_Ev_to (M := xm_X8_does) (is := xb_X8_does_42) pg_X8_does (by rfl) H
theorem xe_X8_does_44 {ls : xL} {st : List Value} {h h' : xH} {r : Option Value} (H : x_ev x_nm x_tf x_fn x_Pg x_EV 165 (some .int) r h' xb_X8_does_44 44 ls st h) : x_EV 165 44 ls st h r h' := x_Ev_to (M := xm_X8_does) (is := xb_X8_does_44) pg_X8_does (by rfl) H
theorem xe_X8_does_70 {ls : xL} {st : List Value} {h h' : xH} {r : Option Value} (H : x_ev x_nm x_tf x_fn x_Pg x_EV 165 (some .int) r h' xb_X8_does_70 70 ls st h) : x_EV 165 70 ls st h r h' := x_Ev_to (M := xm_X8_does) (is := xb_X8_does_70) pg_X8_does (by rfl) H
theorem xe_X8_does_76 {ls : xL} {st : List Value} {h h' : xH} {r : Option Value} (H : x_ev x_nm x_tf x_fn x_Pg x_EV 165 (some .int) r h' xb_X8_does_76 76 ls st h) : x_EV 165 76 ls st h r h' := x_Ev_to (M := xm_X8_does) (is := xb_X8_does_76) pg_X8_does (by rfl) H
theorem xK_X8_does {o : Nat}  {h h1 : xH} {r : Option Value} {fs : List Value} (ho : h[o]? = some (.inr (7, fs))) (H : x_EV 165 0 [some (.ref o), none] [] h r h1) : xK 165 [.ref o] h r h1 := x_calX_v pg_X8_does rfl rfl (Nat.le_of_ble_eq_true rfl) rfl ho H
theorem pg_X5_pop : x_Pg[166]? = some xm_X5_pop := by
  unfold x_Pg
  rfl
theorem xe_X5_pop_0 {ls : xL} {st : List Value} {h h' : xH} {r : Option Value} (H : x_ev x_nm x_tf x_fn x_Pg x_EV 166 none r h' xb_X5_pop_0 0 ls st h) : x_EV 166 0 ls st h r h' := x_Ev_to (M := xm_X5_pop) (is := xb_X5_pop_0) pg_X5_pop (by rfl) H
theorem xe_X5_pop_46 {ls : xL} {st : List Value} {h h' : xH} {r : Option Value} (H : x_ev x_nm x_tf x_fn x_Pg x_EV 166 none r h' xb_X5_pop_46 46 ls st h) : x_EV 166 46 ls st h r h' := x_Ev_to (M := xm_X5_pop) (is := xb_X5_pop_46) pg_X5_pop (by rfl) H
theorem xK_X5_pop {o : Nat} {x1 : Nat} {h h1 : xH} {r : Option Value} {fs : List Value} (ho : h[o]? = some (.inr (4, fs))) (H : x_EV 166 0 [some (.ref o), some (.ref x1)] [] h r h1) : xK 166 [.ref o, .ref x1] h r h1 := x_calX_v pg_X5_pop rfl rfl (Nat.le_of_ble_eq_true rfl) rfl ho H
theorem pg_X7_back : x_Pg[167]? = some xm_X7_back := by
  unfold x_Pg
  rfl
theorem xe_X7_back_0 {ls : xL} {st : List Value} {h h' : xH} {r : Option Value} (H : x_ev x_nm x_tf x_fn x_Pg x_EV 167 (some .int) r h' xb_X7_back_0 0 ls st h) : x_EV 167 0 ls st h r h' := x_Ev_to (M := xm_X7_back) (is := xb_X7_back_0) pg_X7_back (by rfl) H
theorem xe_X7_back_17 {ls : xL} {st : List Value} {h h' : xH} {r : Option Value} (H : x_ev x_nm x_tf x_fn x_Pg x_EV 167 (some .int) r h' xb_X7_back_17 17 ls st h) : x_EV 167 17 ls st h r h' := x_Ev_to (M := xm_X7_back) (is := xb_X7_back_17) pg_X7_back (by rfl) H
theorem xK_X7_back {o : Nat}  {h h1 : xH} {r : Option Value} {fs : List Value} (ho : h[o]? = some (.inr (6, fs))) (H : x_EV 167 0 [some (.ref o)] [] h r h1) : xK 167 [.ref o] h r h1 := x_calX_v pg_X7_back rfl rfl (Nat.le_of_ble_eq_true rfl) rfl ho H
theorem pg_X8_back : x_Pg[168]? = some xm_X8_back := by
  unfold x_Pg
  rfl
theorem xe_X8_back_0 {ls : xL} {st : List Value} {h h' : xH} {r : Option Value} (H : x_ev x_nm x_tf x_fn x_Pg x_EV 168 (some .int) r h' xb_X8_back_0 0 ls st h) : x_EV 168 0 ls st h r h' := x_Ev_to (M := xm_X8_back) (is := xb_X8_back_0) pg_X8_back (by rfl) H
theorem xe_X8_back_12 {ls : xL} {st : List Value} {h h' : xH} {r : Option Value} (H : x_ev x_nm x_tf x_fn x_Pg x_EV 168 (some .int) r h' xb_X8_back_12 12 ls st h) : x_EV 168 12 ls st h r h' := x_Ev_to (M := xm_X8_back) (is := xb_X8_back_12) pg_X8_back (by rfl) H
theorem xe_X8_back_24 {ls : xL} {st : List Value} {h h' : xH} {r : Option Value} (H : x_ev x_nm x_tf x_fn x_Pg x_EV 168 (some .int) r h' xb_X8_back_24 24 ls st h) : x_EV 168 24 ls st h r h' := x_Ev_to (M := xm_X8_back) (is := xb_X8_back_24) pg_X8_back (by rfl) H
theorem xe_X8_back_58 {ls : xL} {st : List Value} {h h' : xH} {r : Option Value} (H : x_ev x_nm x_tf x_fn x_Pg x_EV 168 (some .int) r h' xb_X8_back_58 58 ls st h) : x_EV 168 58 ls st h r h' := x_Ev_to (M := xm_X8_back) (is := xb_X8_back_58) pg_X8_back (by rfl) H
theorem xK_X8_back {o : Nat}  {h h1 : xH} {r : Option Value} {fs : List Value} (ho : h[o]? = some (.inr (7, fs))) (H : x_EV 168 0 [some (.ref o), none] [] h r h1) : xK 168 [.ref o] h r h1 := x_calX_v pg_X8_back rfl rfl (Nat.le_of_ble_eq_true rfl) rfl ho H
theorem pg_X7_told : x_Pg[169]? = some xm_X7_told := by
  unfold x_Pg
  rfl
theorem xe_X7_told_0 {ls : xL} {st : List Value} {h h' : xH} {r : Option Value} (H : x_ev x_nm x_tf x_fn x_Pg x_EV 169 (some .int) r h' xb_X7_told_0 0 ls st h) : x_EV 169 0 ls st h r h' := x_Ev_to (M := xm_X7_told) (is := xb_X7_told_0) pg_X7_told (by rfl) H
theorem xe_X7_told_52 {ls : xL} {st : List Value} {h h' : xH} {r : Option Value} (H : x_ev x_nm x_tf x_fn x_Pg x_EV 169 (some .int) r h' xb_X7_told_52 52 ls st h) : x_EV 169 52 ls st h r h' := x_Ev_to (M := xm_X7_told) (is := xb_X7_told_52) pg_X7_told (by rfl) H
theorem xe_X7_told_59 {ls : xL} {st : List Value} {h h' : xH} {r : Option Value} (H : x_ev x_nm x_tf x_fn x_Pg x_EV 169 (some .int) r h' xb_X7_told_59 59 ls st h) : x_EV 169 59 ls st h r h' := x_Ev_to (M := xm_X7_told) (is := xb_X7_told_59) pg_X7_told (by rfl) H
theorem xe_X7_told_66 {ls : xL} {st : List Value} {h h' : xH} {r : Option Value} (H : x_ev x_nm x_tf x_fn x_Pg x_EV 169 (some .int) r h' xb_X7_told_66 66 ls st h) : x_EV 169 66 ls st h r h' := x_Ev_to (M := xm_X7_told) (is := xb_X7_told_66) pg_X7_told (by rfl) H
theorem xe_X7_told_73 {ls : xL} {st : List Value} {h h' : xH} {r : Option Value} (H : x_ev x_nm x_tf x_fn x_Pg x_EV 169 (some .int) r h' xb_X7_told_73 73 ls st h) : x_EV 169 73 ls st h r h' := x_Ev_to (M := xm_X7_told) (is := xb_X7_told_73) pg_X7_told (by rfl) H
theorem xe_X7_told_84 {ls : xL} {st : List Value} {h h' : xH} {r : Option Value} (H : x_ev x_nm x_tf x_fn x_Pg x_EV 169 (some .int) r h' xb_X7_told_84 84 ls st h) : x_EV 169 84 ls st h r h' := x_Ev_to (M := xm_X7_told) (is := xb_X7_told_84) pg_X7_told (by rfl) H
theorem xe_X7_told_97 {ls : xL} {st : List Value} {h h' : xH} {r : Option Value} (H : x_ev x_nm x_tf x_fn x_Pg x_EV 169 (some .int) r h' xb_X7_told_97 97 ls st h) : x_EV 169 97 ls st h r h' := x_Ev_to (M := xm_X7_told) (is := xb_X7_told_97) pg_X7_told (by rfl) H
theorem xe_X7_told_110 {ls : xL} {st : List Value} {h h' : xH} {r : Option Value} (H : x_ev x_nm x_tf x_fn x_Pg x_EV 169 (some .int) r h' xb_X7_told_110 110 ls st h) : x_EV 169 110 ls st h r h' := x_Ev_to (M := xm_X7_told) (is := xb_X7_told_110) pg_X7_told (by rfl) H
theorem xe_X7_told_123 {ls : xL} {st : List Value} {h h' : xH} {r : Option Value} (H : x_ev x_nm x_tf x_fn x_Pg x_EV 169 (some .int) r h' xb_X7_told_123 123 ls st h) : x_EV 169 123 ls st h r h' := x_Ev_to (M := xm_X7_told) (is := xb_X7_told_123) pg_X7_told (by rfl) H
theorem xe_X7_told_131 {ls : xL} {st : List Value} {h h' : xH} {r : Option Value} (H : x_ev x_nm x_tf x_fn x_Pg x_EV 169 (some .int) r h' xb_X7_told_131 131 ls st h) : x_EV 169 131 ls st h r h' := x_Ev_to (M := xm_X7_told) (is := xb_X7_told_131) pg_X7_told (by rfl) H
theorem xe_X7_told_139 {ls : xL} {st : List Value} {h h' : xH} {r : Option Value} (H : x_ev x_nm x_tf x_fn x_Pg x_EV 169 (some .int) r h' xb_X7_told_139 139 ls st h) : x_EV 169 139 ls st h r h' := x_Ev_to (M := xm_X7_told) (is := xb_X7_told_139) pg_X7_told (by rfl) H
theorem xK_X7_told {o : Nat} {x1 : Int32} {h h1 : xH} {r : Option Value} {fs : List Value} (ho : h[o]? = some (.inr (6, fs))) (H : x_EV 169 0 [some (.ref o), some (.int x1)] [] h r h1) : xK 169 [.ref o, .int x1] h r h1 := x_calX_v pg_X7_told rfl rfl (Nat.le_of_ble_eq_true rfl) rfl ho H
theorem pg_X8_toldOf : x_Pg[170]? = some xm_X8_toldOf := by
  unfold x_Pg
  rfl
theorem xe_X8_toldOf_0 {ls : xL} {st : List Value} {h h' : xH} {r : Option Value} (H : x_ev x_nm x_tf x_fn x_Pg x_EV 170 (some .int) r h' xb_X8_toldOf_0 0 ls st h) : x_EV 170 0 ls st h r h' := x_Ev_to (M := xm_X8_toldOf) (is := xb_X8_toldOf_0) pg_X8_toldOf (by rfl) H
theorem xe_X8_toldOf_14 {ls : xL} {st : List Value} {h h' : xH} {r : Option Value} (H : x_ev x_nm x_tf x_fn x_Pg x_EV 170 (some .int) r h' xb_X8_toldOf_14 14 ls st h) : x_EV 170 14 ls st h r h' := x_Ev_to (M := xm_X8_toldOf) (is := xb_X8_toldOf_14) pg_X8_toldOf (by rfl) H
theorem xe_X8_toldOf_29 {ls : xL} {st : List Value} {h h' : xH} {r : Option Value} (H : x_ev x_nm x_tf x_fn x_Pg x_EV 170 (some .int) r h' xb_X8_toldOf_29 29 ls st h) : x_EV 170 29 ls st h r h' := x_Ev_to (M := xm_X8_toldOf) (is := xb_X8_toldOf_29) pg_X8_toldOf (by rfl) H
theorem xe_X8_toldOf_49 {ls : xL} {st : List Value} {h h' : xH} {r : Option Value} (H : x_ev x_nm x_tf x_fn x_Pg x_EV 170 (some .int) r h' xb_X8_toldOf_49 49 ls st h) : x_EV 170 49 ls st h r h' := x_Ev_to (M := xm_X8_toldOf) (is := xb_X8_toldOf_49) pg_X8_toldOf (by rfl) H
theorem xe_X8_toldOf_62 {ls : xL} {st : List Value} {h h' : xH} {r : Option Value} (H : x_ev x_nm x_tf x_fn x_Pg x_EV 170 (some .int) r h' xb_X8_toldOf_62 62 ls st h) : x_EV 170 62 ls st h r h' := x_Ev_to (M := xm_X8_toldOf) (is := xb_X8_toldOf_62) pg_X8_toldOf (by rfl) H
theorem xe_X8_toldOf_66 {ls : xL} {st : List Value} {h h' : xH} {r : Option Value} (H : x_ev x_nm x_tf x_fn x_Pg x_EV 170 (some .int) r h' xb_X8_toldOf_66 66 ls st h) : x_EV 170 66 ls st h r h' := x_Ev_to (M := xm_X8_toldOf) (is := xb_X8_toldOf_66) pg_X8_toldOf (by rfl) H
theorem xK_X8_toldOf {o : Nat} {x1 : Int32} {h h1 : xH} {r : Option Value} {fs : List Value} (ho : h[o]? = some (.inr (7, fs))) (H : x_EV 170 0 [some (.ref o), some (.int x1)] [] h r h1) : xK 170 [.ref o, .int x1] h r h1 := x_calX_v pg_X8_toldOf rfl rfl (Nat.le_of_ble_eq_true rfl) rfl ho H
theorem pg_X8_told : x_Pg[171]? = some xm_X8_told := by
  unfold x_Pg
  rfl
theorem xe_X8_told_0 {ls : xL} {st : List Value} {h h' : xH} {r : Option Value} (H : x_ev x_nm x_tf x_fn x_Pg x_EV 171 (some .int) r h' xb_X8_told_0 0 ls st h) : x_EV 171 0 ls st h r h' := x_Ev_to (M := xm_X8_told) (is := xb_X8_told_0) pg_X8_told (by rfl) H
theorem xe_X8_told_18 {ls : xL} {st : List Value} {h h' : xH} {r : Option Value} (H : x_ev x_nm x_tf x_fn x_Pg x_EV 171 (some .int) r h' xb_X8_told_18 18 ls st h) : x_EV 171 18 ls st h r h' := x_Ev_to (M := xm_X8_told) (is := xb_X8_told_18) pg_X8_told (by rfl) H
theorem xe_X8_told_22 {ls : xL} {st : List Value} {h h' : xH} {r : Option Value} (H : x_ev x_nm x_tf x_fn x_Pg x_EV 171 (some .int) r h' xb_X8_told_22 22 ls st h) : x_EV 171 22 ls st h r h' := x_Ev_to (M := xm_X8_told) (is := xb_X8_told_22) pg_X8_told (by rfl) H
theorem xK_X8_told {o : Nat} {x1 : Int32} {h h1 : xH} {r : Option Value} {fs : List Value} (ho : h[o]? = some (.inr (7, fs))) (H : x_EV 171 0 [some (.ref o), some (.int x1)] [] h r h1) : xK 171 [.ref o, .int x1] h r h1 := x_calX_v pg_X8_told rfl rfl (Nat.le_of_ble_eq_true rfl) rfl ho H
theorem pg_X7_digestOfSentence : x_Pg[172]? = some xm_X7_digestOfSentence := by
  unfold x_Pg
  rfl
theorem xe_X7_digestOfSentence_0 {ls : xL} {st : List Value} {h h' : xH} {r : Option Value} (H : x_ev x_nm x_tf x_fn x_Pg x_EV 172 (some .long) r h' xb_X7_digestOfSentence_0 0 ls st h) : x_EV 172 0 ls st h r h' := x_Ev_to (M := xm_X7_digestOfSentence) (is := xb_X7_digestOfSentence_0) pg_X7_digestOfSentence (by rfl) H
theorem xe_X7_digestOfSentence_5 {ls : xL} {st : List Value} {h h' : xH} {r : Option Value} (H : x_ev x_nm x_tf x_fn x_Pg x_EV 172 (some .long) r h' xb_X7_digestOfSentence_5 5 ls st h) : x_EV 172 5 ls st h r h' := x_Ev_to (M := xm_X7_digestOfSentence) (is := xb_X7_digestOfSentence_5) pg_X7_digestOfSentence (by rfl) H
theorem xe_X7_digestOfSentence_32 {ls : xL} {st : List Value} {h h' : xH} {r : Option Value} (H : x_ev x_nm x_tf x_fn x_Pg x_EV 172 (some .long) r h' xb_X7_digestOfSentence_32 32 ls st h) : x_EV 172 32 ls st h r h' := x_Ev_to (M := xm_X7_digestOfSentence) (is := xb_X7_digestOfSentence_32) pg_X7_digestOfSentence (by rfl) H
theorem xe_X7_digestOfSentence_35 {ls : xL} {st : List Value} {h h' : xH} {r : Option Value} (H : x_ev x_nm x_tf x_fn x_Pg x_EV 172 (some .long) r h' xb_X7_digestOfSentence_35 35 ls st h) : x_EV 172 35 ls st h r h' := x_Ev_to (M := xm_X7_digestOfSentence) (is := xb_X7_digestOfSentence_35) pg_X7_digestOfSentence (by rfl) H
theorem xe_X7_digestOfSentence_53 {ls : xL} {st : List Value} {h h' : xH} {r : Option Value} (H : x_ev x_nm x_tf x_fn x_Pg x_EV 172 (some .long) r h' xb_X7_digestOfSentence_53 53 ls st h) : x_EV 172 53 ls st h r h' := x_Ev_to (M := xm_X7_digestOfSentence) (is := xb_X7_digestOfSentence_53) pg_X7_digestOfSentence (by rfl) H
theorem xe_X7_digestOfSentence_81 {ls : xL} {st : List Value} {h h' : xH} {r : Option Value} (H : x_ev x_nm x_tf x_fn x_Pg x_EV 172 (some .long) r h' xb_X7_digestOfSentence_81 81 ls st h) : x_EV 172 81 ls st h r h' := x_Ev_to (M := xm_X7_digestOfSentence) (is := xb_X7_digestOfSentence_81) pg_X7_digestOfSentence (by rfl) H
theorem xe_X7_digestOfSentence_87 {ls : xL} {st : List Value} {h h' : xH} {r : Option Value} (H : x_ev x_nm x_tf x_fn x_Pg x_EV 172 (some .long) r h' xb_X7_digestOfSentence_87 87 ls st h) : x_EV 172 87 ls st h r h' := x_Ev_to (M := xm_X7_digestOfSentence) (is := xb_X7_digestOfSentence_87) pg_X7_digestOfSentence (by rfl) H
theorem xK_X7_digestOfSentence {o : Nat} {x1 : Int64} {h h1 : xH} {r : Option Value} {fs : List Value} (ho : h[o]? = some (.inr (6, fs))) (H : x_EV 172 0 [some (.ref o), some (.long x1), none, none, none, none, none] [] h r h1) : xK 172 [.ref o, .long x1] h r h1 := x_calX_v pg_X7_digestOfSentence rfl rfl (Nat.le_of_ble_eq_true rfl) rfl ho H
theorem pg_X7_digestOfGrammar : x_Pg[173]? = some xm_X7_digestOfGrammar := by
  unfold x_Pg
  rfl
theorem xe_X7_digestOfGrammar_0 {ls : xL} {st : List Value} {h h' : xH} {r : Option Value} (H : x_ev x_nm x_tf x_fn x_Pg x_EV 173 (some .long) r h' xb_X7_digestOfGrammar_0 0 ls st h) : x_EV 173 0 ls st h r h' := x_Ev_to (M := xm_X7_digestOfGrammar) (is := xb_X7_digestOfGrammar_0) pg_X7_digestOfGrammar (by rfl) H
theorem xe_X7_digestOfGrammar_5 {ls : xL} {st : List Value} {h h' : xH} {r : Option Value} (H : x_ev x_nm x_tf x_fn x_Pg x_EV 173 (some .long) r h' xb_X7_digestOfGrammar_5 5 ls st h) : x_EV 173 5 ls st h r h' := x_Ev_to (M := xm_X7_digestOfGrammar) (is := xb_X7_digestOfGrammar_5) pg_X7_digestOfGrammar (by rfl) H
theorem xe_X7_digestOfGrammar_23 {ls : xL} {st : List Value} {h h' : xH} {r : Option Value} (H : x_ev x_nm x_tf x_fn x_Pg x_EV 173 (some .long) r h' xb_X7_digestOfGrammar_23 23 ls st h) : x_EV 173 23 ls st h r h' := x_Ev_to (M := xm_X7_digestOfGrammar) (is := xb_X7_digestOfGrammar_23) pg_X7_digestOfGrammar (by rfl) H
theorem xe_X7_digestOfGrammar_51 {ls : xL} {st : List Value} {h h' : xH} {r : Option Value} (H : x_ev x_nm x_tf x_fn x_Pg x_EV 173 (some .long) r h' xb_X7_digestOfGrammar_51 51 ls st h) : x_EV 173 51 ls st h r h' := x_Ev_to (M := xm_X7_digestOfGrammar) (is := xb_X7_digestOfGrammar_51) pg_X7_digestOfGrammar (by rfl) H
theorem xe_X7_digestOfGrammar_57 {ls : xL} {st : List Value} {h h' : xH} {r : Option Value} (H : x_ev x_nm x_tf x_fn x_Pg x_EV 173 (some .long) r h' xb_X7_digestOfGrammar_57 57 ls st h) : x_EV 173 57 ls st h r h' := x_Ev_to (M := xm_X7_digestOfGrammar) (is := xb_X7_digestOfGrammar_57) pg_X7_digestOfGrammar (by rfl) H
theorem xe_X7_digestOfGrammar_60 {ls : xL} {st : List Value} {h h' : xH} {r : Option Value} (H : x_ev x_nm x_tf x_fn x_Pg x_EV 173 (some .long) r h' xb_X7_digestOfGrammar_60 60 ls st h) : x_EV 173 60 ls st h r h' := x_Ev_to (M := xm_X7_digestOfGrammar) (is := xb_X7_digestOfGrammar_60) pg_X7_digestOfGrammar (by rfl) H
theorem xe_X7_digestOfGrammar_94 {ls : xL} {st : List Value} {h h' : xH} {r : Option Value} (H : x_ev x_nm x_tf x_fn x_Pg x_EV 173 (some .long) r h' xb_X7_digestOfGrammar_94 94 ls st h) : x_EV 173 94 ls st h r h' := x_Ev_to (M := xm_X7_digestOfGrammar) (is := xb_X7_digestOfGrammar_94) pg_X7_digestOfGrammar (by rfl) H
theorem xe_X7_digestOfGrammar_97 {ls : xL} {st : List Value} {h h' : xH} {r : Option Value} (H : x_ev x_nm x_tf x_fn x_Pg x_EV 173 (some .long) r h' xb_X7_digestOfGrammar_97 97 ls st h) : x_EV 173 97 ls st h r h' := x_Ev_to (M := xm_X7_digestOfGrammar) (is := xb_X7_digestOfGrammar_97) pg_X7_digestOfGrammar (by rfl) H
theorem xe_X7_digestOfGrammar_107 {ls : xL} {st : List Value} {h h' : xH} {r : Option Value} (H : x_ev x_nm x_tf x_fn x_Pg x_EV 173 (some .long) r h' xb_X7_digestOfGrammar_107 107 ls st h) : x_EV 173 107 ls st h r h' := x_Ev_to (M := xm_X7_digestOfGrammar) (is := xb_X7_digestOfGrammar_107) pg_X7_digestOfGrammar (by rfl) H
theorem xe_X7_digestOfGrammar_117 {ls : xL} {st : List Value} {h h' : xH} {r : Option Value} (H : x_ev x_nm x_tf x_fn x_Pg x_EV 173 (some .long) r h' xb_X7_digestOfGrammar_117 117 ls st h) : x_EV 173 117 ls st h r h' := x_Ev_to (M := xm_X7_digestOfGrammar) (is := xb_X7_digestOfGrammar_117) pg_X7_digestOfGrammar (by rfl) H
theorem xe_X7_digestOfGrammar_147 {ls : xL} {st : List Value} {h h' : xH} {r : Option Value} (H : x_ev x_nm x_tf x_fn x_Pg x_EV 173 (some .long) r h' xb_X7_digestOfGrammar_147 147 ls st h) : x_EV 173 147 ls st h r h' := x_Ev_to (M := xm_X7_digestOfGrammar) (is := xb_X7_digestOfGrammar_147) pg_X7_digestOfGrammar (by rfl) H
theorem xe_X7_digestOfGrammar_153 {ls : xL} {st : List Value} {h h' : xH} {r : Option Value} (H : x_ev x_nm x_tf x_fn x_Pg x_EV 173 (some .long) r h' xb_X7_digestOfGrammar_153 153 ls st h) : x_EV 173 153 ls st h r h' := x_Ev_to (M := xm_X7_digestOfGrammar) (is := xb_X7_digestOfGrammar_153) pg_X7_digestOfGrammar (by rfl) H
theorem xe_X7_digestOfGrammar_159 {ls : xL} {st : List Value} {h h' : xH} {r : Option Value} (H : x_ev x_nm x_tf x_fn x_Pg x_EV 173 (some .long) r h' xb_X7_digestOfGrammar_159 159 ls st h) : x_EV 173 159 ls st h r h' := x_Ev_to (M := xm_X7_digestOfGrammar) (is := xb_X7_digestOfGrammar_159) pg_X7_digestOfGrammar (by rfl) H
theorem xK_X7_digestOfGrammar {o : Nat} {x1 : Int64} {h h1 : xH} {r : Option Value} {fs : List Value} (ho : h[o]? = some (.inr (6, fs))) (H : x_EV 173 0 [some (.ref o), some (.long x1), none, none, none, none, none, none] [] h r h1) : xK 173 [.ref o, .long x1] h r h1 := x_calX_v pg_X7_digestOfGrammar rfl rfl (Nat.le_of_ble_eq_true rfl) rfl ho H
theorem pg_X7_digest : x_Pg[174]? = some xm_X7_digest := by
  unfold x_Pg
  rfl
theorem xe_X7_digest_0 {ls : xL} {st : List Value} {h h' : xH} {r : Option Value} (H : x_ev x_nm x_tf x_fn x_Pg x_EV 174 (some .long) r h' xb_X7_digest_0 0 ls st h) : x_EV 174 0 ls st h r h' := x_Ev_to (M := xm_X7_digest) (is := xb_X7_digest_0) pg_X7_digest (by rfl) H
theorem xe_X7_digest_6 {ls : xL} {st : List Value} {h h' : xH} {r : Option Value} (H : x_ev x_nm x_tf x_fn x_Pg x_EV 174 (some .long) r h' xb_X7_digest_6 6 ls st h) : x_EV 174 6 ls st h r h' := x_Ev_to (M := xm_X7_digest) (is := xb_X7_digest_6) pg_X7_digest (by rfl) H
theorem xe_X7_digest_31 {ls : xL} {st : List Value} {h h' : xH} {r : Option Value} (H : x_ev x_nm x_tf x_fn x_Pg x_EV 174 (some .long) r h' xb_X7_digest_31 31 ls st h) : x_EV 174 31 ls st h r h' := x_Ev_to (M := xm_X7_digest) (is := xb_X7_digest_31) pg_X7_digest (by rfl) H
theorem xK_X7_digest {o : Nat}  {h h1 : xH} {r : Option Value} {fs : List Value} (ho : h[o]? = some (.inr (6, fs))) (H : x_EV 174 0 [some (.ref o), none, none, none] [] h r h1) : xK 174 [.ref o] h r h1 := x_calX_v pg_X7_digest rfl rfl (Nat.le_of_ble_eq_true rfl) rfl ho H
theorem pg_X8_mix : x_Pg[175]? = some xm_X8_mix := by
  unfold x_Pg
  rfl
theorem xe_X8_mix_0 {ls : xL} {st : List Value} {h h' : xH} {r : Option Value} (H : x_ev x_nm x_tf x_fn x_Pg x_EV 175 none r h' xb_X8_mix_0 0 ls st h) : x_EV 175 0 ls st h r h' := x_Ev_to (M := xm_X8_mix) (is := xb_X8_mix_0) pg_X8_mix (by rfl) H
theorem xK_X8_mix {o : Nat} {x1 : Int64} {h h1 : xH} {r : Option Value} {fs : List Value} (ho : h[o]? = some (.inr (7, fs))) (H : x_EV 175 0 [some (.ref o), some (.long x1), none] [] h r h1) : xK 175 [.ref o, .long x1] h r h1 := x_calX_v pg_X8_mix rfl rfl (Nat.le_of_ble_eq_true rfl) rfl ho H
theorem pg_X8_digest : x_Pg[176]? = some xm_X8_digest := by
  unfold x_Pg
  rfl
theorem xe_X8_digest_0 {ls : xL} {st : List Value} {h h' : xH} {r : Option Value} (H : x_ev x_nm x_tf x_fn x_Pg x_EV 176 (some .long) r h' xb_X8_digest_0 0 ls st h) : x_EV 176 0 ls st h r h' := x_Ev_to (M := xm_X8_digest) (is := xb_X8_digest_0) pg_X8_digest (by rfl) H
theorem xe_X8_digest_9 {ls : xL} {st : List Value} {h h' : xH} {r : Option Value} (H : x_ev x_nm x_tf x_fn x_Pg x_EV 176 (some .long) r h' xb_X8_digest_9 9 ls st h) : x_EV 176 9 ls st h r h' := x_Ev_to (M := xm_X8_digest) (is := xb_X8_digest_9) pg_X8_digest (by rfl) H
theorem xe_X8_digest_31 {ls : xL} {st : List Value} {h h' : xH} {r : Option Value} (H : x_ev x_nm x_tf x_fn x_Pg x_EV 176 (some .long) r h' xb_X8_digest_31 31 ls st h) : x_EV 176 31 ls st h r h' := x_Ev_to (M := xm_X8_digest) (is := xb_X8_digest_31) pg_X8_digest (by rfl) H
theorem xe_X8_digest_33 {ls : xL} {st : List Value} {h h' : xH} {r : Option Value} (H : x_ev x_nm x_tf x_fn x_Pg x_EV 176 (some .long) r h' xb_X8_digest_33 33 ls st h) : x_EV 176 33 ls st h r h' := x_Ev_to (M := xm_X8_digest) (is := xb_X8_digest_33) pg_X8_digest (by rfl) H
theorem xe_X8_digest_55 {ls : xL} {st : List Value} {h h' : xH} {r : Option Value} (H : x_ev x_nm x_tf x_fn x_Pg x_EV 176 (some .long) r h' xb_X8_digest_55 55 ls st h) : x_EV 176 55 ls st h r h' := x_Ev_to (M := xm_X8_digest) (is := xb_X8_digest_55) pg_X8_digest (by rfl) H
theorem xe_X8_digest_57 {ls : xL} {st : List Value} {h h' : xH} {r : Option Value} (H : x_ev x_nm x_tf x_fn x_Pg x_EV 176 (some .long) r h' xb_X8_digest_57 57 ls st h) : x_EV 176 57 ls st h r h' := x_Ev_to (M := xm_X8_digest) (is := xb_X8_digest_57) pg_X8_digest (by rfl) H
theorem xe_X8_digest_70 {ls : xL} {st : List Value} {h h' : xH} {r : Option Value} (H : x_ev x_nm x_tf x_fn x_Pg x_EV 176 (some .long) r h' xb_X8_digest_70 70 ls st h) : x_EV 176 70 ls st h r h' := x_Ev_to (M := xm_X8_digest) (is := xb_X8_digest_70) pg_X8_digest (by rfl) H
theorem xe_X8_digest_93 {ls : xL} {st : List Value} {h h' : xH} {r : Option Value} (H : x_ev x_nm x_tf x_fn x_Pg x_EV 176 (some .long) r h' xb_X8_digest_93 93 ls st h) : x_EV 176 93 ls st h r h' := x_Ev_to (M := xm_X8_digest) (is := xb_X8_digest_93) pg_X8_digest (by rfl) H
theorem xe_X8_digest_99 {ls : xL} {st : List Value} {h h' : xH} {r : Option Value} (H : x_ev x_nm x_tf x_fn x_Pg x_EV 176 (some .long) r h' xb_X8_digest_99 99 ls st h) : x_EV 176 99 ls st h r h' := x_Ev_to (M := xm_X8_digest) (is := xb_X8_digest_99) pg_X8_digest (by rfl) H
theorem xe_X8_digest_101 {ls : xL} {st : List Value} {h h' : xH} {r : Option Value} (H : x_ev x_nm x_tf x_fn x_Pg x_EV 176 (some .long) r h' xb_X8_digest_101 101 ls st h) : x_EV 176 101 ls st h r h' := x_Ev_to (M := xm_X8_digest) (is := xb_X8_digest_101) pg_X8_digest (by rfl) H
theorem xe_X8_digest_134 {ls : xL} {st : List Value} {h h' : xH} {r : Option Value} (H : x_ev x_nm x_tf x_fn x_Pg x_EV 176 (some .long) r h' xb_X8_digest_134 134 ls st h) : x_EV 176 134 ls st h r h' := x_Ev_to (M := xm_X8_digest) (is := xb_X8_digest_134) pg_X8_digest (by rfl) H
theorem xe_X8_digest_136 {ls : xL} {st : List Value} {h h' : xH} {r : Option Value} (H : x_ev x_nm x_tf x_fn x_Pg x_EV 176 (some .long) r h' xb_X8_digest_136 136 ls st h) : x_EV 176 136 ls st h r h' := x_Ev_to (M := xm_X8_digest) (is := xb_X8_digest_136) pg_X8_digest (by rfl) H
theorem xe_X8_digest_162 {ls : xL} {st : List Value} {h h' : xH} {r : Option Value} (H : x_ev x_nm x_tf x_fn x_Pg x_EV 176 (some .long) r h' xb_X8_digest_162 162 ls st h) : x_EV 176 162 ls st h r h' := x_Ev_to (M := xm_X8_digest) (is := xb_X8_digest_162) pg_X8_digest (by rfl) H
theorem xe_X8_digest_164 {ls : xL} {st : List Value} {h h' : xH} {r : Option Value} (H : x_ev x_nm x_tf x_fn x_Pg x_EV 176 (some .long) r h' xb_X8_digest_164 164 ls st h) : x_EV 176 164 ls st h r h' := x_Ev_to (M := xm_X8_digest) (is := xb_X8_digest_164) pg_X8_digest (by rfl) H
theorem xe_X8_digest_189 {ls : xL} {st : List Value} {h h' : xH} {r : Option Value} (H : x_ev x_nm x_tf x_fn x_Pg x_EV 176 (some .long) r h' xb_X8_digest_189 189 ls st h) : x_EV 176 189 ls st h r h' := x_Ev_to (M := xm_X8_digest) (is := xb_X8_digest_189) pg_X8_digest (by rfl) H
theorem xK_X8_digest {o : Nat}  {h h1 : xH} {r : Option Value} {fs : List Value} (ho : h[o]? = some (.inr (7, fs))) (H : x_EV 176 0 [some (.ref o), none, none] [] h r h1) : xK 176 [.ref o] h r h1 := x_calX_v pg_X8_digest rfl rfl (Nat.le_of_ble_eq_true rfl) rfl ho H
theorem pg_law : x_Pg[177]? = some xm_law := by
  unfold x_Pg
  rfl
theorem xe_law_0 {ls : xL} {st : List Value} {h h' : xH} {r : Option Value} (H : x_ev x_nm x_tf x_fn x_Pg x_EV 177 (some .boolean) r h' xb_law_0 0 ls st h) : x_EV 177 0 ls st h r h' := x_Ev_to (M := xm_law) (is := xb_law_0) pg_law (by rfl) H
theorem xe_law_18 {ls : xL} {st : List Value} {h h' : xH} {r : Option Value} (H : x_ev x_nm x_tf x_fn x_Pg x_EV 177 (some .boolean) r h' xb_law_18 18 ls st h) : x_EV 177 18 ls st h r h' := x_Ev_to (M := xm_law) (is := xb_law_18) pg_law (by rfl) H
theorem xe_law_132 {ls : xL} {st : List Value} {h h' : xH} {r : Option Value} (H : x_ev x_nm x_tf x_fn x_Pg x_EV 177 (some .boolean) r h' xb_law_132 132 ls st h) : x_EV 177 132 ls st h r h' := x_Ev_to (M := xm_law) (is := xb_law_132) pg_law (by rfl) H
theorem xe_law_185 {ls : xL} {st : List Value} {h h' : xH} {r : Option Value} (H : x_ev x_nm x_tf x_fn x_Pg x_EV 177 (some .boolean) r h' xb_law_185 185 ls st h) : x_EV 177 185 ls st h r h' := x_Ev_to (M := xm_law) (is := xb_law_185) pg_law (by rfl) H
theorem xe_law_218 {ls : xL} {st : List Value} {h h' : xH} {r : Option Value} (H : x_ev x_nm x_tf x_fn x_Pg x_EV 177 (some .boolean) r h' xb_law_218 218 ls st h) : x_EV 177 218 ls st h r h' := x_Ev_to (M := xm_law) (is := xb_law_218) pg_law (by rfl) H
theorem xe_law_261 {ls : xL} {st : List Value} {h h' : xH} {r : Option Value} (H : x_ev x_nm x_tf x_fn x_Pg x_EV 177 (some .boolean) r h' xb_law_261 261 ls st h) : x_EV 177 261 ls st h r h' := x_Ev_to (M := xm_law) (is := xb_law_261) pg_law (by rfl) H
theorem xe_law_294 {ls : xL} {st : List Value} {h h' : xH} {r : Option Value} (H : x_ev x_nm x_tf x_fn x_Pg x_EV 177 (some .boolean) r h' xb_law_294 294 ls st h) : x_EV 177 294 ls st h r h' := x_Ev_to (M := xm_law) (is := xb_law_294) pg_law (by rfl) H
theorem xe_law_337 {ls : xL} {st : List Value} {h h' : xH} {r : Option Value} (H : x_ev x_nm x_tf x_fn x_Pg x_EV 177 (some .boolean) r h' xb_law_337 337 ls st h) : x_EV 177 337 ls st h r h' := x_Ev_to (M := xm_law) (is := xb_law_337) pg_law (by rfl) H
theorem xe_law_370 {ls : xL} {st : List Value} {h h' : xH} {r : Option Value} (H : x_ev x_nm x_tf x_fn x_Pg x_EV 177 (some .boolean) r h' xb_law_370 370 ls st h) : x_EV 177 370 ls st h r h' := x_Ev_to (M := xm_law) (is := xb_law_370) pg_law (by rfl) H
theorem xe_law_393 {ls : xL} {st : List Value} {h h' : xH} {r : Option Value} (H : x_ev x_nm x_tf x_fn x_Pg x_EV 177 (some .boolean) r h' xb_law_393 393 ls st h) : x_EV 177 393 ls st h r h' := x_Ev_to (M := xm_law) (is := xb_law_393) pg_law (by rfl) H
theorem xe_law_406 {ls : xL} {st : List Value} {h h' : xH} {r : Option Value} (H : x_ev x_nm x_tf x_fn x_Pg x_EV 177 (some .boolean) r h' xb_law_406 406 ls st h) : x_EV 177 406 ls st h r h' := x_Ev_to (M := xm_law) (is := xb_law_406) pg_law (by rfl) H
theorem xe_law_419 {ls : xL} {st : List Value} {h h' : xH} {r : Option Value} (H : x_ev x_nm x_tf x_fn x_Pg x_EV 177 (some .boolean) r h' xb_law_419 419 ls st h) : x_EV 177 419 ls st h r h' := x_Ev_to (M := xm_law) (is := xb_law_419) pg_law (by rfl) H
theorem xe_law_432 {ls : xL} {st : List Value} {h h' : xH} {r : Option Value} (H : x_ev x_nm x_tf x_fn x_Pg x_EV 177 (some .boolean) r h' xb_law_432 432 ls st h) : x_EV 177 432 ls st h r h' := x_Ev_to (M := xm_law) (is := xb_law_432) pg_law (by rfl) H
theorem xe_law_465 {ls : xL} {st : List Value} {h h' : xH} {r : Option Value} (H : x_ev x_nm x_tf x_fn x_Pg x_EV 177 (some .boolean) r h' xb_law_465 465 ls st h) : x_EV 177 465 ls st h r h' := x_Ev_to (M := xm_law) (is := xb_law_465) pg_law (by rfl) H
theorem xe_law_488 {ls : xL} {st : List Value} {h h' : xH} {r : Option Value} (H : x_ev x_nm x_tf x_fn x_Pg x_EV 177 (some .boolean) r h' xb_law_488 488 ls st h) : x_EV 177 488 ls st h r h' := x_Ev_to (M := xm_law) (is := xb_law_488) pg_law (by rfl) H
theorem xe_law_521 {ls : xL} {st : List Value} {h h' : xH} {r : Option Value} (H : x_ev x_nm x_tf x_fn x_Pg x_EV 177 (some .boolean) r h' xb_law_521 521 ls st h) : x_EV 177 521 ls st h r h' := x_Ev_to (M := xm_law) (is := xb_law_521) pg_law (by rfl) H
theorem xe_law_534 {ls : xL} {st : List Value} {h h' : xH} {r : Option Value} (H : x_ev x_nm x_tf x_fn x_Pg x_EV 177 (some .boolean) r h' xb_law_534 534 ls st h) : x_EV 177 534 ls st h r h' := x_Ev_to (M := xm_law) (is := xb_law_534) pg_law (by rfl) H
theorem xe_law_547 {ls : xL} {st : List Value} {h h' : xH} {r : Option Value} (H : x_ev x_nm x_tf x_fn x_Pg x_EV 177 (some .boolean) r h' xb_law_547 547 ls st h) : x_EV 177 547 ls st h r h' := x_Ev_to (M := xm_law) (is := xb_law_547) pg_law (by rfl) H
theorem xe_law_570 {ls : xL} {st : List Value} {h h' : xH} {r : Option Value} (H : x_ev x_nm x_tf x_fn x_Pg x_EV 177 (some .boolean) r h' xb_law_570 570 ls st h) : x_EV 177 570 ls st h r h' := x_Ev_to (M := xm_law) (is := xb_law_570) pg_law (by rfl) H
theorem xe_law_583 {ls : xL} {st : List Value} {h h' : xH} {r : Option Value} (H : x_ev x_nm x_tf x_fn x_Pg x_EV 177 (some .boolean) r h' xb_law_583 583 ls st h) : x_EV 177 583 ls st h r h' := x_Ev_to (M := xm_law) (is := xb_law_583) pg_law (by rfl) H
theorem xe_law_596 {ls : xL} {st : List Value} {h h' : xH} {r : Option Value} (H : x_ev x_nm x_tf x_fn x_Pg x_EV 177 (some .boolean) r h' xb_law_596 596 ls st h) : x_EV 177 596 ls st h r h' := x_Ev_to (M := xm_law) (is := xb_law_596) pg_law (by rfl) H
theorem xe_law_609 {ls : xL} {st : List Value} {h h' : xH} {r : Option Value} (H : x_ev x_nm x_tf x_fn x_Pg x_EV 177 (some .boolean) r h' xb_law_609 609 ls st h) : x_EV 177 609 ls st h r h' := x_Ev_to (M := xm_law) (is := xb_law_609) pg_law (by rfl) H
theorem xe_law_632 {ls : xL} {st : List Value} {h h' : xH} {r : Option Value} (H : x_ev x_nm x_tf x_fn x_Pg x_EV 177 (some .boolean) r h' xb_law_632 632 ls st h) : x_EV 177 632 ls st h r h' := x_Ev_to (M := xm_law) (is := xb_law_632) pg_law (by rfl) H
theorem xe_law_646 {ls : xL} {st : List Value} {h h' : xH} {r : Option Value} (H : x_ev x_nm x_tf x_fn x_Pg x_EV 177 (some .boolean) r h' xb_law_646 646 ls st h) : x_EV 177 646 ls st h r h' := x_Ev_to (M := xm_law) (is := xb_law_646) pg_law (by rfl) H
theorem xe_law_652 {ls : xL} {st : List Value} {h h' : xH} {r : Option Value} (H : x_ev x_nm x_tf x_fn x_Pg x_EV 177 (some .boolean) r h' xb_law_652 652 ls st h) : x_EV 177 652 ls st h r h' := x_Ev_to (M := xm_law) (is := xb_law_652) pg_law (by rfl) H
end
section
/-! blocks of cells -/
/-- from g on the heap holds these cells -/
def x_hb (h : xH) (g : Nat) (cs : List xE) : Prop := ∀ (k : Nat) (e : xE), cs[k]? = some e → h[g + k]? = some e
/-- the heap with these cells from g on -/
def x_wr (h : xH) : Nat → List xE → xH
  | _, [] => h
  | g, e :: cs => (x_wr h (g + 1) cs).set g e
theorem x_wr_len {h : xH} : ∀ {g : Nat} {cs : List xE}, (x_wr h g cs).length = h.length
  | _, [] => rfl
  | g, e :: cs => by
    show ((x_wr h (g + 1) cs).set g e).length = _
    rw [List.length_set]
    exact x_wr_len
theorem x_wr_at {h : xH} : ∀ {g : Nat} {cs : List xE}, g + cs.length ≤ h.length → ∀ k : Nat, (x_wr h g cs)[k]? = if g ≤ k ∧ k < g + cs.length then cs[k - g]? else h[k]?
  | g, [], _, k => by
    rw [if_neg (by simp only [List.length_nil]; omega)]
    rfl
  | g, e :: cs, hl, k => by
    simp only [List.length_cons] at hl ⊢
    have ih := x_wr_at (h := h) (g := g + 1) (cs := cs) (by omega) k
    show ((x_wr h (g + 1) cs).set g e)[k]? = _
    by_cases hk : k = g
    · subst hk
      rw [List.getElem?_set_self (by rw [x_wr_len]; omega), if_pos (by omega), Nat.sub_self]
      rfl
    · rw [List.getElem?_set_ne (Ne.symm hk), ih]
      by_cases h1 : g + 1 ≤ k ∧ k < g + 1 + cs.length
      · rw [if_pos h1, if_pos (by omega), show k - g = (k - (g + 1)) + 1 by omega, List.getElem?_cons_succ]
      · rw [if_neg h1, if_neg (by omega)]
theorem x_wr_get {h : xH} {g k : Nat} {cs : List xE} (hl : g + cs.length ≤ h.length) (hk : k < cs.length) : (x_wr h g cs)[g + k]? = cs[k]? := by
  rw [x_wr_at hl, if_pos (by omega), show g + k - g = k by omega]
theorem x_wr_out {h : xH} {g k : Nat} {cs : List xE} (hl : g + cs.length ≤ h.length) (hk : k < g ∨ g + cs.length ≤ k) : (x_wr h g cs)[k]? = h[k]? := by
  rw [x_wr_at hl, if_neg (by omega)]
theorem x_ext {a b : xH} (h : ∀ k : Nat, a[k]? = b[k]?) : a = b := List.ext_getElem? h
theorem x_wr_set {h : xH} {g k : Nat} {cs : List xE} {e : xE} (hl : g + cs.length ≤ h.length) (hk : k < cs.length) : (x_wr h g cs).set (g + k) e = x_wr h g (cs.set k e) := by
  apply x_ext
  intro i
  rw [x_wr_at (by rw [List.length_set]; exact hl), List.length_set]
  by_cases hi : i = g + k
  · subst hi
    rw [List.getElem?_set_self (by rw [x_wr_len]; omega), if_pos (by omega), show g + k - g = k by omega, List.getElem?_set_self hk]
  · rw [List.getElem?_set_ne (Ne.symm hi), x_wr_at hl]
    by_cases h1 : g ≤ i ∧ i < g + cs.length
    · rw [if_pos h1, if_pos h1, List.getElem?_set_ne (by omega)]
    · rw [if_neg h1, if_neg h1]
theorem x_wr_wr {h : xH} {g : Nat} {a b : List xE} (hl : g + a.length ≤ h.length) (hab : b.length = a.length) : x_wr (x_wr h g a) g b = x_wr h g b := by
  apply x_ext
  intro i
  rw [x_wr_at (by rw [x_wr_len, hab]; exact hl), x_wr_at (h := h) (cs := b) (by rw [hab]; exact hl), x_wr_at hl, hab]
  by_cases h1 : g ≤ i ∧ i < g + a.length
  · rw [if_pos h1, if_pos h1]
  · rw [if_neg h1, if_neg h1, if_neg h1]
theorem x_hb.fit {h : xH} {g : Nat} {cs : List xE} (hb : x_hb h g cs) (h0 : 0 < cs.length) : g + cs.length ≤ h.length := by
  have h1 := hb (cs.length - 1) _ (List.getElem?_eq_getElem (by omega))
  have h2 := (List.getElem?_eq_some_iff.mp h1).1
  omega
theorem x_hb.wr {h : xH} {g : Nat} {cs : List xE} (hb : x_hb h g cs) (hl : g + cs.length ≤ h.length) : x_wr h g cs = h := by
  apply x_ext
  intro i
  rw [x_wr_at hl]
  by_cases h1 : g ≤ i ∧ i < g + cs.length
  · rw [if_pos h1, List.getElem?_eq_getElem (by omega), ← hb (i - g) _ (List.getElem?_eq_getElem (by omega)), show g + (i - g) = i by omega]
  · rw [if_neg h1]
theorem x_hb_wr {h : xH} {g : Nat} {cs : List xE} (hl : g + cs.length ≤ h.length) : x_hb (x_wr h g cs) g cs := by
  intro k e hk
  rw [x_wr_get hl (List.getElem?_eq_some_iff.mp hk).1]
  exact hk
theorem x_hb.off {h : xH} {g g2 : Nat} {cs cs2 : List xE} (hb : x_hb h g cs) (hl : g2 + cs2.length ≤ h.length) (hd : g + cs.length ≤ g2 ∨ g2 + cs2.length ≤ g) : x_hb (x_wr h g2 cs2) g cs := by
  intro k e hk
  have hkl := (List.getElem?_eq_some_iff.mp hk).1
  rw [x_wr_out hl (by omega)]
  exact hb k e hk
/-- a part of a block -/
theorem x_hb.part {h : xH} {g : Nat} {a b c : List xE} (hb : x_hb h g (a ++ b ++ c)) : x_hb h (g + a.length) b := by
  intro k e hk
  have hkl := (List.getElem?_eq_some_iff.mp hk).1
  have := hb (a.length + k) e (by rw [List.append_assoc, List.getElem?_append_right (by omega), show a.length + k - a.length = k by omega, List.getElem?_append_left hkl]; exact hk)
  rw [← Nat.add_assoc] at this
  exact this
theorem x_wr_part {h : xH} {g : Nat} {a b b2 c : List xE} (hb : x_hb h g (a ++ b ++ c)) (hl : g + (a ++ b ++ c).length ≤ h.length) (h2 : b2.length = b.length) : x_wr h (g + a.length) b2 = x_wr h g (a ++ b2 ++ c) := by
  apply x_ext
  intro i
  have hl' : g + a.length + b.length + c.length ≤ h.length := by simp at hl; omega
  rw [x_wr_at (by omega), x_wr_at (by simp; omega)]
  simp only [List.length_append]
  by_cases h1 : g + a.length ≤ i ∧ i < g + a.length + b2.length
  · rw [if_pos h1, if_pos (by omega), List.append_assoc, List.getElem?_append_right (by omega), List.getElem?_append_left (by omega), show i - (g + a.length) = i - g - a.length by omega]
  · rw [if_neg h1]
    by_cases h3 : g ≤ i ∧ i < g + (a.length + b2.length + c.length)
    · rw [if_pos h3]
      have key : ∀ e, (a ++ b ++ c)[i - g]? = some e → h[i]? = some e := fun e he => by
        have := hb (i - g) e he
        rwa [show g + (i - g) = i by omega] at this
      have hin : i - g < (a ++ b ++ c).length := by simp; omega
      rw [key _ (List.getElem?_eq_getElem hin), ← List.getElem?_eq_getElem hin]
      by_cases h4 : i - g < a.length
      · rw [List.append_assoc, List.getElem?_append_left h4, List.append_assoc, List.getElem?_append_left h4]
      · rw [List.getElem?_append_right (by simp; omega), List.getElem?_append_right (by simp; omega)]
        simp only [List.length_append, h2]
    · rw [if_neg h3]
/-! numbers as places -/
def xg (l : List Int32) (i : Int32) : Int32 := l.getD i.toNatClampNeg 0
def xu (l : List Int32) (i v : Int32) : List Int32 := l.set i.toNatClampNeg v
def xgl (l : List Int64) (i : Int32) : Int64 := l.getD i.toNatClampNeg 0
def xul (l : List Int64) (i : Int32) (v : Int64) : List Int64 := l.set i.toNatClampNeg v
def xin (i : Int32) (n : Nat) : Prop := ¬ i < 0 ∧ i.toNatClampNeg < n
theorem xu_len {l : List Int32} {i v : Int32} : (xu l i v).length = l.length := List.length_set
theorem xul_len {l : List Int64} {i : Int32} {v : Int64} : (xul l i v).length = l.length := List.length_set
/-- a place of an int array read, written: what the rules say of the heap -/
def x_ai (h : xH) (o : Nat) (i : Int32) (k : Int32 → Prop) : Prop := ∃ l, h[o]? = some (xi l) ∧ xin i l.length ∧ k (xg l i)
def x_al_ (h : xH) (o : Nat) (i : Int32) (k : Int64 → Prop) : Prop := ∃ l, h[o]? = some (xl l) ∧ xin i l.length ∧ k (xgl l i)
section XHR
variable {nm : Nat → String} {tf : Nat → Nat → FieldType} {fn : Nat → Nat} {Pg : List xM} {X : xR} {j : Nat} {rt : Option FieldType} {r : Option Value} {h' : xH} {is : List xI} {n a b pc : Nat} {ls : xL} {st : List Value} {h : xH}
theorem xr_iaload {o : Nat} {i : Int32} {l : List Int32} (ho : h[o]? = some (xi l)) (hi : xin i l.length) (k : x_ev nm tf fn Pg X j rt r h' is (pc + n) ls (.int (xg l i) :: st) h) : x_ev nm tf fn Pg X j rt r h' ((.iaload, n, a, b) :: is) pc ls (.int i :: .ref o :: st) h := by
  rw [xs_iaload (v := xg l i) ho hi.1 (by unfold xg; rw [List.getD_eq_getElem?_getD, List.getElem?_eq_getElem hi.2]; rfl)]
  exact k
theorem xr_laload {o : Nat} {i : Int32} {l : List Int64} (ho : h[o]? = some (xl l)) (hi : xin i l.length) (k : x_ev nm tf fn Pg X j rt r h' is (pc + n) ls (.long (xgl l i) :: st) h) : x_ev nm tf fn Pg X j rt r h' ((.laload, n, a, b) :: is) pc ls (.int i :: .ref o :: st) h := by
  rw [xs_laload (v := xgl l i) ho hi.1 (by unfold xgl; rw [List.getD_eq_getElem?_getD, List.getElem?_eq_getElem hi.2]; rfl)]
  exact k
theorem xr_iastore {o : Nat} {i x : Int32} {l : List Int32} (ho : h[o]? = some (xi l)) (h2 : 2 ≤ o) (hi : xin i l.length) (k : x_ev nm tf fn Pg X j rt r h' is (pc + n) ls st (h.set o (xi (xu l i x)))) : x_ev nm tf fn Pg X j rt r h' ((.iastore, n, a, b) :: is) pc ls (.int x :: .int i :: .ref o :: st) h := by
  rw [xs_iastore h2 ho hi.1 hi.2]
  exact k
theorem xr_lastore {o : Nat} {i : Int32} {x : Int64} {l : List Int64} (ho : h[o]? = some (xl l)) (h2 : 2 ≤ o) (hi : xin i l.length) (k : x_ev nm tf fn Pg X j rt r h' is (pc + n) ls st (h.set o (xl (xul l i x)))) : x_ev nm tf fn Pg X j rt r h' ((.lastore, n, a, b) :: is) pc ls (.long x :: .int i :: .ref o :: st) h := by
  rw [xs_lastore h2 ho hi.1 hi.2]
  exact k
theorem xr_getf {i oo : Nat} {fs : List Value} {v : Value} (ho : h[oo]? = some (.inr (a, fs))) (hv : fs[b]? = some v) (k : x_ev nm tf fn Pg X j rt r h' is (pc + n) ls (v :: st) h) : x_ev nm tf fn Pg X j rt r h' ((.getfield i, n, a, b) :: is) pc ls (.ref oo :: st) h := by
  rw [xs_getfield]
  unfold x_gf
  rw [ho]
  dsimp only
  rw [hv]
  exact ⟨rfl, k⟩
theorem xr_putf {i oo : Nat} {fs : List Value} {v : Value} (ho : h[oo]? = some (.inr (a, fs))) (h2 : 2 ≤ oo) (hb : b < fs.length) (hf : x_fit (tf a b) v = true) (k : x_ev nm tf fn Pg X j rt r h' is (pc + n) ls st (h.set oo (.inr (a, fs.set b v)))) : x_ev nm tf fn Pg X j rt r h' ((.putfield i, n, a, b) :: is) pc ls (v :: .ref oo :: st) h := by
  rw [xs_putfield]
  unfold x_pf
  rw [ho]
  exact ⟨⟨h2, rfl, hb, hf⟩, k⟩
variable {h0 : xH} {g : Nat} {cs : List xE}
theorem xw_getf {i : Nat} {fs : List Value} {v : Value} {N : Nat} (hl : g + N ≤ h0.length) (hN : cs.length = N) (k : Nat) (hk : cs[k]? = some (.inr (a, fs))) (hv : fs[b]? = some v) (kk : x_ev nm tf fn Pg X j rt r h' is (pc + n) ls (v :: st) (x_wr h0 g cs)) : x_ev nm tf fn Pg X j rt r h' ((.getfield i, n, a, b) :: is) pc ls (.ref (g + k) :: st) (x_wr h0 g cs) :=
  xr_getf (by rw [x_wr_get (hN ▸ hl) (List.getElem?_eq_some_iff.mp hk).1]; exact hk) hv kk
theorem xw_putf {i : Nat} {fs : List Value} {v : Value} {cs' : List xE} {N : Nat} (hl : g + N ≤ h0.length) (hN : cs.length = N) (k : Nat) (hk : cs[k]? = some (.inr (a, fs))) (h2 : 2 ≤ g) (hb : b < fs.length) (hf : x_fit (tf a b) v = true) (hcs : cs.set k (.inr (a, fs.set b v)) = cs') (kk : x_ev nm tf fn Pg X j rt r h' is (pc + n) ls st (x_wr h0 g cs')) : x_ev nm tf fn Pg X j rt r h' ((.putfield i, n, a, b) :: is) pc ls (v :: .ref (g + k) :: st) (x_wr h0 g cs) :=
  xr_putf (by rw [x_wr_get (hN ▸ hl) (List.getElem?_eq_some_iff.mp hk).1]; exact hk) (by omega) hb hf (by rw [x_wr_set (hN ▸ hl) (List.getElem?_eq_some_iff.mp hk).1, hcs]; exact kk)
theorem xw_iaload {i : Int32} {l : List Int32} {N : Nat} (hl : g + N ≤ h0.length) (hN : cs.length = N) (k : Nat) (hk : cs[k]? = some (xi l)) (hi : xin i l.length) (kk : x_ev nm tf fn Pg X j rt r h' is (pc + n) ls (.int (xg l i) :: st) (x_wr h0 g cs)) : x_ev nm tf fn Pg X j rt r h' ((.iaload, n, a, b) :: is) pc ls (.int i :: .ref (g + k) :: st) (x_wr h0 g cs) :=
  xr_iaload (by rw [x_wr_get (hN ▸ hl) (List.getElem?_eq_some_iff.mp hk).1]; exact hk) hi kk
theorem xw_iastore {i x : Int32} {l : List Int32} {cs' : List xE} {N : Nat} (hl : g + N ≤ h0.length) (hN : cs.length = N) (k : Nat) (hk : cs[k]? = some (xi l)) (h2 : 2 ≤ g) (hi : xin i l.length) (hcs : cs.set k (xi (xu l i x)) = cs') (kk : x_ev nm tf fn Pg X j rt r h' is (pc + n) ls st (x_wr h0 g cs')) : x_ev nm tf fn Pg X j rt r h' ((.iastore, n, a, b) :: is) pc ls (.int x :: .int i :: .ref (g + k) :: st) (x_wr h0 g cs) :=
  xr_iastore (by rw [x_wr_get (hN ▸ hl) (List.getElem?_eq_some_iff.mp hk).1]; exact hk) (by omega) hi (by rw [x_wr_set (hN ▸ hl) (List.getElem?_eq_some_iff.mp hk).1, hcs]; exact kk)
theorem xw_laload {i : Int32} {l : List Int64} {N : Nat} (hl : g + N ≤ h0.length) (hN : cs.length = N) (k : Nat) (hk : cs[k]? = some (xl l)) (hi : xin i l.length) (kk : x_ev nm tf fn Pg X j rt r h' is (pc + n) ls (.long (xgl l i) :: st) (x_wr h0 g cs)) : x_ev nm tf fn Pg X j rt r h' ((.laload, n, a, b) :: is) pc ls (.int i :: .ref (g + k) :: st) (x_wr h0 g cs) :=
  xr_laload (by rw [x_wr_get (hN ▸ hl) (List.getElem?_eq_some_iff.mp hk).1]; exact hk) hi kk
theorem xw_lastore {i : Int32} {x : Int64} {l : List Int64} {cs' : List xE} {N : Nat} (hl : g + N ≤ h0.length) (hN : cs.length = N) (k : Nat) (hk : cs[k]? = some (xl l)) (h2 : 2 ≤ g) (hi : xin i l.length) (hcs : cs.set k (xl (xul l i x)) = cs') (kk : x_ev nm tf fn Pg X j rt r h' is (pc + n) ls st (x_wr h0 g cs')) : x_ev nm tf fn Pg X j rt r h' ((.lastore, n, a, b) :: is) pc ls (.long x :: .int i :: .ref (g + k) :: st) (x_wr h0 g cs) :=
  xr_lastore (by rw [x_wr_get (hN ▸ hl) (List.getElem?_eq_some_iff.mp hk).1]; exact hk) (by omega) hi (by rw [x_wr_set (hN ▸ hl) (List.getElem?_eq_some_iff.mp hk).1, hcs]; exact kk)
theorem x_set_hb {h0 h : xH} {g k : Nat} {cs : List xE} {e1 : xE} (hl : g + cs.length ≤ h0.length) (e : x_wr h0 g cs = h) (hk : k < cs.length) : x_hb (h.set (g + k) e1) g (cs.set k e1) ∧ x_wr h0 g (cs.set k e1) = h.set (g + k) e1 := by
  subst e
  have e2 : (x_wr h0 g cs).set (g + k) e1 = x_wr h0 g (cs.set k e1) := x_wr_set hl hk
  exact ⟨by rw [e2]; exact x_hb_wr (by rw [List.length_set]; exact hl), e2.symm⟩
theorem xv_iastore {i x : Int32} {l : List Int32} (hl : g + cs.length ≤ h0.length) (e : x_wr h0 g cs = h) (hb : x_hb h g cs) (k : Nat) (hk : cs[k]? = some (xi l)) (h2 : 2 ≤ g) (hi : xin i l.length) (kk : ∀ h1 : xH, x_hb h1 g (cs.set k (xi (xu l i x))) → x_wr h0 g (cs.set k (xi (xu l i x))) = h1 → g + (cs.set k (xi (xu l i x))).length ≤ h0.length → x_ev nm tf fn Pg X j rt r h' is (pc + n) ls st h1) : x_ev nm tf fn Pg X j rt r h' ((.iastore, n, a, b) :: is) pc ls (.int x :: .int i :: .ref (g + k) :: st) h := by
  obtain ⟨q1, q2⟩ := x_set_hb (e1 := xi (xu l i x)) hl e (List.getElem?_eq_some_iff.mp hk).1
  exact xr_iastore (hb k _ hk) (by omega) hi (kk _ q1 q2 (by rw [List.length_set]; exact hl))
theorem xv_lastore {i : Int32} {x : Int64} {l : List Int64} (hl : g + cs.length ≤ h0.length) (e : x_wr h0 g cs = h) (hb : x_hb h g cs) (k : Nat) (hk : cs[k]? = some (xl l)) (h2 : 2 ≤ g) (hi : xin i l.length) (kk : ∀ h1 : xH, x_hb h1 g (cs.set k (xl (xul l i x))) → x_wr h0 g (cs.set k (xl (xul l i x))) = h1 → g + (cs.set k (xl (xul l i x))).length ≤ h0.length → x_ev nm tf fn Pg X j rt r h' is (pc + n) ls st h1) : x_ev nm tf fn Pg X j rt r h' ((.lastore, n, a, b) :: is) pc ls (.long x :: .int i :: .ref (g + k) :: st) h := by
  obtain ⟨q1, q2⟩ := x_set_hb (e1 := xl (xul l i x)) hl e (List.getElem?_eq_some_iff.mp hk).1
  exact xr_lastore (hb k _ hk) (by omega) hi (kk _ q1 q2 (by rw [List.length_set]; exact hl))
theorem xv_putf {i : Nat} {fs : List Value} {v : Value} (hl : g + cs.length ≤ h0.length) (e : x_wr h0 g cs = h) (hb : x_hb h g cs) (k : Nat) (hk : cs[k]? = some (.inr (a, fs))) (h2 : 2 ≤ g) (hbl : b < fs.length) (hf : x_fit (tf a b) v = true) (kk : ∀ h1 : xH, x_hb h1 g (cs.set k (.inr (a, fs.set b v))) → x_wr h0 g (cs.set k (.inr (a, fs.set b v))) = h1 → g + (cs.set k (.inr (a, fs.set b v))).length ≤ h0.length → x_ev nm tf fn Pg X j rt r h' is (pc + n) ls st h1) : x_ev nm tf fn Pg X j rt r h' ((.putfield i, n, a, b) :: is) pc ls (v :: .ref (g + k) :: st) h := by
  obtain ⟨q1, q2⟩ := x_set_hb (e1 := .inr (a, fs.set b v)) hl e (List.getElem?_eq_some_iff.mp hk).1
  exact xr_putf (hb k _ hk) (by omega) hbl hf (kk _ q1 q2 (by rw [List.length_set]; exact hl))
end XHR
theorem x_KB {h h1 : xH} {g a N : Nat} {cs : List xE} {vs : List Value} {r : Option Value} (hb : x_hb h g cs) (hl : g + N ≤ h.length) (hN : cs.length = N) (H : xK a vs (x_wr h g cs) r h1) : xK a vs h r h1 := by
  rw [hb.wr (hN ▸ hl)] at H
  exact H
theorem x_wr0 {h : xH} {g N : Nat} {cs : List xE} (hl : g + N ≤ h.length) (hN : cs.length = N) (k : Nat) {e : xE} (hk : cs[k]? = some e) : (x_wr h g cs)[g + k]? = some e := by
  rw [x_wr_get (hN ▸ hl) (List.getElem?_eq_some_iff.mp hk).1]
  exact hk
theorem x_fit_int (x : Int32) : x_fit .int (.int x) = true := by simp [x_fit, narrow, fits]
theorem x_fit_long (x : Int64) : x_fit .long (.long x) = true := by simp [x_fit, narrow, fits]
theorem x_fit_arr (t : FieldType) (x : Nat) : x_fit (.array t) (.ref x) = true := by simp [x_fit, narrow, fits]
theorem x_fit_obj (t : String) (x : Nat) : x_fit (.object t) (.ref x) = true := by simp [x_fit, narrow, fits]
theorem x_10 : ((1 : Int32) = 0) = False := by simp
theorem x_ite0 {P : Prop} [Decidable P] : ((if P then (1 : Int32) else 0) = 0) = ¬ P := by
  by_cases h : P <;> simp [h]
theorem x_bit (P : Prop) [Decidable P] : (if P then (1 : Int32) else 0) &&& 1 = (if P then (1 : Int32) else 0) := by
  by_cases h : P <;> simp [h]
end
section
/-! small methods: tests of numbers -/
theorem c_isBelow {x1 x2 : Int32} {h : xH} : xK 14 [.int x1, .int x2] h (some (.int (if 0 ≤ x1 ∧ x1 < x2 then 1 else 0))) h := by
  refine xK_X7_isBelow ?_
  (repeat' (first | (simp only [xb_X7_isBelow_0, xb_X7_isBelow_13, xb_X7_isBelow_14, xs_nil, Nat.reduceAdd, true_implies, not_true_eq_false, not_false_eq_true, false_implies, and_true, true_and, x_10, xs_iload_n_0, xs_if_lt, xs_iload_n_1, xs_icmp_ge, xs_iconst_1, xs_goto, xs_iconst_0, xs_ireturn]) | (refine ⟨fun _ => ?_, fun _ => ?_⟩) | refine xe_X7_isBelow_0 ?_ | refine xe_X7_isBelow_13 ?_ | refine xe_X7_isBelow_14 ?_ ))
  all_goals (first | (simp_all [x_bit, x_ite0, Int32.not_lt, Int32.not_le]; done) | ((try simp only [x_ite0] at *) <;> simp [x_bit, Int32.lt_iff_toInt_lt, Int32.le_iff_toInt_le] at * <;> omega))
theorem c_isPriceOrNone {x1 : Int32} {h : xH} : xK 16 [.int x1] h (some (.int (if -1 ≤ x1 ∧ x1 ≤ 9 then 1 else 0))) h := by
  refine xK_X7_isPriceOrNone ?_
  (repeat' (first | (simp only [xb_X7_isPriceOrNone_0, xb_X7_isPriceOrNone_15, xb_X7_isPriceOrNone_16, xs_nil, Nat.reduceAdd, true_implies, not_true_eq_false, not_false_eq_true, false_implies, and_true, true_and, x_10, xs_iload_n_0, xs_iconst_m1, xs_icmp_lt, xs_bipush_9, xs_icmp_gt, xs_iconst_1, xs_goto, xs_iconst_0, xs_ireturn]) | (refine ⟨fun _ => ?_, fun _ => ?_⟩) | refine xe_X7_isPriceOrNone_0 ?_ | refine xe_X7_isPriceOrNone_15 ?_ | refine xe_X7_isPriceOrNone_16 ?_ ))
  all_goals (first | (simp_all [x_bit, x_ite0, Int32.not_lt, Int32.not_le]; done) | ((try simp only [x_ite0] at *) <;> simp [x_bit, Int32.lt_iff_toInt_lt, Int32.le_iff_toInt_le] at * <;> omega))
theorem c_in {x1 x2 x3 : Int32} {h : xH} : xK 25 [.int x1, .int x2, .int x3] h (some (.int (if x2 ≤ x1 ∧ x1 ≤ x3 then 1 else 0))) h := by
  refine xK_X8_in ?_
  (repeat' (first | (simp only [xb_X8_in_0, xb_X8_in_14, xb_X8_in_15, xs_nil, Nat.reduceAdd, true_implies, not_true_eq_false, not_false_eq_true, false_implies, and_true, true_and, x_10, xs_iload_n_0, xs_iload_n_1, xs_icmp_lt, xs_iload_n_2, xs_icmp_gt, xs_iconst_1, xs_goto, xs_iconst_0, xs_ireturn]) | (refine ⟨fun _ => ?_, fun _ => ?_⟩) | refine xe_X8_in_0 ?_ | refine xe_X8_in_14 ?_ | refine xe_X8_in_15 ?_ ))
  all_goals (first | (simp_all [x_bit, x_ite0, Int32.not_lt, Int32.not_le]; done) | ((try simp only [x_ite0] at *) <;> simp [x_bit, Int32.lt_iff_toInt_lt, Int32.le_iff_toInt_le] at * <;> omega))
theorem c_ruleAt {x1 x2 x3 : Int32} {h : xH} : xK 31 [.int x1, .int x2, .int x3] h (some (.int (0 + 12 * x1 + 2 * x2 + x3))) h := by
  refine xK_X8_ruleAt ?_
  (repeat' (first | (simp only [xb_X8_ruleAt_0, xs_nil, Nat.reduceAdd, true_implies, not_true_eq_false, not_false_eq_true, false_implies, and_true, true_and, x_10, xs_iconst_0, xs_bipush_12, xs_iload_n_0, xs_imul, xs_iadd, xs_iconst_2, xs_iload_n_1, xs_iload_n_2, xs_ireturn]) | (refine ⟨fun _ => ?_, fun _ => ?_⟩) | refine xe_X8_ruleAt_0 ?_ ))
  all_goals simp
theorem c_spanPlace {x1 x2 x3 x4 : Int32} {h : xH} : xK 4 [.int x1, .int x2, .int x3, .int x4] h (some (.int (((x1 * 8 + x2) * 8 + x3) * 2 + x4))) h := by
  refine xK_X0_spanPlace ?_
  (repeat' (first | (simp only [xb_X0_spanPlace_0, xs_nil, Nat.reduceAdd, true_implies, not_true_eq_false, not_false_eq_true, false_implies, and_true, true_and, x_10, xs_iload_n_0, xs_bipush_8, xs_imul, xs_iload_n_1, xs_iadd, xs_iload_n_2, xs_iconst_2, xs_iload_n_3, xs_ireturn]) | (refine ⟨fun _ => ?_, fun _ => ?_⟩) | refine xe_X0_spanPlace_0 ?_ ))
  all_goals (first | (simp_all [x_bit, x_ite0, Int32.not_lt, Int32.not_le]; done) | ((try simp only [x_ite0] at *) <;> simp [x_bit, Int32.lt_iff_toInt_lt, Int32.le_iff_toInt_le] at * <;> omega))
theorem c_linkPlace {x1 x2 x3 x4 : Int32} {h : xH} : xK 65 [.int x1, .int x2, .int x3, .int x4] h (some (.int (((x1 * 2 + x2) * 8 + x3) * 2 + x4))) h := by
  refine xK_X0_linkPlace ?_
  (repeat' (first | (simp only [xb_X0_linkPlace_0, xs_nil, Nat.reduceAdd, true_implies, not_true_eq_false, not_false_eq_true, false_implies, and_true, true_and, x_10, xs_iload_n_0, xs_iconst_2, xs_imul, xs_iload_n_1, xs_iadd, xs_bipush_8, xs_iload_n_2, xs_iload_n_3, xs_ireturn]) | (refine ⟨fun _ => ?_, fun _ => ?_⟩) | refine xe_X0_linkPlace_0 ?_ ))
  all_goals (first | (simp_all [x_bit, x_ite0, Int32.not_lt, Int32.not_le]; done) | ((try simp only [x_ite0] at *) <;> simp [x_bit, Int32.lt_iff_toInt_lt, Int32.le_iff_toInt_le] at * <;> omega))
theorem c_part {x1 x2 x3 : Int32} {h : xH} : xK 63 [.int x1, .int x2, .int x3] h (some (.int (((x2 <<< 3) ||| x3) <<< ((4 * (6 - x1)) &&& 31)))) h := by
  refine xK_X2_part ?_
  (repeat' (first | (simp only [xb_X2_part_0, xs_nil, Nat.reduceAdd, true_implies, not_true_eq_false, not_false_eq_true, false_implies, and_true, true_and, x_10, xs_iload_n_1, xs_iconst_3, xs_ishl, xs_iload_n_2, xs_ior, xs_iconst_4, xs_bipush_6, xs_iload_n_0, xs_isub, xs_imul, xs_ireturn]) | (refine ⟨fun _ => ?_, fun _ => ?_⟩) | refine xe_X2_part_0 ?_ ))
  have e : (3 : Int32) &&& 31 = 3 := by decide
  simp [e]
theorem c_headOf {x1 x2 : Int32} {h : xH} : xK 60 [.int x1, .int x2] h (some (.int ((x1 >>> ((4 * (6 - x2)) &&& 31)) &&& 7))) h := by
  refine xK_X2_headOf ?_
  (repeat' (first | (simp only [xb_X2_headOf_0, xs_nil, Nat.reduceAdd, true_implies, not_true_eq_false, not_false_eq_true, false_implies, and_true, true_and, x_10, xs_iload_n_0, xs_iconst_4, xs_bipush_6, xs_iload_n_1, xs_isub, xs_imul, xs_ishr, xs_bipush_7, xs_iand, xs_ireturn]) | (refine ⟨fun _ => ?_, fun _ => ?_⟩) | refine xe_X2_headOf_0 ?_ ))
  all_goals (first | (simp_all [x_bit, x_ite0, Int32.not_lt, Int32.not_le]; done) | ((try simp only [x_ite0] at *) <;> simp [x_bit, Int32.lt_iff_toInt_lt, Int32.le_iff_toInt_le] at * <;> omega))
theorem c_readingOf {x1 x2 : Int32} {h : xH} : xK 61 [.int x1, .int x2] h (some (.int ((x1 >>> ((4 * (6 - x2) + 3) &&& 31)) &&& 1))) h := by
  refine xK_X2_readingOf ?_
  (repeat' (first | (simp only [xb_X2_readingOf_0, xs_nil, Nat.reduceAdd, true_implies, not_true_eq_false, not_false_eq_true, false_implies, and_true, true_and, x_10, xs_iload_n_0, xs_iconst_4, xs_bipush_6, xs_iload_n_1, xs_isub, xs_imul, xs_iconst_3, xs_iadd, xs_ishr, xs_iconst_1, xs_iand, xs_ireturn]) | (refine ⟨fun _ => ?_, fun _ => ?_⟩) | refine xe_X2_readingOf_0 ?_ ))
  all_goals (first | (simp_all [x_bit, x_ite0, Int32.not_lt, Int32.not_le]; done) | ((try simp only [x_ite0] at *) <;> simp [x_bit, Int32.lt_iff_toInt_lt, Int32.le_iff_toInt_le] at * <;> omega))
theorem c_wordAt {o : Nat} {x1 : Int32} {h : xH} {fs : List Value} (ho : h[o]? = some (.inr (7, fs))) : xK 81 [.ref o, .int x1] h (some (.int (119 + 5 * (x1 - 1)))) h := by
  refine xK_X8_wordAt ho ?_
  (repeat' (first | (simp only [xb_X8_wordAt_0, xs_nil, Nat.reduceAdd, true_implies, not_true_eq_false, not_false_eq_true, false_implies, and_true, true_and, x_10, xs_bipush_119, xs_iconst_5, xs_iload_n_1, xs_iconst_1, xs_isub, xs_imul, xs_iadd, xs_ireturn]) | (refine ⟨fun _ => ?_, fun _ => ?_⟩) | refine xe_X8_wordAt_0 ?_ ))
  all_goals (first | (simp_all [x_bit, x_ite0, Int32.not_lt, Int32.not_le]; done) | ((try simp only [x_ite0] at *) <;> simp [x_bit, Int32.lt_iff_toInt_lt, Int32.le_iff_toInt_le] at * <;> omega))
theorem c_isRulePlace {x1 x2 x3 : Int32} {h : xH} : xK 15 [.int x1, .int x2, .int x3] h (some (.int (if (0 ≤ x1 ∧ x1 < 6) ∧ (0 ≤ x2 ∧ x2 < 6) ∧ 0 ≤ x3 ∧ x3 < 2 then 1 else 0))) h := by
  refine xK_X7_isRulePlace ?_
  (repeat' (first | (simp only [xb_X7_isRulePlace_0, xb_X7_isRulePlace_30, xb_X7_isRulePlace_31, xs_nil, Nat.reduceAdd, true_implies, not_true_eq_false, not_false_eq_true, false_implies, and_true, true_and, x_10, xs_iload_n_0, xs_bipush_6, xs_if_eq, xs_iload_n_1, xs_iload_n_2, xs_iconst_2, xs_iconst_1, xs_goto, xs_iconst_0, xs_ireturn]) | (refine ⟨fun _ => ?_, fun _ => ?_⟩) | refine xe_X7_isRulePlace_0 ?_ | refine xe_X7_isRulePlace_30 ?_ | refine xe_X7_isRulePlace_31 ?_ | refine xc_s2_1 (by decide) (c_isBelow) (Nat.le_of_ble_eq_true rfl) ?_))
  all_goals (first | (simp_all [x_bit, x_ite0, Int32.not_lt, Int32.not_le]; done) | ((try simp only [x_ite0] at *) <;> simp [x_bit, Int32.lt_iff_toInt_lt, Int32.le_iff_toInt_le] at * <;> omega))
end
section
/-! Grammar -/
/-- the cells of a Grammar: prices, root prices, sorts, extras, settings, how many entries -/
def x_gc (g : Nat) (P R S X T : List Int32) (ec : Int32) : List xE := [.inr (1, [.ref (g + 1), .ref (g + 2), .ref (g + 3), .ref (g + 4), .ref (g + 5), .int ec]), xi P, xi R, xi S, xi X, xi T]
section GR
variable {g : Nat} {P R S X T : List Int32} {ec x1 x2 x3 x4 : Int32} {h : xH}
theorem c_price (hb : x_hb h g (x_gc g P R S X T ec)) (hi : xin ((x1 * 6 + x2) * 2 + x3) P.length) : xK 48 [.ref g, .int x1, .int x2, .int x3] h (some (.int (xg P ((x1 * 6 + x2) * 2 + x3)))) h := by
  refine xK_X1_price (hb 0 _ rfl) ?_
  (repeat' (first | (simp only [xb_X1_price_0, xs_nil, Nat.reduceAdd, true_implies, not_true_eq_false, not_false_eq_true, false_implies, and_true, true_and, x_10, xs_aload_n_0, xs_iload_n_1, xs_bipush_6, xs_imul, xs_iload_n_2, xs_iadd, xs_iconst_2, xs_iload_n_3, xs_ireturn]) | (refine ⟨fun _ => ?_, fun _ => ?_⟩) | refine xe_X1_price_0 ?_ | (refine xr_getf (hb 0 _ rfl) rfl ?_) | (refine xr_iaload (hb 1 _ rfl) hi ?_)))
  all_goals simp
theorem c_sortOf (hb : x_hb h g (x_gc g P R S X T ec)) (hi : xin (x1 * 2 + x2) S.length) : xK 52 [.ref g, .int x1, .int x2] h (some (.int (xg S (x1 * 2 + x2)))) h := by
  refine xK_X1_sortOf (hb 0 _ rfl) ?_
  (repeat' (first | (simp only [xb_X1_sortOf_0, xs_nil, Nat.reduceAdd, true_implies, not_true_eq_false, not_false_eq_true, false_implies, and_true, true_and, x_10, xs_aload_n_0, xs_iload_n_1, xs_iconst_2, xs_imul, xs_iload_n_2, xs_iadd, xs_ireturn]) | (refine ⟨fun _ => ?_, fun _ => ?_⟩) | refine xe_X1_sortOf_0 ?_ | (refine xr_getf (hb 0 _ rfl) rfl ?_) | (refine xr_iaload (hb 3 _ rfl) hi ?_)))
  all_goals simp
theorem c_extraOf (hb : x_hb h g (x_gc g P R S X T ec)) (hi : x2 = 1 → xin x1 X.length) : xK 53 [.ref g, .int x1, .int x2] h (some (.int (if x2 = 1 then xg X x1 else 0))) h := by
  refine xK_X1_extraOf (hb 0 _ rfl) ?_
  (repeat' (first | (simp only [xb_X1_extraOf_0, xb_X1_extraOf_14, xb_X1_extraOf_15, xs_nil, Nat.reduceAdd, true_implies, not_true_eq_false, not_false_eq_true, false_implies, and_true, true_and, x_10, xs_iload_n_2, xs_iconst_1, xs_icmp_ne, xs_aload_n_0, xs_iload_n_1, xs_goto, xs_iconst_0, xs_ireturn]) | (refine ⟨fun _ => ?_, fun _ => ?_⟩) | refine xe_X1_extraOf_0 ?_ | refine xe_X1_extraOf_14 ?_ | refine xe_X1_extraOf_15 ?_ | (refine xr_getf (hb 0 _ rfl) rfl ?_) | (refine xr_iaload (hb 4 _ rfl) (hi (by simp_all)) ?_)))
  all_goals simp_all
theorem c_hasEntry (hb : x_hb h g (x_gc g P R S X T ec)) : xK 51 [.ref g, .int x1] h (some (.int (if 0 ≤ x1 ∧ x1 < ec then 1 else 0))) h := by
  refine xK_X1_hasEntry (hb 0 _ rfl) ?_
  (repeat' (first | (simp only [xb_X1_hasEntry_0, xs_nil, Nat.reduceAdd, true_implies, not_true_eq_false, not_false_eq_true, false_implies, and_true, true_and, x_10, xs_iload_n_1, xs_aload_n_0, xs_ireturn]) | (refine ⟨fun _ => ?_, fun _ => ?_⟩) | refine xe_X1_hasEntry_0 ?_ | (refine xr_getf (hb 0 _ rfl) rfl ?_) | refine xc_s2_1 (by decide) (c_isBelow) (Nat.le_of_ble_eq_true rfl) ?_))
  all_goals simp [x_bit]
theorem c_whyNoPrice (hb : x_hb h g (x_gc g P R S X T ec)) : xK 17 [.ref g, .int x1, .int x2, .int x3, .int x4] h (some (.int (if ((0 ≤ x1 ∧ x1 < 6) ∧ (0 ≤ x2 ∧ x2 < 6) ∧ 0 ≤ x3 ∧ x3 < 2) ∧ -1 ≤ x4 ∧ x4 ≤ 9 then 0 else -2))) h := by
  refine xK_X1_whyNoPrice (hb 0 _ rfl) ?_
  (repeat' (first | (simp only [xb_X1_whyNoPrice_0, xb_X1_whyNoPrice_21, xb_X1_whyNoPrice_23, xs_nil, Nat.reduceAdd, true_implies, not_true_eq_false, not_false_eq_true, false_implies, and_true, true_and, x_10, xs_iload_n_1, xs_iload_n_2, xs_iload_n_3, xs_if_eq, xs_iload_4, xs_iconst_0, xs_goto, xs_bipush_m2, xs_ireturn]) | (refine ⟨fun _ => ?_, fun _ => ?_⟩) | refine xe_X1_whyNoPrice_0 ?_ | refine xe_X1_whyNoPrice_21 ?_ | refine xe_X1_whyNoPrice_23 ?_ | refine xc_s3_1 (by decide) (c_isRulePlace) (Nat.le_of_ble_eq_true rfl) ?_ | refine xc_s1_1 (by decide) (c_isPriceOrNone) (Nat.le_of_ble_eq_true rfl) ?_))
  all_goals (first | (simp_all [x_bit, x_ite0, Int32.not_lt, Int32.not_le]; done) | ((try simp only [x_ite0] at *) <;> simp [x_bit, Int32.lt_iff_toInt_lt, Int32.le_iff_toInt_le] at * <;> omega))
theorem c_whyNoRootPrice (hb : x_hb h g (x_gc g P R S X T ec)) : xK 34 [.ref g, .int x1, .int x2] h (some (.int (if (0 ≤ x1 ∧ x1 < 6) ∧ -1 ≤ x2 ∧ x2 ≤ 9 then 0 else -2))) h := by
  refine xK_X1_whyNoRootPrice (hb 0 _ rfl) ?_
  (repeat' (first | (simp only [xb_X1_whyNoRootPrice_0, xb_X1_whyNoRootPrice_20, xb_X1_whyNoRootPrice_22, xs_nil, Nat.reduceAdd, true_implies, not_true_eq_false, not_false_eq_true, false_implies, and_true, true_and, x_10, xs_iload_n_1, xs_bipush_6, xs_if_eq, xs_iload_n_2, xs_iconst_0, xs_goto, xs_bipush_m2, xs_ireturn]) | (refine ⟨fun _ => ?_, fun _ => ?_⟩) | refine xe_X1_whyNoRootPrice_0 ?_ | refine xe_X1_whyNoRootPrice_20 ?_ | refine xe_X1_whyNoRootPrice_22 ?_ | refine xc_s2_1 (by decide) (c_isBelow) (Nat.le_of_ble_eq_true rfl) ?_ | refine xc_s1_1 (by decide) (c_isPriceOrNone) (Nat.le_of_ble_eq_true rfl) ?_))
  all_goals (first | (simp_all [x_bit, x_ite0, Int32.not_lt, Int32.not_le]; done) | ((try simp only [x_ite0] at *) <;> simp [x_bit, Int32.lt_iff_toInt_lt, Int32.le_iff_toInt_le] at * <;> omega))
theorem c_putPrice (hb : x_hb h g (x_gc g P R S X T ec)) (h2 : 2 ≤ g) (hi : xin ((x1 * 6 + x2) * 2 + x3) P.length) : xK 23 [.ref g, .int x1, .int x2, .int x3, .int x4] h (some (.int (xg P ((x1 * 6 + x2) * 2 + x3)))) (x_wr h g (x_gc g (xu P ((x1 * 6 + x2) * 2 + x3) x4) R S X T ec)) := by
  have hl := hb.fit (Nat.zero_lt_succ _)
  have e := hb.wr hl
  refine xK_X1_putPrice (hb 0 _ rfl) ?_
  (repeat' (first | (simp only [xb_X1_putPrice_0, xs_nil, Nat.reduceAdd, true_implies, not_true_eq_false, not_false_eq_true, false_implies, and_true, true_and, x_10, xs_iload_n_1, xs_bipush_6, xs_imul, xs_iload_n_2, xs_iadd, xs_iconst_2, xs_iload_n_3, xs_istore_5_i, xs_istore_5_a, xs_istore_5_n, xs_istore_5_l, xs_aload_n_0, xs_iload_5, xs_istore_6_i, xs_istore_6_a, xs_istore_6_n, xs_istore_6_l, xs_iload_4, xs_iload_6, xs_ireturn]) | (refine ⟨fun _ => ?_, fun _ => ?_⟩) | refine xe_X1_putPrice_0 ?_ | (refine xr_getf (hb 0 _ rfl) (by rfl) ?_) | (refine xr_iaload (hb 1 _ rfl) hi ?_) | (refine xv_iastore hl e hb 1 (by rfl) h2 hi (fun h1 hb e hl => ?_))))
  all_goals first | exact ⟨by simp, e⟩ | exact e | exact ⟨by simp, by simp, e⟩ | exact ⟨by simp, by simp_all, e⟩
theorem c_putRootPrice (hb : x_hb h g (x_gc g P R S X T ec)) (h2 : 2 ≤ g) (hi : xin x1 R.length) : xK 35 [.ref g, .int x1, .int x2] h (some (.int (xg R x1))) (x_wr h g (x_gc g P (xu R x1 x2) S X T ec)) := by
  have hl := hb.fit (Nat.zero_lt_succ _)
  have e := hb.wr hl
  refine xK_X1_putRootPrice (hb 0 _ rfl) ?_
  (repeat' (first | (simp only [xb_X1_putRootPrice_0, xs_nil, Nat.reduceAdd, true_implies, not_true_eq_false, not_false_eq_true, false_implies, and_true, true_and, x_10, xs_aload_n_0, xs_iload_n_1, xs_istore_n_3_i, xs_istore_n_3_a, xs_istore_n_3_n, xs_istore_n_3_l, xs_iload_n_2, xs_iload_n_3, xs_ireturn]) | (refine ⟨fun _ => ?_, fun _ => ?_⟩) | refine xe_X1_putRootPrice_0 ?_ | (refine xr_getf (hb 0 _ rfl) (by rfl) ?_) | (refine xr_iaload (hb 2 _ rfl) hi ?_) | (refine xv_iastore hl e hb 2 (by rfl) h2 hi (fun h1 hb e hl => ?_))))
  all_goals first | exact ⟨by simp, e⟩ | exact e | exact ⟨by simp, by simp, e⟩ | exact ⟨by simp, by simp_all, e⟩
theorem c_putSetting (hb : x_hb h g (x_gc g P R S X T ec)) (h2 : 2 ≤ g) (hi : xin x1 T.length) : xK 45 [.ref g, .int x1, .int x2] h (some (.int (xg T x1))) (x_wr h g (x_gc g P R S X (xu T x1 x2) ec)) := by
  have hl := hb.fit (Nat.zero_lt_succ _)
  have e := hb.wr hl
  refine xK_X1_putSetting (hb 0 _ rfl) ?_
  (repeat' (first | (simp only [xb_X1_putSetting_0, xs_nil, Nat.reduceAdd, true_implies, not_true_eq_false, not_false_eq_true, false_implies, and_true, true_and, x_10, xs_aload_n_0, xs_iload_n_1, xs_istore_n_3_i, xs_istore_n_3_a, xs_istore_n_3_n, xs_istore_n_3_l, xs_iload_n_2, xs_iload_n_3, xs_ireturn]) | (refine ⟨fun _ => ?_, fun _ => ?_⟩) | refine xe_X1_putSetting_0 ?_ | (refine xr_getf (hb 0 _ rfl) (by rfl) ?_) | (refine xr_iaload (hb 5 _ rfl) hi ?_) | (refine xv_iastore hl e hb 5 (by rfl) h2 hi (fun h1 hb e hl => ?_))))
  all_goals first | exact ⟨by simp, e⟩ | exact e | exact ⟨by simp, by simp, e⟩ | exact ⟨by simp, by simp_all, e⟩
theorem c_addEntry (hb : x_hb h g (x_gc g P R S X T ec)) (h2 : 2 ≤ g) (hi1 : xin (ec * 2) S.length) (hi2 : xin (ec * 2 + 1) S.length) (hi3 : xin ec X.length) : xK 39 [.ref g, .int x1, .int x2, .int x3] h (some (.int ec)) (x_wr h g (x_gc g P R (xu (xu S (ec * 2) x1) (ec * 2 + 1) x2) (xu X ec x3) T (ec + 1))) := by
  have hl := hb.fit (Nat.zero_lt_succ _)
  have e := hb.wr hl
  refine xK_X1_addEntry (hb 0 _ rfl) ?_
  (repeat' (first | (simp only [xb_X1_addEntry_0, xs_nil, Nat.reduceAdd, true_implies, not_true_eq_false, not_false_eq_true, false_implies, and_true, true_and, x_10, xs_aload_n_0, xs_istore_4_i, xs_istore_4_a, xs_istore_4_n, xs_istore_4_l, xs_iload_4, xs_iconst_2, xs_imul, xs_iload_n_1, xs_iconst_1, xs_iadd, xs_iload_n_2, xs_iload_n_3, xs_dup_i, xs_dup_a, xs_ireturn]) | (refine ⟨fun _ => ?_, fun _ => ?_⟩) | refine xe_X1_addEntry_0 ?_ | (refine xr_getf (hb 0 _ rfl) (by rfl) ?_) | (refine xv_iastore hl e hb 3 (by rfl) h2 hi1 (fun h1 hb e hl => ?_)) | (refine xv_iastore hl e hb 3 (by rfl) h2 (by rw [xu_len]; exact hi2) (fun h1 hb e hl => ?_)) | (refine xv_iastore hl e hb 4 (by rfl) h2 hi3 (fun h1 hb e hl => ?_)) | (refine xv_putf hl e hb 0 (by rfl) h2 (by exact Nat.le_of_ble_eq_true rfl) (by first | exact x_fit_int _ | exact x_fit_long _) (fun h1 hb e hl => ?_))))
  all_goals first | exact ⟨by simp, e⟩ | exact e | exact ⟨by simp, by simp, e⟩ | exact ⟨by simp, by simp_all, e⟩
theorem c_whyNoEntry (hb : x_hb h g (x_gc g P R S X T ec)) : xK 38 [.ref g, .int x1, .int x2, .int x3] h (some (.int (if ((0 ≤ x1 ∧ x1 < 6) ∧ (x2 = -1 ∨ 0 ≤ x2 ∧ x2 < 6) ∧ ¬ x2 = x1) ∧ (if x2 = -1 then x3 = 0 else 0 ≤ x3 ∧ x3 ≤ 9) then (if 12 ≤ ec then -4 else 0) else -2))) h := by
  refine xK_X1_whyNoEntry (hb 0 _ rfl) ?_
  (repeat' (first | (simp only [xb_X1_whyNoEntry_0, xb_X1_whyNoEntry_23, xb_X1_whyNoEntry_32, xb_X1_whyNoEntry_33, xb_X1_whyNoEntry_48, xb_X1_whyNoEntry_52, xb_X1_whyNoEntry_66, xb_X1_whyNoEntry_67, xb_X1_whyNoEntry_79, xb_X1_whyNoEntry_82, xb_X1_whyNoEntry_96, xb_X1_whyNoEntry_97, xs_nil, Nat.reduceAdd, true_implies, not_true_eq_false, not_false_eq_true, false_implies, and_true, true_and, x_10, xs_iload_n_1, xs_bipush_6, xs_if_eq, xs_iload_n_2, xs_iconst_m1, xs_icmp_eq, xs_iconst_1, xs_goto, xs_iconst_0, xs_istore_4_i, xs_istore_4_a, xs_istore_4_n, xs_istore_4_l, xs_icmp_ne, xs_iload_n_3, xs_if_ne, xs_if_lt, xs_bipush_9, xs_icmp_gt, xs_istore_5_i, xs_istore_5_a, xs_istore_5_n, xs_istore_5_l, xs_iload_4, xs_iload_5, xs_bipush_m2, xs_ireturn, xs_aload_n_0, xs_bipush_12, xs_icmp_lt, xs_bipush_m4]) | (refine ⟨fun _ => ?_, fun _ => ?_⟩) | refine xe_X1_whyNoEntry_0 ?_ | refine xe_X1_whyNoEntry_23 ?_ | refine xe_X1_whyNoEntry_32 ?_ | refine xe_X1_whyNoEntry_33 ?_ | refine xe_X1_whyNoEntry_48 ?_ | refine xe_X1_whyNoEntry_52 ?_ | refine xe_X1_whyNoEntry_66 ?_ | refine xe_X1_whyNoEntry_67 ?_ | refine xe_X1_whyNoEntry_79 ?_ | refine xe_X1_whyNoEntry_82 ?_ | refine xe_X1_whyNoEntry_96 ?_ | refine xe_X1_whyNoEntry_97 ?_ | (refine xr_getf (hb 0 _ rfl) (by rfl) ?_) | refine xc_s2_1 (by decide) (c_isBelow) (Nat.le_of_ble_eq_true rfl) ?_))
  all_goals simp only [x_ite0] at *
  all_goals first | (simp_all; done) | (simp_all [Int32.lt_iff_toInt_lt, Int32.le_iff_toInt_le]; omega)
end GR
end
section
/-! Sentence, Script: short ones -/
def x_sc (g : Nat) (en ro co re su : List Int32) (ct : Int32) : List xE := [.inr (3, [.ref (g + 1), .ref (g + 2), .ref (g + 3), .ref (g + 4), .ref (g + 5), .int ct]), xi en, xi ro, xi co, xi re, xi su]
section SE
variable {g : Nat} {en ro co re su : List Int32} {ct x1 x2 x3 x4 : Int32} {h : xH}
theorem c_heldRow (hb : x_hb h g (x_sc g en ro co re su ct)) (hi : xin ct ro.length) : xK 58 [.ref g] h (some (.int (xg ro ct))) h := by
  refine xK_X4_heldRow (hb 0 _ rfl) ?_
  (repeat' (first | (simp only [xb_X4_heldRow_0, xs_nil, Nat.reduceAdd, true_implies, not_true_eq_false, not_false_eq_true, false_implies, and_true, true_and, x_10, xs_aload_n_0, xs_ireturn]) | (refine ⟨fun _ => ?_, fun _ => ?_⟩) | refine xe_X4_heldRow_0 ?_ | (refine xr_getf (hb 0 _ rfl) (by rfl) ?_) | (refine xr_iaload (hb 2 _ rfl) hi ?_)))
  all_goals simp
theorem c_isStuck (hb : x_hb h g (x_sc g en ro co re su ct)) (hi : xin ct ro.length) : xK 59 [.ref g] h (some (.int (if 0 < ct ∧ xg ro ct = -1 then 1 else 0))) h := by
  refine xK_X4_isStuck (hb 0 _ rfl) ?_
  (repeat' (first | (simp only [xb_X4_isStuck_0, xb_X4_isStuck_19, xb_X4_isStuck_20, xs_nil, Nat.reduceAdd, true_implies, not_true_eq_false, not_false_eq_true, false_implies, and_true, true_and, x_10, xs_aload_n_0, xs_if_le, xs_iconst_m1, xs_icmp_ne, xs_iconst_1, xs_goto, xs_iconst_0, xs_ireturn]) | (refine ⟨fun _ => ?_, fun _ => ?_⟩) | refine xe_X4_isStuck_0 ?_ | refine xe_X4_isStuck_19 ?_ | refine xe_X4_isStuck_20 ?_ | (refine xr_getf (hb 0 _ rfl) (by rfl) ?_) | refine xc_v1_1 (c_heldRow hb hi) (Nat.le_of_ble_eq_true rfl) ?_))
  all_goals (first | (simp_all [x_bit, x_ite0, Int32.not_lt, Int32.not_le]; done) | ((try simp only [x_ite0] at *) <;> simp [x_bit, Int32.lt_iff_toInt_lt, Int32.le_iff_toInt_le] at * <;> omega))
theorem c_putReckoned (hb : x_hb h g (x_sc g en ro co re su ct)) (h2 : 2 ≤ g) (hi1 : xin ct ro.length) (hi2 : xin ct co.length) (hi3 : xin ct re.length) (hi4 : xin ct su.length) : xK 75 [.ref g, .int x1, .int x2, .int x3, .int x4] h none (x_wr h g (x_sc g en (xu ro ct x1) (xu co ct x2) (xu re ct x3) (xu su ct x4) ct)) := by
  have hl := hb.fit (Nat.zero_lt_succ _)
  have e := hb.wr hl
  refine xK_X4_putReckoned (hb 0 _ rfl) ?_
  (repeat' (first | (simp only [xb_X4_putReckoned_0, xs_nil, Nat.reduceAdd, true_implies, not_true_eq_false, not_false_eq_true, false_implies, and_true, true_and, x_10, xs_aload_n_0, xs_iload_n_1, xs_iload_n_2, xs_iload_n_3, xs_iload_4, xs_return]) | (refine ⟨fun _ => ?_, fun _ => ?_⟩) | refine xe_X4_putReckoned_0 ?_ | (refine xr_getf (hb 0 _ rfl) (by rfl) ?_) | (refine xv_iastore hl e hb 2 (by rfl) h2 hi1 (fun h1 hb e hl => ?_)) | (refine xv_iastore hl e hb 3 (by rfl) h2 hi2 (fun h1 hb e hl => ?_)) | (refine xv_iastore hl e hb 4 (by rfl) h2 hi3 (fun h1 hb e hl => ?_)) | (refine xv_iastore hl e hb 5 (by rfl) h2 hi4 (fun h1 hb e hl => ?_))))
  all_goals first | exact ⟨by simp, e⟩ | exact e | exact ⟨by simp, by simp, e⟩ | exact ⟨by simp, by simp_all, e⟩
end SE
def x_rc (g : Nat) (by_ kd fi cn nu : List Int32) (nr at_ ln od : Int32) : List xE := [.inr (2, [.ref (g + 1), .ref (g + 2), .ref (g + 3), .ref (g + 4), .ref (g + 5), .int nr, .int at_, .int ln, .int od]), xi by_, xi kd, xi fi, xi cn, xi nu]
section SR
variable {g : Nat} {by_ kd fi cn nu : List Int32} {nr at_ ln od x1 x2 : Int32} {h : xH}
theorem c_append (hb : x_hb h g (x_rc g by_ kd fi cn nu nr at_ ln od)) (h2 : 2 ≤ g) (hi : xin ln by_.length) (hln : ln < 120) : xK 132 [.ref g, .int x1] h none (x_wr h g (x_rc g (xu by_ ln x1) kd fi cn nu nr at_ (ln + 1) od)) := by
  have hl := hb.fit (Nat.zero_lt_succ _)
  have e := hb.wr hl
  refine xK_X3_append (hb 0 _ rfl) ?_
  (repeat' (first | (simp only [xb_X3_append_0, xb_X3_append_29, xs_nil, Nat.reduceAdd, true_implies, not_true_eq_false, not_false_eq_true, false_implies, and_true, true_and, x_10, xs_aload_n_0, xs_bipush_120, xs_icmp_ge, xs_iload_n_1, xs_dup_i, xs_dup_a, xs_iconst_1, xs_iadd, xs_return]) | (refine ⟨fun _ => ?_, fun _ => ?_⟩) | refine xe_X3_append_0 ?_ | refine xe_X3_append_29 ?_ | (refine xr_getf (hb 0 _ rfl) (by rfl) ?_) | (refine xv_iastore hl e hb 1 (by rfl) h2 hi (fun h1 hb e hl => ?_)) | (refine xv_putf hl e hb 0 (by rfl) h2 (by exact Nat.le_of_ble_eq_true rfl) (by first | exact x_fit_int _ | exact x_fit_long _) (fun h1 hb e hl => ?_))))
  all_goals first | (exfalso; simp only [Int32.lt_iff_toInt_lt, Int32.le_iff_toInt_le] at *; omega) | exact ⟨by simp, e⟩ | exact e | simp [e]
theorem c_kind (hb : x_hb h g (x_rc g by_ kd fi cn nu nr at_ ln od)) (hi : xin x1 kd.length) : xK 145 [.ref g, .int x1] h (some (.int (xg kd x1))) h := by
  refine xK_X3_kind (hb 0 _ rfl) ?_
  (repeat' (first | (simp only [xb_X3_kind_0, xs_nil, Nat.reduceAdd, true_implies, not_true_eq_false, not_false_eq_true, false_implies, and_true, true_and, x_10, xs_aload_n_0, xs_iload_n_1, xs_ireturn]) | (refine ⟨fun _ => ?_, fun _ => ?_⟩) | refine xe_X3_kind_0 ?_ | (refine xr_getf (hb 0 _ rfl) (by rfl) ?_) | (refine xr_iaload (hb 2 _ rfl) hi ?_)))
  all_goals simp
theorem c_numberCount (hb : x_hb h g (x_rc g by_ kd fi cn nu nr at_ ln od)) (hi : xin x1 cn.length) : xK 146 [.ref g, .int x1] h (some (.int (xg cn x1))) h := by
  refine xK_X3_numberCount (hb 0 _ rfl) ?_
  (repeat' (first | (simp only [xb_X3_numberCount_0, xs_nil, Nat.reduceAdd, true_implies, not_true_eq_false, not_false_eq_true, false_implies, and_true, true_and, x_10, xs_aload_n_0, xs_iload_n_1, xs_ireturn]) | (refine ⟨fun _ => ?_, fun _ => ?_⟩) | refine xe_X3_numberCount_0 ?_ | (refine xr_getf (hb 0 _ rfl) (by rfl) ?_) | (refine xr_iaload (hb 4 _ rfl) hi ?_)))
  all_goals simp
theorem c_number (hb : x_hb h g (x_rc g by_ kd fi cn nu nr at_ ln od)) (hi : xin x1 cn.length) (hi2 : xin x1 fi.length) (hi3 : x2 < xg cn x1 → xin (xg fi x1 + x2) nu.length) : xK 147 [.ref g, .int x1, .int x2] h (some (.int (if x2 < xg cn x1 then xg nu (xg fi x1 + x2) else -1))) h := by
  refine xK_X3_number (hb 0 _ rfl) ?_
  (repeat' (first | (simp only [xb_X3_number_0, xb_X3_number_26, xb_X3_number_27, xs_nil, Nat.reduceAdd, true_implies, not_true_eq_false, not_false_eq_true, false_implies, and_true, true_and, x_10, xs_iload_n_2, xs_aload_n_0, xs_iload_n_1, xs_icmp_ge, xs_iadd, xs_goto, xs_iconst_m1, xs_ireturn]) | (refine ⟨fun _ => ?_, fun _ => ?_⟩) | refine xe_X3_number_0 ?_ | refine xe_X3_number_26 ?_ | refine xe_X3_number_27 ?_ | (refine xr_getf (hb 0 _ rfl) (by rfl) ?_) | (refine xr_iaload (hb 4 _ rfl) hi ?_) | (refine xr_iaload (hb 3 _ rfl) hi2 ?_) | (refine xr_iaload (hb 5 _ rfl) (hi3 (by simp_all [Int32.not_le])) ?_)))
  all_goals first | (simp_all [Int32.not_le]; done) | (simp_all [Int32.lt_iff_toInt_lt, Int32.le_iff_toInt_le]; omega)
theorem c_here (hb : x_hb h g (x_rc g by_ kd fi cn nu nr at_ ln od)) (hi : at_ < ln → xin at_ by_.length) : xK 138 [.ref g] h (some (.int (if at_ < ln then xg by_ at_ else -1))) h := by
  refine xK_X3_here (hb 0 _ rfl) ?_
  (repeat' (first | (simp only [xb_X3_here_0, xb_X3_here_23, xb_X3_here_24, xs_nil, Nat.reduceAdd, true_implies, not_true_eq_false, not_false_eq_true, false_implies, and_true, true_and, x_10, xs_aload_n_0, xs_icmp_ge, xs_goto, xs_iconst_m1, xs_ireturn]) | (refine ⟨fun _ => ?_, fun _ => ?_⟩) | refine xe_X3_here_0 ?_ | refine xe_X3_here_23 ?_ | refine xe_X3_here_24 ?_ | (refine xr_getf (hb 0 _ rfl) (by rfl) ?_) | (refine xr_iaload (hb 1 _ rfl) (hi (by simp_all [Int32.not_le])) ?_)))
  all_goals first | (simp_all [Int32.not_le]; done) | (simp_all [Int32.lt_iff_toInt_lt, Int32.le_iff_toInt_le]; omega)
theorem c_isFigureHere (hb : x_hb h g (x_rc g by_ kd fi cn nu nr at_ ln od)) (hi : at_ < ln → xin at_ by_.length) : xK 140 [.ref g] h (some (.int (if 48 ≤ (if at_ < ln then xg by_ at_ else -1) ∧ (if at_ < ln then xg by_ at_ else -1) ≤ 57 then 1 else 0))) h := by
  refine xK_X3_isFigureHere (hb 0 _ rfl) ?_
  generalize hq : (if at_ < ln then xg by_ at_ else -1) = q
  (repeat' (first | (simp only [xb_X3_isFigureHere_0, xb_X3_isFigureHere_21, xb_X3_isFigureHere_22, xs_nil, Nat.reduceAdd, true_implies, not_true_eq_false, not_false_eq_true, false_implies, and_true, true_and, x_10, xs_aload_n_0, xs_istore_n_1_i, xs_istore_n_1_a, xs_istore_n_1_n, xs_istore_n_1_l, xs_iload_n_1, xs_bipush_48, xs_icmp_lt, xs_bipush_57, xs_icmp_gt, xs_iconst_1, xs_goto, xs_iconst_0, xs_ireturn]) | (refine ⟨fun _ => ?_, fun _ => ?_⟩) | refine xe_X3_isFigureHere_0 ?_ | refine xe_X3_isFigureHere_21 ?_ | refine xe_X3_isFigureHere_22 ?_ | refine xc_v1_1 (hq ▸ c_here hb hi) (Nat.le_of_ble_eq_true rfl) ?_))
  all_goals (first | (simp_all [x_bit, x_ite0, Int32.not_lt, Int32.not_le]; done) | ((try simp only [x_ite0] at *) <;> simp [x_bit, Int32.lt_iff_toInt_lt, Int32.le_iff_toInt_le] at * <;> omega))
end SR
end
section
/-! the reference: methods without loops -/
/-- its cells -/
def x_mc (m : Nat) (nw asd pa : List Int32) (sts : Int32) (rf tx : List Int32) (byt : Int32) (hd rd so ah ar tr bg : List Int32) (fo bc br bk : Int32) (le fr nu : List Int32) (od sp wr : Int32) (ha : Int64) : List xE := [.inr (7, [.ref (m + 1), .ref (m + 2), .ref (m + 3), .int sts, .ref (m + 4), .ref (m + 5), .int byt, .ref (m + 6), .ref (m + 7), .ref (m + 8), .ref (m + 9), .ref (m + 10), .ref (m + 11), .ref (m + 12), .int fo, .int bc, .int br, .int bk, .ref (m + 13), .ref (m + 14), .ref (m + 15), .int od, .int sp, .int wr, .long ha]), xi nw, xi asd, xi pa, xi rf, xi tx, xi hd, xi rd, xi so, xi ah, xi ar, xi tr, xi bg, xi le, xi fr, xi nu]
section MO
variable {m : Nat} {nw asd pa rf tx hd rd so ah ar tr bg le fr nu : List Int32} {sts byt fo bc br bk od sp wr : Int32} {ha : Int64} {x1 x2 x3 x4 : Int32} {h : xH}
theorem c_isSort : xK 26 [.int x1] h (some (.int (if 0 ≤ x1 ∧ x1 ≤ 5 then 1 else 0))) h := by
  refine xK_X8_isSort ?_
  (repeat' (first | (simp only [xb_X8_isSort_0, xs_nil, Nat.reduceAdd, true_implies, not_true_eq_false, not_false_eq_true, false_implies, and_true, true_and, x_10, xs_iload_n_0, xs_iconst_0, xs_iconst_5, xs_ireturn]) | (refine ⟨fun _ => ?_, fun _ => ?_⟩) | refine xe_X8_isSort_0 ?_ | refine xc_s3_1 (by decide) (c_in) (Nat.le_of_ble_eq_true rfl) ?_))
  all_goals simp [x_bit]
theorem c_isPrice : xK 28 [.int x1] h (some (.int (if -1 ≤ x1 ∧ x1 ≤ 9 then 1 else 0))) h := by
  refine xK_X8_isPrice ?_
  (repeat' (first | (simp only [xb_X8_isPrice_0, xs_nil, Nat.reduceAdd, true_implies, not_true_eq_false, not_false_eq_true, false_implies, and_true, true_and, x_10, xs_iload_n_0, xs_iconst_m1, xs_bipush_9, xs_ireturn]) | (refine ⟨fun _ => ?_, fun _ => ?_⟩) | refine xe_X8_isPrice_0 ?_ | refine xc_s3_1 (by decide) (c_in) (Nat.le_of_ble_eq_true rfl) ?_))
  all_goals simp [x_bit]
theorem c_isRule : xK 27 [.int x1, .int x2, .int x3] h (some (.int (if (0 ≤ x1 ∧ x1 ≤ 5) ∧ (0 ≤ x2 ∧ x2 ≤ 5) ∧ 0 ≤ x3 ∧ x3 ≤ 1 then 1 else 0))) h := by
  refine xK_X8_isRule ?_
  (repeat' (first | (simp only [xb_X8_isRule_0, xb_X8_isRule_27, xb_X8_isRule_28, xs_nil, Nat.reduceAdd, true_implies, not_true_eq_false, not_false_eq_true, false_implies, and_true, true_and, x_10, xs_iload_n_0, xs_if_eq, xs_iload_n_1, xs_iload_n_2, xs_iconst_0, xs_iconst_1, xs_goto, xs_ireturn]) | (refine ⟨fun _ => ?_, fun _ => ?_⟩) | refine xe_X8_isRule_0 ?_ | refine xe_X8_isRule_27 ?_ | refine xe_X8_isRule_28 ?_ | refine xc_s1_1 (by decide) (c_isSort) (Nat.le_of_ble_eq_true rfl) ?_ | refine xc_s3_1 (by decide) (c_in) (Nat.le_of_ble_eq_true rfl) ?_))
  all_goals (first | (simp_all [x_bit, x_ite0, Int32.not_lt, Int32.not_le]; done) | ((try simp only [x_ite0] at *) <;> simp [x_bit, Int32.lt_iff_toInt_lt, Int32.le_iff_toInt_le] at * <;> omega))
theorem c_canEnter : xK 41 [.int x1, .int x2, .int x3] h (some (.int (if (0 ≤ x1 ∧ x1 ≤ 5) ∧ (0 ≤ x3 ∧ x3 ≤ 9) ∧ (((0 ≤ x2 ∧ x2 ≤ 5) ∧ ¬ x2 = x1) ∨ x2 = -1 ∧ x3 = 0) then 1 else 0))) h := by
  refine xK_X8_canEnter ?_
  (repeat' (first | (simp only [xb_X8_canEnter_0, xb_X8_canEnter_16, xb_X8_canEnter_17, xb_X8_canEnter_48, xb_X8_canEnter_52, xb_X8_canEnter_53, xs_nil, Nat.reduceAdd, true_implies, not_true_eq_false, not_false_eq_true, false_implies, and_true, true_and, x_10, xs_iload_n_1, xs_if_eq, xs_iload_n_0, xs_icmp_eq, xs_iconst_1, xs_goto, xs_iconst_0, xs_istore_n_3_i, xs_istore_n_3_a, xs_istore_n_3_n, xs_istore_n_3_l, xs_iload_n_2, xs_bipush_9, xs_iload_n_3, xs_if_ne, xs_iconst_m1, xs_icmp_ne, xs_ireturn]) | (refine ⟨fun _ => ?_, fun _ => ?_⟩) | refine xe_X8_canEnter_0 ?_ | refine xe_X8_canEnter_16 ?_ | refine xe_X8_canEnter_17 ?_ | refine xe_X8_canEnter_48 ?_ | refine xe_X8_canEnter_52 ?_ | refine xe_X8_canEnter_53 ?_ | refine xc_s1_1 (by decide) (c_isSort) (Nat.le_of_ble_eq_true rfl) ?_ | refine xc_s3_1 (by decide) (c_in) (Nat.le_of_ble_eq_true rfl) ?_))
  all_goals simp only [x_ite0] at *
  all_goals first | (simp_all; done) | (simp_all [Int32.lt_iff_toInt_lt, Int32.le_iff_toInt_le]; omega)
theorem c_bad (hb : x_hb h m (x_mc m nw asd pa sts rf tx byt hd rd so ah ar tr bg fo bc br bk le fr nu od sp wr ha)) (h2 : 2 ≤ m) (hi : xin 0 rf.length) : xK 29 [.ref m] h (some (.int (-2))) (x_wr h m (x_mc m nw asd pa sts (xu rf 0 (xg rf 0 + 1)) tx byt hd rd so ah ar tr bg fo bc br bk le fr nu od sp wr ha)) := by
  have hl := hb.fit (Nat.zero_lt_succ _)
  have e := hb.wr hl
  refine xK_X8_bad (hb 0 _ rfl) ?_
  (repeat' (first | (simp only [xb_X8_bad_0, xs_nil, Nat.reduceAdd, true_implies, not_true_eq_false, not_false_eq_true, false_implies, and_true, true_and, x_10, xs_aload_n_0, xs_iconst_0, xs_dup2, xs_iconst_1, xs_iadd, xs_bipush_m2, xs_ireturn]) | (refine ⟨fun _ => ?_, fun _ => ?_⟩) | refine xe_X8_bad_0 ?_ | (refine xr_getf (hb 0 _ rfl) (by rfl) ?_) | (refine xr_iaload (hb 4 _ rfl) hi ?_) | (refine xv_iastore hl e hb 4 (by rfl) h2 hi (fun h1 hb e hl => ?_))))
  all_goals first | exact ⟨by simp, e⟩ | exact e | exact ⟨by simp, by simp, e⟩ | exact ⟨by simp, by simp_all, e⟩
theorem c_no (hb : x_hb h m (x_mc m nw asd pa sts rf tx byt hd rd so ah ar tr bg fo bc br bk le fr nu od sp wr ha)) (h2 : 2 ≤ m) (hi : xin 1 rf.length) : xK 98 [.ref m] h (some (.int (-3))) (x_wr h m (x_mc m nw asd pa sts (xu rf 1 (xg rf 1 + 1)) tx byt hd rd so ah ar tr bg fo bc br bk le fr nu od sp wr ha)) := by
  have hl := hb.fit (Nat.zero_lt_succ _)
  have e := hb.wr hl
  refine xK_X8_no (hb 0 _ rfl) ?_
  (repeat' (first | (simp only [xb_X8_no_0, xs_nil, Nat.reduceAdd, true_implies, not_true_eq_false, not_false_eq_true, false_implies, and_true, true_and, x_10, xs_aload_n_0, xs_iconst_1, xs_dup2, xs_iadd, xs_bipush_m3, xs_ireturn]) | (refine ⟨fun _ => ?_, fun _ => ?_⟩) | refine xe_X8_no_0 ?_ | (refine xr_getf (hb 0 _ rfl) (by rfl) ?_) | (refine xr_iaload (hb 4 _ rfl) hi ?_) | (refine xv_iastore hl e hb 4 (by rfl) h2 hi (fun h1 hb e hl => ?_))))
  all_goals first | exact ⟨by simp, e⟩ | exact e | exact ⟨by simp, by simp, e⟩ | exact ⟨by simp, by simp_all, e⟩
theorem c_full (hb : x_hb h m (x_mc m nw asd pa sts rf tx byt hd rd so ah ar tr bg fo bc br bk le fr nu od sp wr ha)) (h2 : 2 ≤ m) (hi : xin 2 rf.length) : xK 42 [.ref m] h (some (.int (-4))) (x_wr h m (x_mc m nw asd pa sts (xu rf 2 (xg rf 2 + 1)) tx byt hd rd so ah ar tr bg fo bc br bk le fr nu od sp wr ha)) := by
  have hl := hb.fit (Nat.zero_lt_succ _)
  have e := hb.wr hl
  refine xK_X8_full (hb 0 _ rfl) ?_
  (repeat' (first | (simp only [xb_X8_full_0, xs_nil, Nat.reduceAdd, true_implies, not_true_eq_false, not_false_eq_true, false_implies, and_true, true_and, x_10, xs_aload_n_0, xs_iconst_2, xs_dup2, xs_iconst_1, xs_iadd, xs_bipush_m4, xs_ireturn]) | (refine ⟨fun _ => ?_, fun _ => ?_⟩) | refine xe_X8_full_0 ?_ | (refine xr_getf (hb 0 _ rfl) (by rfl) ?_) | (refine xr_iaload (hb 4 _ rfl) hi ?_) | (refine xv_iastore hl e hb 4 (by rfl) h2 hi (fun h1 hb e hl => ?_))))
  all_goals first | exact ⟨by simp, e⟩ | exact e | exact ⟨by simp, by simp, e⟩ | exact ⟨by simp, by simp_all, e⟩
theorem c_exchanges (hb : x_hb h m (x_mc m nw asd pa sts rf tx byt hd rd so ah ar tr bg fo bc br bk le fr nu od sp wr ha)) (h2 : 2 ≤ m) (hi : xin x1 nw.length) : xK 32 [.ref m, .int x1, .int x2] h (some (.int (xg nw x1))) (x_wr h m (x_mc m (xu nw x1 x2) asd pa sts rf tx byt hd rd so ah ar tr bg fo bc br bk le fr nu od sp wr ha)) := by
  have hl := hb.fit (Nat.zero_lt_succ _)
  have e := hb.wr hl
  refine xK_X8_exchanges (hb 0 _ rfl) ?_
  (repeat' (first | (simp only [xb_X8_exchanges_0, xs_nil, Nat.reduceAdd, true_implies, not_true_eq_false, not_false_eq_true, false_implies, and_true, true_and, x_10, xs_aload_n_0, xs_iload_n_1, xs_istore_n_3_i, xs_istore_n_3_a, xs_istore_n_3_n, xs_istore_n_3_l, xs_iload_n_2, xs_iload_n_3, xs_ireturn]) | (refine ⟨fun _ => ?_, fun _ => ?_⟩) | refine xe_X8_exchanges_0 ?_ | (refine xr_getf (hb 0 _ rfl) (by rfl) ?_) | (refine xr_iaload (hb 1 _ rfl) hi ?_) | (refine xv_iastore hl e hb 1 (by rfl) h2 hi (fun h1 hb e hl => ?_))))
  all_goals first | exact ⟨by simp, e⟩ | exact e | exact ⟨by simp, by simp, e⟩ | exact ⟨by simp, by simp_all, e⟩
theorem c_isEntry (hb : x_hb h m (x_mc m nw asd pa sts rf tx byt hd rd so ah ar tr bg fo bc br bk le fr nu od sp wr ha)) (hi : xin 78 nw.length) : xK 55 [.ref m, .int x1] h (some (.int (if 0 ≤ x1 ∧ x1 ≤ xg nw 78 - 1 then 1 else 0))) h := by
  refine xK_X8_isEntry (hb 0 _ rfl) ?_
  (repeat' (first | (simp only [xb_X8_isEntry_0, xs_nil, Nat.reduceAdd, true_implies, not_true_eq_false, not_false_eq_true, false_implies, and_true, true_and, x_10, xs_iload_n_1, xs_iconst_0, xs_aload_n_0, xs_bipush_78, xs_iconst_1, xs_isub, xs_ireturn]) | (refine ⟨fun _ => ?_, fun _ => ?_⟩) | refine xe_X8_isEntry_0 ?_ | (refine xr_getf (hb 0 _ rfl) (by rfl) ?_) | (refine xr_iaload (hb 1 _ rfl) hi ?_) | refine xc_s3_1 (by decide) (c_in) (Nat.le_of_ble_eq_true rfl) ?_))
  all_goals simp [x_bit]
theorem c_entryAt (hb : x_hb h m (x_mc m nw asd pa sts rf tx byt hd rd so ah ar tr bg fo bc br bk le fr nu od sp wr ha)) (hi : xin (119 + 5 * (x1 - 1)) nw.length) : xK 85 [.ref m, .int x1] h (some (.int (79 + 3 * xg nw (119 + 5 * (x1 - 1))))) h := by
  refine xK_X8_entryAt (hb 0 _ rfl) ?_
  (repeat' (first | (simp only [xb_X8_entryAt_0, xs_nil, Nat.reduceAdd, true_implies, not_true_eq_false, not_false_eq_true, false_implies, and_true, true_and, x_10, xs_bipush_79, xs_iconst_3, xs_aload_n_0, xs_iload_n_1, xs_imul, xs_iadd, xs_ireturn]) | (refine ⟨fun _ => ?_, fun _ => ?_⟩) | refine xe_X8_entryAt_0 ?_ | (refine xr_getf (hb 0 _ rfl) (by rfl) ?_) | (refine xr_iaload (hb 1 _ rfl) hi ?_) | refine xc_v2_1 (c_wordAt (hb 0 _ rfl)) (Nat.le_of_ble_eq_true rfl) ?_))
  all_goals simp
theorem c_holds (hb : x_hb h m (x_mc m nw asd pa sts rf tx byt hd rd so ah ar tr bg fo bc br bk le fr nu od sp wr ha)) (hi : 0 < x1 → xin (119 + 5 * (x1 - 1) + 3) nw.length) : xK 82 [.ref m, .int x1] h (some (.int (if 0 < x1 ∧ 0 ≤ xg nw (119 + 5 * (x1 - 1) + 3) then 1 else 0))) h := by
  refine xK_X8_holds (hb 0 _ rfl) ?_
  (repeat' (first | (simp only [xb_X8_holds_0, xb_X8_holds_23, xb_X8_holds_24, xs_nil, Nat.reduceAdd, true_implies, not_true_eq_false, not_false_eq_true, false_implies, and_true, true_and, x_10, xs_iload_n_1, xs_if_le, xs_aload_n_0, xs_iconst_3, xs_iadd, xs_if_lt, xs_iconst_1, xs_goto, xs_iconst_0, xs_ireturn]) | (refine ⟨fun _ => ?_, fun _ => ?_⟩) | refine xe_X8_holds_0 ?_ | refine xe_X8_holds_23 ?_ | refine xe_X8_holds_24 ?_ | (refine xr_getf (hb 0 _ rfl) (by rfl) ?_) | (refine xr_iaload (hb 1 _ rfl) (hi (by simp_all [Int32.not_le])) ?_) | refine xc_v2_1 (c_wordAt (hb 0 _ rfl)) (Nat.le_of_ble_eq_true rfl) ?_))
  all_goals (first | (simp_all [x_bit, x_ite0, Int32.not_lt, Int32.not_le]; done) | ((try simp only [x_ite0] at *) <;> simp [x_bit, Int32.lt_iff_toInt_lt, Int32.le_iff_toInt_le] at * <;> omega))
theorem c_misStuck (hb : x_hb h m (x_mc m nw asd pa sts rf tx byt hd rd so ah ar tr bg fo bc br bk le fr nu od sp wr ha)) (hi : xin 118 nw.length) (hi2 : 0 < xg nw 118 → xin (119 + 5 * (xg nw 118 - 1) + 3) nw.length) : xK 105 [.ref m] h (some (.int (if 0 < xg nw 118 ∧ ¬ (0 < xg nw 118 ∧ 0 ≤ xg nw (119 + 5 * (xg nw 118 - 1) + 3)) then 1 else 0))) h := by
  refine xK_X8_isStuck (hb 0 _ rfl) ?_
  (repeat' (first | (simp only [xb_X8_isStuck_0, xb_X8_isStuck_28, xb_X8_isStuck_29, xs_nil, Nat.reduceAdd, true_implies, not_true_eq_false, not_false_eq_true, false_implies, and_true, true_and, x_10, xs_aload_n_0, xs_bipush_118, xs_if_le, xs_if_ne, xs_iconst_1, xs_goto, xs_iconst_0, xs_ireturn]) | (refine ⟨fun _ => ?_, fun _ => ?_⟩) | refine xe_X8_isStuck_0 ?_ | refine xe_X8_isStuck_28 ?_ | refine xe_X8_isStuck_29 ?_ | (refine xr_getf (hb 0 _ rfl) (by rfl) ?_) | (refine xr_iaload (hb 1 _ rfl) hi ?_) | refine xc_v2_1 (c_holds hb hi2) (Nat.le_of_ble_eq_true rfl) ?_))
  all_goals try simp only [x_ite0] at *
  all_goals first | (simp_all; done) | (simp_all [Int32.lt_iff_toInt_lt, Int32.le_iff_toInt_le]; omega)
theorem c_betweenOf (hb : x_hb h m (x_mc m nw asd pa sts rf tx byt hd rd so ah ar tr bg fo bc br bk le fr nu od sp wr ha)) (hi : xin x1 hd.length) : xK 88 [.ref m, .int x1] h (some (.int (if xg hd x1 = 0 then 0 else if xg hd x1 < x1 then x1 - xg hd x1 - 1 else xg hd x1 - x1 - 1))) h := by
  refine xK_X8_betweenOf (hb 0 _ rfl) ?_
  (repeat' (first | (simp only [xb_X8_betweenOf_0, xb_X8_betweenOf_15, xb_X8_betweenOf_28, xb_X8_betweenOf_33, xs_nil, Nat.reduceAdd, true_implies, not_true_eq_false, not_false_eq_true, false_implies, and_true, true_and, x_10, xs_aload_n_0, xs_iload_n_1, xs_istore_n_2_i, xs_istore_n_2_a, xs_istore_n_2_n, xs_istore_n_2_l, xs_iload_n_2, xs_if_ne, xs_iconst_0, xs_goto, xs_icmp_ge, xs_isub, xs_iconst_1, xs_ireturn]) | (refine ⟨fun _ => ?_, fun _ => ?_⟩) | refine xe_X8_betweenOf_0 ?_ | refine xe_X8_betweenOf_15 ?_ | refine xe_X8_betweenOf_28 ?_ | refine xe_X8_betweenOf_33 ?_ | (refine xr_getf (hb 0 _ rfl) (by rfl) ?_) | (refine xr_iaload (hb 6 _ rfl) hi ?_)))
  all_goals first | (simp_all [Int32.not_le]; done) | (simp_all [Int32.lt_iff_toInt_lt, Int32.le_iff_toInt_le]; omega)
theorem c_priceOf (hb : x_hb h m (x_mc m nw asd pa sts rf tx byt hd rd so ah ar tr bg fo bc br bk le fr nu od sp wr ha)) (hi : xin x1 hd.length) (hi2 : xin x1 so.length) (hi3 : xg hd x1 = 0 → xin (72 + xg so x1) nw.length) (hi4 : ¬ xg hd x1 = 0 → xin (xg hd x1) so.length ∧ xin (0 + 12 * xg so (xg hd x1) + 2 * xg so x1 + (if xg hd x1 ≤ x1 then 1 else 0)) nw.length) : xK 87 [.ref m, .int x1] h (some (.int (if xg hd x1 = 0 then xg nw (72 + xg so x1) else xg nw (0 + 12 * xg so (xg hd x1) + 2 * xg so x1 + (if xg hd x1 ≤ x1 then 1 else 0))))) h := by
  refine xK_X8_priceOf (hb 0 _ rfl) ?_
  (repeat' (first | (simp only [xb_X8_priceOf_0, xb_X8_priceOf_28, xb_X8_priceOf_53, xb_X8_priceOf_54, xb_X8_priceOf_58, xs_nil, Nat.reduceAdd, true_implies, not_true_eq_false, not_false_eq_true, false_implies, and_true, true_and, x_10, xs_aload_n_0, xs_iload_n_1, xs_istore_n_2_i, xs_istore_n_2_a, xs_istore_n_2_n, xs_istore_n_2_l, xs_iload_n_2, xs_if_ne, xs_bipush_72, xs_iadd, xs_goto, xs_icmp_ge, xs_iconst_0, xs_iconst_1, xs_ireturn]) | (refine ⟨fun _ => ?_, fun _ => ?_⟩) | refine xe_X8_priceOf_0 ?_ | refine xe_X8_priceOf_28 ?_ | refine xe_X8_priceOf_53 ?_ | refine xe_X8_priceOf_54 ?_ | refine xe_X8_priceOf_58 ?_ | (refine xr_getf (hb 0 _ rfl) (by rfl) ?_) | (refine xr_iaload (hb 6 _ rfl) hi ?_) | (refine xr_iaload (hb 8 _ rfl) hi2 ?_) | (refine xr_iaload (hb 8 _ rfl) (hi4 (by simp_all)).1 ?_) | (refine xr_iaload (hb 1 _ rfl) (hi3 (by simp_all)) ?_) | (refine xr_iaload (hb 1 _ rfl) (by have := (hi4 (by simp_all)).2; simp_all) ?_) | refine xc_s3_1 (by decide) (c_ruleAt) (Nat.le_of_ble_eq_true rfl) ?_))
  all_goals simp [*]
theorem c_isBetter (hb : x_hb h m (x_mc m nw asd pa sts rf tx byt hd rd so ah ar tr bg fo bc br bk le fr nu od sp wr ha)) : xK 92 [.ref m, .int x1, .int x2, .int x3] h (some (.int (if (if fo = 0 ∨ ¬ x1 + x2 = bc + br then fo = 0 ∨ x1 + x2 < bc + br else x2 < br ∨ x2 = br ∧ x3 < bk) then 1 else 0))) h := by
  refine xK_X8_isBetter (hb 0 _ rfl) ?_
  (repeat' (first | (simp only [xb_X8_isBetter_0, xb_X8_isBetter_26, xb_X8_isBetter_41, xb_X8_isBetter_45, xb_X8_isBetter_46, xb_X8_isBetter_47, xb_X8_isBetter_71, xb_X8_isBetter_75, xb_X8_isBetter_76, xs_nil, Nat.reduceAdd, true_implies, not_true_eq_false, not_false_eq_true, false_implies, and_true, true_and, x_10, xs_aload_n_0, xs_iadd, xs_istore_4_i, xs_istore_4_a, xs_istore_4_n, xs_istore_4_l, xs_if_eq, xs_iload_n_1, xs_iload_n_2, xs_iload_4, xs_icmp_eq, xs_icmp_ge, xs_iconst_1, xs_goto, xs_iconst_0, xs_ireturn, xs_icmp_lt, xs_icmp_ne, xs_iload_n_3]) | (refine ⟨fun _ => ?_, fun _ => ?_⟩) | refine xe_X8_isBetter_0 ?_ | refine xe_X8_isBetter_26 ?_ | refine xe_X8_isBetter_41 ?_ | refine xe_X8_isBetter_45 ?_ | refine xe_X8_isBetter_46 ?_ | refine xe_X8_isBetter_47 ?_ | refine xe_X8_isBetter_71 ?_ | refine xe_X8_isBetter_75 ?_ | refine xe_X8_isBetter_76 ?_ | (refine xr_getf (hb 0 _ rfl) (by rfl) ?_)))
  all_goals first | (simp_all; done) | (simp_all [Int32.lt_iff_toInt_lt, Int32.le_iff_toInt_le, ← Int32.toInt_inj]; omega)
theorem c_mtype_bad (hb : x_hb h m (x_mc m nw asd pa sts rf tx byt hd rd so ah ar tr bg fo bc br bk le fr nu od sp wr ha)) (h2 : 2 ≤ m) (hi : xin 0 rf.length) (hc : ¬ (0 ≤ x1 ∧ x1 ≤ 127)) : xK 134 [.ref m, .int x1] h (some (.int (-2))) (x_wr h m (x_mc m nw asd pa sts (xu rf 0 (xg rf 0 + 1)) tx byt hd rd so ah ar tr bg fo bc br bk le fr nu od sp wr ha)) := by
  have hl := hb.fit (Nat.zero_lt_succ _)
  have e := hb.wr hl
  refine xK_X8_type (hb 0 _ rfl) ?_
  (repeat' (first | (simp only [xb_X8_type_0, xb_X8_type_15, xb_X8_type_29, xs_nil, Nat.reduceAdd, true_implies, not_true_eq_false, not_false_eq_true, false_implies, and_true, true_and, x_10, xs_iload_n_1, xs_iconst_0, xs_bipush_127, xs_if_ne, xs_aload_n_0, xs_ireturn, xs_bipush_120, xs_icmp_ne, xs_dup_i, xs_dup_a, xs_iconst_1, xs_iadd]) | (refine ⟨fun _ => ?_, fun _ => ?_⟩) | refine xe_X8_type_0 ?_ | (refine xr_getf (hb 0 _ rfl) (by rfl) ?_) | refine xc_s3_1 (by decide) (c_in) (Nat.le_of_ble_eq_true rfl) ?_ | refine xc_v1_1 (c_bad hb h2 hi) (Nat.le_of_ble_eq_true rfl) ?_))
  all_goals (try simp only [x_ite0, Classical.not_not] at *)
  all_goals first | contradiction | (exact absurd (by assumption) (by assumption)) | exact ⟨by simp, e⟩ | exact e | exact ⟨by simp, by simp, e⟩ | (simp_all; done) | (exfalso; simp only [Int32.lt_iff_toInt_lt, Int32.le_iff_toInt_le, ← Int32.toInt_inj] at *; omega)
theorem c_mtype_full (hb : x_hb h m (x_mc m nw asd pa sts rf tx byt hd rd so ah ar tr bg fo bc br bk le fr nu od sp wr ha)) (h2 : 2 ≤ m) (hi2 : xin 2 rf.length) (hc : 0 ≤ x1 ∧ x1 ≤ 127) (hf : byt = 120) : xK 134 [.ref m, .int x1] h (some (.int (-4))) (x_wr h m (x_mc m nw asd pa sts (xu rf 2 (xg rf 2 + 1)) tx byt hd rd so ah ar tr bg fo bc br bk le fr nu od sp wr ha)) := by
  have hl := hb.fit (Nat.zero_lt_succ _)
  have e := hb.wr hl
  refine xK_X8_type (hb 0 _ rfl) ?_
  (repeat' (first | (simp only [xb_X8_type_0, xb_X8_type_15, xb_X8_type_29, xs_nil, Nat.reduceAdd, true_implies, not_true_eq_false, not_false_eq_true, false_implies, and_true, true_and, x_10, xs_iload_n_1, xs_iconst_0, xs_bipush_127, xs_if_ne, xs_aload_n_0, xs_ireturn, xs_bipush_120, xs_icmp_ne, xs_dup_i, xs_dup_a, xs_iconst_1, xs_iadd]) | (refine ⟨fun _ => ?_, fun _ => ?_⟩) | refine xe_X8_type_0 ?_ | refine xe_X8_type_15 ?_ | (refine xr_getf (hb 0 _ rfl) (by rfl) ?_) | refine xc_s3_1 (by decide) (c_in) (Nat.le_of_ble_eq_true rfl) ?_ | refine xc_v1_1 (c_full hb h2 hi2) (Nat.le_of_ble_eq_true rfl) ?_))
  all_goals (try simp only [x_ite0, Classical.not_not] at *)
  all_goals first | contradiction | (exact absurd (by assumption) (by assumption)) | exact ⟨by simp, e⟩ | exact e | exact ⟨by simp, by simp, e⟩ | (simp_all; done) | (exfalso; simp only [Int32.lt_iff_toInt_lt, Int32.le_iff_toInt_le, ← Int32.toInt_inj] at *; omega)
theorem c_mtype_ok (hb : x_hb h m (x_mc m nw asd pa sts rf tx byt hd rd so ah ar tr bg fo bc br bk le fr nu od sp wr ha)) (h2 : 2 ≤ m) (hi3 : xin byt tx.length) (hc : 0 ≤ x1 ∧ x1 ≤ 127) (hf : ¬ byt = 120) : xK 134 [.ref m, .int x1] h (some (.int (byt + 1))) (x_wr h m (x_mc m nw asd pa sts rf (xu tx byt x1) (byt + 1) hd rd so ah ar tr bg fo bc br bk le fr nu od sp wr ha)) := by
  have hl := hb.fit (Nat.zero_lt_succ _)
  have e := hb.wr hl
  refine xK_X8_type (hb 0 _ rfl) ?_
  (repeat' (first | (simp only [xb_X8_type_0, xb_X8_type_15, xb_X8_type_29, xs_nil, Nat.reduceAdd, true_implies, not_true_eq_false, not_false_eq_true, false_implies, and_true, true_and, x_10, xs_iload_n_1, xs_iconst_0, xs_bipush_127, xs_if_ne, xs_aload_n_0, xs_ireturn, xs_bipush_120, xs_icmp_ne, xs_dup_i, xs_dup_a, xs_iconst_1, xs_iadd]) | (refine ⟨fun _ => ?_, fun _ => ?_⟩) | refine xe_X8_type_0 ?_ | refine xe_X8_type_15 ?_ | refine xe_X8_type_29 ?_ | (refine xr_getf (hb 0 _ rfl) (by rfl) ?_) | refine xc_s3_1 (by decide) (c_in) (Nat.le_of_ble_eq_true rfl) ?_ | (refine xv_iastore hl e hb 5 (by rfl) h2 hi3 (fun h1 hb e hl => ?_)) | (refine xv_putf hl e hb 0 (by rfl) h2 (by exact Nat.le_of_ble_eq_true rfl) (by first | exact x_fit_int _ | exact x_fit_long _) (fun h1 hb e hl => ?_))))
  all_goals (try simp only [x_ite0, Classical.not_not] at *)
  all_goals first | contradiction | (exact absurd (by assumption) (by assumption)) | exact ⟨by simp, e⟩ | exact e | exact ⟨by simp, by simp, e⟩ | (simp_all; done) | (exfalso; simp only [Int32.lt_iff_toInt_lt, Int32.le_iff_toInt_le, ← Int32.toInt_inj] at *; omega)
theorem c_mclear (hb : x_hb h m (x_mc m nw asd pa sts rf tx byt hd rd so ah ar tr bg fo bc br bk le fr nu od sp wr ha)) (h2 : 2 ≤ m) : xK 136 [.ref m] h (some (.int byt)) (x_wr h m (x_mc m nw asd pa sts rf tx (0) hd rd so ah ar tr bg fo bc br bk le fr nu od sp wr ha)) := by
  have hl := hb.fit (Nat.zero_lt_succ _)
  have e := hb.wr hl
  refine xK_X8_clear (hb 0 _ rfl) ?_
  (repeat' (first | (simp only [xb_X8_clear_0, xs_nil, Nat.reduceAdd, true_implies, not_true_eq_false, not_false_eq_true, false_implies, and_true, true_and, x_10, xs_aload_n_0, xs_istore_n_1_i, xs_istore_n_1_a, xs_istore_n_1_n, xs_istore_n_1_l, xs_iconst_0, xs_iload_n_1, xs_ireturn]) | (refine ⟨fun _ => ?_, fun _ => ?_⟩) | refine xe_X8_clear_0 ?_ | (refine xr_getf (hb 0 _ rfl) (by rfl) ?_) | (refine xv_putf hl e hb 0 (by rfl) h2 (by exact Nat.le_of_ble_eq_true rfl) (by first | exact x_fit_int _ | exact x_fit_long _) (fun h1 hb e hl => ?_))))
  all_goals first | exact ⟨by simp, e⟩ | exact e | exact ⟨by simp, by simp, e⟩ | exact ⟨by simp, by simp_all, e⟩
theorem c_mix {y1 : Int64} (hb : x_hb h m (x_mc m nw asd pa sts rf tx byt hd rd so ah ar tr bg fo bc br bk le fr nu od sp wr ha)) (h2 : 2 ≤ m) : xK 175 [.ref m, .long y1] h none (x_wr h m (x_mc m nw asd pa sts rf tx byt hd rd so ah ar tr bg fo bc br bk le fr nu od sp wr (Int64.ofNat 31 * ha + y1))) := by
  have hl := hb.fit (Nat.zero_lt_succ _)
  have e := hb.wr hl
  refine xK_X8_mix (hb 0 _ rfl) ?_
  (repeat' (first | (simp only [xb_X8_mix_0, xs_nil, Nat.reduceAdd, true_implies, not_true_eq_false, not_false_eq_true, false_implies, and_true, true_and, x_10, xs_aload_n_0, xs_ldc2, xs_lmul, xs_lload_n_1, xs_ladd, xs_return]) | (refine ⟨fun _ => ?_, fun _ => ?_⟩) | refine xe_X8_mix_0 ?_ | (refine xr_getf (hb 0 _ rfl) (by rfl) ?_) | (refine xv_putf hl e hb 0 (by rfl) h2 (by exact Nat.le_of_ble_eq_true rfl) (by first | exact x_fit_int _ | exact x_fit_long _) (fun h1 hb e hl => ?_))))
  all_goals first | exact ⟨by simp, e⟩ | exact e | exact ⟨by simp, by simp, e⟩ | exact ⟨by simp, by simp_all, e⟩
theorem c_fails (hb : x_hb h m (x_mc m nw asd pa sts rf tx byt hd rd so ah ar tr bg fo bc br bk le fr nu od sp wr ha)) (h2 : 2 ≤ m) : xK 155 [.ref m, .int x1] h (some (.int 0)) (x_wr h m (x_mc m nw asd pa sts rf tx byt hd rd so ah ar tr bg fo bc br bk le fr nu od sp (x1) ha)) := by
  have hl := hb.fit (Nat.zero_lt_succ _)
  have e := hb.wr hl
  refine xK_X8_fails (hb 0 _ rfl) ?_
  (repeat' (first | (simp only [xb_X8_fails_0, xs_nil, Nat.reduceAdd, true_implies, not_true_eq_false, not_false_eq_true, false_implies, and_true, true_and, x_10, xs_aload_n_0, xs_iload_n_1, xs_iconst_0, xs_ireturn]) | (refine ⟨fun _ => ?_, fun _ => ?_⟩) | refine xe_X8_fails_0 ?_ | (refine xr_getf (hb 0 _ rfl) (by rfl) ?_) | (refine xv_putf hl e hb 0 (by rfl) h2 (by exact Nat.le_of_ble_eq_true rfl) (by first | exact x_fit_int _ | exact x_fit_long _) (fun h1 hb e hl => ?_))))
  all_goals first | exact ⟨by simp, e⟩ | exact e | exact ⟨by simp, by simp, e⟩ | exact ⟨by simp, by simp_all, e⟩
theorem c_isAt (hb : x_hb h m (x_mc m nw asd pa sts rf tx byt hd rd so ah ar tr bg fo bc br bk le fr nu od sp wr ha)) (hi : sp < byt → xin sp tx.length) : xK 152 [.ref m, .int x1, .int x2] h (some (.int (if sp < byt ∧ x1 ≤ xg tx sp ∧ xg tx sp ≤ x2 then 1 else 0))) h := by
  refine xK_X8_isAt (hb 0 _ rfl) ?_
  (repeat' (first | (simp only [xb_X8_isAt_0, xb_X8_isAt_32, xb_X8_isAt_33, xs_nil, Nat.reduceAdd, true_implies, not_true_eq_false, not_false_eq_true, false_implies, and_true, true_and, x_10, xs_aload_n_0, xs_icmp_ge, xs_iload_n_1, xs_iload_n_2, xs_if_eq, xs_iconst_1, xs_goto, xs_iconst_0, xs_ireturn]) | (refine ⟨fun _ => ?_, fun _ => ?_⟩) | refine xe_X8_isAt_0 ?_ | refine xe_X8_isAt_32 ?_ | refine xe_X8_isAt_33 ?_ | (refine xr_getf (hb 0 _ rfl) (by rfl) ?_) | (refine xr_iaload (hb 5 _ rfl) (hi (by simp_all [Int32.not_le])) ?_) | refine xc_s3_1 (by decide) (c_in) (Nat.le_of_ble_eq_true rfl) ?_))
  all_goals try simp only [x_ite0, Classical.not_not] at *
  all_goals first | (simp_all; done) | (simp_all [Int32.lt_iff_toInt_lt, Int32.le_iff_toInt_le]; done) | (simp_all [Int32.lt_iff_toInt_lt, Int32.le_iff_toInt_le]; omega)
theorem c_toldOf (hb : x_hb h m (x_mc m nw asd pa sts rf tx byt hd rd so ah ar tr bg fo bc br bk le fr nu od sp wr ha)) (hi : x1 < 3 → xin x1 rf.length) (hi2 : xin 78 nw.length) (hi3 : ¬ x1 < 3 → ¬ x1 = 3 → x1 < 7 → xin (115 + x1 - 4) nw.length) : xK 170 [.ref m, .int x1] h (some (.int (if 3 ≤ x1 then (if x1 = 3 then xg nw 78 else if 7 ≤ x1 then (if x1 = 7 then byt else sts) else xg nw (115 + x1 - 4)) else xg rf x1))) h := by
  refine xK_X8_toldOf (hb 0 _ rfl) ?_
  (repeat' (first | (simp only [xb_X8_toldOf_0, xb_X8_toldOf_14, xb_X8_toldOf_29, xb_X8_toldOf_49, xb_X8_toldOf_62, xb_X8_toldOf_66, xs_nil, Nat.reduceAdd, true_implies, not_true_eq_false, not_false_eq_true, false_implies, and_true, true_and, x_10, xs_iload_n_1, xs_iconst_3, xs_icmp_ge, xs_aload_n_0, xs_goto, xs_icmp_ne, xs_bipush_78, xs_bipush_7, xs_bipush_115, xs_iadd, xs_iconst_4, xs_isub, xs_ireturn]) | (refine ⟨fun _ => ?_, fun _ => ?_⟩) | refine xe_X8_toldOf_0 ?_ | refine xe_X8_toldOf_14 ?_ | refine xe_X8_toldOf_29 ?_ | refine xe_X8_toldOf_49 ?_ | refine xe_X8_toldOf_62 ?_ | refine xe_X8_toldOf_66 ?_ | (refine xr_getf (hb 0 _ rfl) (by rfl) ?_) | (refine xr_iaload (hb 4 _ rfl) (hi (by simp_all [Int32.not_le])) ?_) | (refine xr_iaload (hb 1 _ rfl) hi2 ?_) | (refine xr_iaload (hb 1 _ rfl) (hi3 (by simp_all [Int32.not_lt]) (by simp_all) (by simp_all [Int32.not_le])) ?_)))
  all_goals first | (simp_all; done) | (simp_all [Int32.lt_iff_toInt_lt, Int32.le_iff_toInt_le]; omega)
end MO
end
section
/-! numbers, loops -/
theorem x_in {k n : Nat} (h : k < n) (hn : n < 2 ^ 31) : xin (nI k) n := ⟨nI_pos (by omega), by rw [nI_clamp (by omega)]; exact h⟩
theorem xg_n {l : List Int32} {k : Nat} (hk : k < 2 ^ 31) : xg l (nI k) = l.getD k 0 := by unfold xg; rw [nI_clamp hk]
theorem xu_n {l : List Int32} {k : Nat} {v : Int32} (hk : k < 2 ^ 31) : xu l (nI k) v = l.set k v := by unfold xu; rw [nI_clamp hk]
def xsum (l : List Int32) : Nat → Int32
  | 0 => 0
  | k + 1 => xsum l k + l.getD (k + 1) 0
section SE2
variable {g : Nat} {en ro co re su : List Int32} {ct x1 x2 x3 x4 : Int32} {h : xH} {n : Nat}
theorem l_sumOfRepairs (hb : x_hb h g (x_sc g en ro co re su ct)) (hct : ct = nI n) (hn : n < re.length) (hre : re.length < 2 ^ 31) : ∀ d k : Nat, k + d = n → x_EV 111 4 [some (.ref g), some (.int (xsum re k)), some (.int (nI (k + 1)))] [] h (some (.int (xsum re n))) h := by
  intro d
  induction d with
  | zero =>
    intro k hk
    refine xe_X4_sumOfRepairs_4 ?_
    (repeat (first | (simp only [xb_X4_sumOfRepairs_0, xb_X4_sumOfRepairs_4, xb_X4_sumOfRepairs_27, xs_nil, Nat.reduceAdd, true_implies, not_true_eq_false, not_false_eq_true, false_implies, and_true, true_and, x_10, xs_iconst_0, xs_istore_n_1_i, xs_istore_n_1_a, xs_istore_n_1_n, xs_istore_n_1_l, xs_iconst_1, xs_istore_n_2_i, xs_istore_n_2_a, xs_istore_n_2_n, xs_istore_n_2_l, xs_iload_n_2, xs_aload_n_0, xs_icmp_gt, xs_iload_n_1, xs_iadd, xs_iinc_2_1_i, xs_iinc_2_1_a, xs_iinc_2_1_n, xs_goto, xs_ireturn]) | (refine xr_getf (hb 0 _ rfl) (by rfl) ?_)))
    refine ⟨fun q => ?_, fun q => absurd (by rw [hct]; exact nI_lt (by omega) (by omega)) q⟩
    refine xe_X4_sumOfRepairs_27 ?_
    (repeat (first | (simp only [xb_X4_sumOfRepairs_0, xb_X4_sumOfRepairs_4, xb_X4_sumOfRepairs_27, xs_nil, Nat.reduceAdd, true_implies, not_true_eq_false, not_false_eq_true, false_implies, and_true, true_and, x_10, xs_iconst_0, xs_istore_n_1_i, xs_istore_n_1_a, xs_istore_n_1_n, xs_istore_n_1_l, xs_iconst_1, xs_istore_n_2_i, xs_istore_n_2_a, xs_istore_n_2_n, xs_istore_n_2_l, xs_iload_n_2, xs_aload_n_0, xs_icmp_gt, xs_iload_n_1, xs_iadd, xs_iinc_2_1_i, xs_iinc_2_1_a, xs_iinc_2_1_n, xs_goto, xs_ireturn]) ))
    rw [show k = n by omega]
    simp
  | succ d ih =>
    intro k hk
    refine xe_X4_sumOfRepairs_4 ?_
    (repeat' (first | (simp only [xb_X4_sumOfRepairs_0, xb_X4_sumOfRepairs_4, xb_X4_sumOfRepairs_27, xs_nil, Nat.reduceAdd, true_implies, not_true_eq_false, not_false_eq_true, false_implies, and_true, true_and, x_10, xs_iconst_0, xs_istore_n_1_i, xs_istore_n_1_a, xs_istore_n_1_n, xs_istore_n_1_l, xs_iconst_1, xs_istore_n_2_i, xs_istore_n_2_a, xs_istore_n_2_n, xs_istore_n_2_l, xs_iload_n_2, xs_aload_n_0, xs_icmp_gt, xs_iload_n_1, xs_iadd, xs_iinc_2_1_i, xs_iinc_2_1_a, xs_iinc_2_1_n, xs_goto, xs_ireturn]) | (refine ⟨fun _ => ?_, fun _ => ?_⟩) | refine xe_X4_sumOfRepairs_0 ?_ | refine xe_X4_sumOfRepairs_27 ?_ | (refine xr_getf (hb 0 _ rfl) (by rfl) ?_) | (refine xr_iaload (hb 4 _ rfl) (x_in (by omega) hre) ?_)))
    · rename_i q
      exact absurd q (by rw [hct]; exact nI_nlt (by omega) (by omega))
    · have := ih (k + 1) (by omega)
      rw [nI_1, xg_n (by omega)]
      exact this
theorem c_sumOfRepairs (hb : x_hb h g (x_sc g en ro co re su ct)) (hct : ct = nI n) (hn : n < re.length) (hre : re.length < 2 ^ 31) : xK 111 [.ref g] h (some (.int (xsum re n))) h := by
  refine xK_X4_sumOfRepairs (hb 0 _ rfl) (xe_X4_sumOfRepairs_0 ?_)
  simp only [xb_X4_sumOfRepairs_0, xb_X4_sumOfRepairs_4, xb_X4_sumOfRepairs_27, xs_nil, Nat.reduceAdd, true_implies, not_true_eq_false, not_false_eq_true, false_implies, and_true, true_and, x_10, xs_iconst_0, xs_istore_n_1_i, xs_istore_n_1_a, xs_istore_n_1_n, xs_istore_n_1_l, xs_iconst_1, xs_istore_n_2_i, xs_istore_n_2_a, xs_istore_n_2_n, xs_istore_n_2_l, xs_iload_n_2, xs_aload_n_0, xs_icmp_gt, xs_iload_n_1, xs_iadd, xs_iinc_2_1_i, xs_iinc_2_1_a, xs_iinc_2_1_n, xs_goto, xs_ireturn]
  exact l_sumOfRepairs hb hct hn hre n 0 (by omega)
theorem l_sumOfStumbles (hb : x_hb h g (x_sc g en ro co re su ct)) (hct : ct = nI n) (hn : n < su.length) (hre : su.length < 2 ^ 31) : ∀ d k : Nat, k + d = n → x_EV 103 4 [some (.ref g), some (.int (xsum su k)), some (.int (nI (k + 1)))] [] h (some (.int (xsum su n))) h := by
  intro d
  induction d with
  | zero =>
    intro k hk
    refine xe_X4_sumOfStumbles_4 ?_
    (repeat (first | (simp only [xb_X4_sumOfStumbles_0, xb_X4_sumOfStumbles_4, xb_X4_sumOfStumbles_27, xs_nil, Nat.reduceAdd, true_implies, not_true_eq_false, not_false_eq_true, false_implies, and_true, true_and, x_10, xs_iconst_0, xs_istore_n_1_i, xs_istore_n_1_a, xs_istore_n_1_n, xs_istore_n_1_l, xs_iconst_1, xs_istore_n_2_i, xs_istore_n_2_a, xs_istore_n_2_n, xs_istore_n_2_l, xs_iload_n_2, xs_aload_n_0, xs_icmp_gt, xs_iload_n_1, xs_iadd, xs_iinc_2_1_i, xs_iinc_2_1_a, xs_iinc_2_1_n, xs_goto, xs_ireturn]) | (refine xr_getf (hb 0 _ rfl) (by rfl) ?_)))
    refine ⟨fun q => ?_, fun q => absurd (by rw [hct]; exact nI_lt (by omega) (by omega)) q⟩
    refine xe_X4_sumOfStumbles_27 ?_
    (repeat (first | (simp only [xb_X4_sumOfStumbles_0, xb_X4_sumOfStumbles_4, xb_X4_sumOfStumbles_27, xs_nil, Nat.reduceAdd, true_implies, not_true_eq_false, not_false_eq_true, false_implies, and_true, true_and, x_10, xs_iconst_0, xs_istore_n_1_i, xs_istore_n_1_a, xs_istore_n_1_n, xs_istore_n_1_l, xs_iconst_1, xs_istore_n_2_i, xs_istore_n_2_a, xs_istore_n_2_n, xs_istore_n_2_l, xs_iload_n_2, xs_aload_n_0, xs_icmp_gt, xs_iload_n_1, xs_iadd, xs_iinc_2_1_i, xs_iinc_2_1_a, xs_iinc_2_1_n, xs_goto, xs_ireturn]) ))
    rw [show k = n by omega]
    simp
  | succ d ih =>
    intro k hk
    refine xe_X4_sumOfStumbles_4 ?_
    (repeat' (first | (simp only [xb_X4_sumOfStumbles_0, xb_X4_sumOfStumbles_4, xb_X4_sumOfStumbles_27, xs_nil, Nat.reduceAdd, true_implies, not_true_eq_false, not_false_eq_true, false_implies, and_true, true_and, x_10, xs_iconst_0, xs_istore_n_1_i, xs_istore_n_1_a, xs_istore_n_1_n, xs_istore_n_1_l, xs_iconst_1, xs_istore_n_2_i, xs_istore_n_2_a, xs_istore_n_2_n, xs_istore_n_2_l, xs_iload_n_2, xs_aload_n_0, xs_icmp_gt, xs_iload_n_1, xs_iadd, xs_iinc_2_1_i, xs_iinc_2_1_a, xs_iinc_2_1_n, xs_goto, xs_ireturn]) | (refine ⟨fun _ => ?_, fun _ => ?_⟩) | refine xe_X4_sumOfStumbles_0 ?_ | refine xe_X4_sumOfStumbles_27 ?_ | (refine xr_getf (hb 0 _ rfl) (by rfl) ?_) | (refine xr_iaload (hb 5 _ rfl) (x_in (by omega) hre) ?_)))
    · rename_i q
      exact absurd q (by rw [hct]; exact nI_nlt (by omega) (by omega))
    · have := ih (k + 1) (by omega)
      rw [nI_1, xg_n (by omega)]
      exact this
theorem c_sumOfStumbles (hb : x_hb h g (x_sc g en ro co re su ct)) (hct : ct = nI n) (hn : n < su.length) (hre : su.length < 2 ^ 31) : xK 103 [.ref g] h (some (.int (xsum su n))) h := by
  refine xK_X4_sumOfStumbles (hb 0 _ rfl) (xe_X4_sumOfStumbles_0 ?_)
  simp only [xb_X4_sumOfStumbles_0, xb_X4_sumOfStumbles_4, xb_X4_sumOfStumbles_27, xs_nil, Nat.reduceAdd, true_implies, not_true_eq_false, not_false_eq_true, false_implies, and_true, true_and, x_10, xs_iconst_0, xs_istore_n_1_i, xs_istore_n_1_a, xs_istore_n_1_n, xs_istore_n_1_l, xs_iconst_1, xs_istore_n_2_i, xs_istore_n_2_a, xs_istore_n_2_n, xs_istore_n_2_l, xs_iload_n_2, xs_aload_n_0, xs_icmp_gt, xs_iload_n_1, xs_iadd, xs_iinc_2_1_i, xs_iinc_2_1_a, xs_iinc_2_1_n, xs_goto, xs_ireturn]
  exact l_sumOfStumbles hb hct hn hre n 0 (by omega)
end SE2
section CP
/-- one block written in a heap that another block stays in -/
theorem xr_copy {nm : Nat → String} {tf : Nat → Nat → FieldType} {fn : Nat → Nat} {Pg : List xM} {X : xR} {j : Nat} {rt : Option FieldType} {r : Option Value} {h' : xH} {is : List xI} {n b pc : Nat} {ls : xL} {st : List Value} {h h0 : xH} {i g g2 : Nat} {cs cs2 : List xE} {l l2 : List Int32} {mm : Int32} (hl : g + cs.length ≤ h0.length) (e : x_wr h0 g cs = h) (hb : x_hb h g cs) (hb2 : x_hb h g2 cs2) (hd : g2 + cs2.length ≤ g ∨ g + cs.length ≤ g2) (k : Nat) (hk : cs[k]? = some (xi l)) (k2 : Nat) (hk2 : cs2[k2]? = some (xi l2)) (h2 : 2 ≤ g) (hll : l2.length = l.length) (hmm : mm = nI l.length) (hsm : l.length < 2 ^ 31) (h8 : (st.map Value.category).sum ≤ 8)
    (kk : ∀ h1 : xH, x_hb h1 g (cs.set k (xi l2)) → x_wr h0 g (cs.set k (xi l2)) = h1 → g + (cs.set k (xi l2)).length ≤ h0.length → x_hb h1 g2 cs2 → (g2 + cs2.length ≤ g ∨ g + (cs.set k (xi l2)).length ≤ g2) → x_ev nm tf fn Pg X j rt r h' is (pc + n) ls st h1) :
    x_ev nm tf fn Pg X j rt r h' ((.invokestatic i, n, 1001, b) :: is) pc ls (.int mm :: .int 0 :: .ref (g + k) :: .int 0 :: .ref (g2 + k2) :: st) h := by
  have hk' := (List.getElem?_eq_some_iff.mp hk).1
  obtain ⟨q1, q2⟩ := x_set_hb (e1 := xi l2) hl e hk'
  rw [xs_copy (by omega) (hb2 k2 _ hk2) (hb k _ hk) (by rw [hmm]; exact nI_pos hsm) (by rw [hmm, nI_clamp hsm, hll]) hll.symm h8]
  refine kk _ q1 q2 (by rw [List.length_set]; exact hl) (fun z e1 hz => ?_) (by rw [List.length_set]; exact hd)
  have hzl := (List.getElem?_eq_some_iff.mp hz).1
  rw [List.getElem?_set_ne (by omega)]
  exact hb2 z e1 hz
theorem xr_alen {nm : Nat → String} {tf : Nat → Nat → FieldType} {fn : Nat → Nat} {Pg : List xM} {X : xR} {j : Nat} {rt : Option FieldType} {r : Option Value} {h' : xH} {is : List xI} {n a b pc : Nat} {ls : xL} {st : List Value} {h : xH} {o : Nat} {l : List Int32} (ho : h[o]? = some (xi l)) (k : x_ev nm tf fn Pg X j rt r h' is (pc + n) ls (.int (nI l.length) :: st) h) : x_ev nm tf fn Pg X j rt r h' ((.arraylength, n, a, b) :: is) pc ls (.ref o :: st) h := by
  rw [xs_alen ho]
  exact k
variable {g g2 : Nat} {P R S X T P2 R2 S2 X2 T2 en ro co re su en2 ro2 co2 re2 su2 : List Int32} {ec ec2 ct ct2 : Int32} {h : xH}
theorem c_gcopy (hb : x_hb h g (x_gc g P R S X T ec)) (hb2 : x_hb h g2 (x_gc g2 P2 R2 S2 X2 T2 ec2)) (h2 : 2 ≤ g) (hd : g2 + 6 ≤ g ∨ g + 6 ≤ g2) (l1 : P2.length = P.length) (l2 : R2.length = R.length) (l3 : S2.length = S.length) (l4 : X2.length = X.length) (l5 : T2.length = T.length) (s1 : P.length < 2 ^ 31) (s2 : R.length < 2 ^ 31) (s3 : S.length < 2 ^ 31) (s4 : X.length < 2 ^ 31) (s5 : T.length < 2 ^ 31) : xK 19 [.ref g, .ref g2] h none (x_wr h g (x_gc g P2 R2 S2 X2 T2 ec2)) := by
  have hl := hb.fit (Nat.zero_lt_succ _)
  have e := hb.wr hl
  refine xK_X1_copyFrom (hb 0 _ rfl) (xe_X1_copyFrom_0 ?_)
  (repeat (first | (simp only [xb_X1_copyFrom_0, xs_nil, Nat.reduceAdd, true_implies, not_true_eq_false, not_false_eq_true, false_implies, and_true, true_and, x_10, xs_aload_n_1, xs_iconst_0, xs_aload_n_0, xs_return]) | (refine xr_getf (hb 0 _ rfl) (by rfl) ?_) | (refine xr_getf (hb2 0 _ rfl) (by rfl) ?_) | (refine xr_alen (hb 1 _ rfl) ?_) | (refine xr_alen (hb 2 _ rfl) ?_) | (refine xr_alen (hb 3 _ rfl) ?_) | (refine xr_alen (hb 4 _ rfl) ?_) | (refine xr_alen (hb 5 _ rfl) ?_) | (refine xr_copy hl e hb hb2 hd 1 (by rfl) 1 (by rfl) h2 l1 rfl s1 (Nat.le_of_ble_eq_true rfl) (fun h1 hb e hl hb2 hd => ?_)) | (refine xr_copy hl e hb hb2 hd 2 (by rfl) 2 (by rfl) h2 l2 rfl s2 (Nat.le_of_ble_eq_true rfl) (fun h1 hb e hl hb2 hd => ?_)) | (refine xr_copy hl e hb hb2 hd 3 (by rfl) 3 (by rfl) h2 l3 rfl s3 (Nat.le_of_ble_eq_true rfl) (fun h1 hb e hl hb2 hd => ?_)) | (refine xr_copy hl e hb hb2 hd 4 (by rfl) 4 (by rfl) h2 l4 rfl s4 (Nat.le_of_ble_eq_true rfl) (fun h1 hb e hl hb2 hd => ?_)) | (refine xr_copy hl e hb hb2 hd 5 (by rfl) 5 (by rfl) h2 l5 rfl s5 (Nat.le_of_ble_eq_true rfl) (fun h1 hb e hl hb2 hd => ?_)) | (refine xv_putf hl e hb 0 (by rfl) h2 (by exact Nat.le_of_ble_eq_true rfl) (by first | exact x_fit_int _ | exact x_fit_long _) (fun h1 hb e hl => ?_))))
  all_goals first | exact ⟨by simp, e⟩ | exact e | exact ⟨by simp, by simp, e⟩ | exact ⟨by simp, by simp_all, e⟩
theorem c_scopy (hb : x_hb h g (x_sc g en ro co re su ct)) (hb2 : x_hb h g2 (x_sc g2 en2 ro2 co2 re2 su2 ct2)) (h2 : 2 ≤ g) (hd : g2 + 6 ≤ g ∨ g + 6 ≤ g2) (l1 : en2.length = en.length) (l2 : ro2.length = ro.length) (l3 : co2.length = co.length) (l4 : re2.length = re.length) (l5 : su2.length = su.length) (s1 : en.length < 2 ^ 31) (s2 : ro.length < 2 ^ 31) (s3 : co.length < 2 ^ 31) (s4 : re.length < 2 ^ 31) (s5 : su.length < 2 ^ 31) : xK 20 [.ref g, .ref g2] h none (x_wr h g (x_sc g en2 ro2 co2 re2 su2 ct2)) := by
  have hl := hb.fit (Nat.zero_lt_succ _)
  have e := hb.wr hl
  refine xK_X4_copyFrom (hb 0 _ rfl) (xe_X4_copyFrom_0 ?_)
  (repeat (first | (simp only [xb_X4_copyFrom_0, xs_nil, Nat.reduceAdd, true_implies, not_true_eq_false, not_false_eq_true, false_implies, and_true, true_and, x_10, xs_aload_n_1, xs_iconst_0, xs_aload_n_0, xs_return]) | (refine xr_getf (hb 0 _ rfl) (by rfl) ?_) | (refine xr_getf (hb2 0 _ rfl) (by rfl) ?_) | (refine xr_alen (hb 1 _ rfl) ?_) | (refine xr_alen (hb 2 _ rfl) ?_) | (refine xr_alen (hb 3 _ rfl) ?_) | (refine xr_alen (hb 4 _ rfl) ?_) | (refine xr_alen (hb 5 _ rfl) ?_) | (refine xr_copy hl e hb hb2 hd 1 (by rfl) 1 (by rfl) h2 l1 rfl s1 (Nat.le_of_ble_eq_true rfl) (fun h1 hb e hl hb2 hd => ?_)) | (refine xr_copy hl e hb hb2 hd 2 (by rfl) 2 (by rfl) h2 l2 rfl s2 (Nat.le_of_ble_eq_true rfl) (fun h1 hb e hl hb2 hd => ?_)) | (refine xr_copy hl e hb hb2 hd 3 (by rfl) 3 (by rfl) h2 l3 rfl s3 (Nat.le_of_ble_eq_true rfl) (fun h1 hb e hl hb2 hd => ?_)) | (refine xr_copy hl e hb hb2 hd 4 (by rfl) 4 (by rfl) h2 l4 rfl s4 (Nat.le_of_ble_eq_true rfl) (fun h1 hb e hl hb2 hd => ?_)) | (refine xr_copy hl e hb hb2 hd 5 (by rfl) 5 (by rfl) h2 l5 rfl s5 (Nat.le_of_ble_eq_true rfl) (fun h1 hb e hl hb2 hd => ?_)) | (refine xv_putf hl e hb 0 (by rfl) h2 (by exact Nat.le_of_ble_eq_true rfl) (by first | exact x_fit_int _ | exact x_fit_long _) (fun h1 hb e hl => ?_))))
  all_goals first | exact ⟨by simp, e⟩ | exact e | exact ⟨by simp, by simp, e⟩ | exact ⟨by simp, by simp_all, e⟩
end CP
/-! State: a Grammar and a Sentence -/
def x_tc (p : Nat) (P R S X T : List Int32) (ec : Int32) (en ro co re su : List Int32) (ct : Int32) : List xE := [.inr (5, [.ref (p + 1), .ref (p + 7)])] ++ x_gc (p + 1) P R S X T ec ++ x_sc (p + 7) en ro co re su ct
section ST
variable {p p2 : Nat} {P R S X T P2 R2 S2 X2 T2 en ro co re su en2 ro2 co2 re2 su2 : List Int32} {ec ec2 ct ct2 : Int32} {h : xH}
theorem x_tc_g (hb : x_hb h p (x_tc p P R S X T ec en ro co re su ct)) : x_hb h (p + 1) (x_gc (p + 1) P R S X T ec) := x_hb.part (a := [.inr (5, [.ref (p + 1), .ref (p + 7)])]) hb
theorem x_tc_s (hb : x_hb h p (x_tc p P R S X T ec en ro co re su ct)) : x_hb h (p + 7) (x_sc (p + 7) en ro co re su ct) := by
  have : x_hb h p (([.inr (5, [.ref (p + 1), .ref (p + 7)])] ++ x_gc (p + 1) P R S X T ec) ++ x_sc (p + 7) en ro co re su ct ++ []) := by
    rw [List.append_nil]
    exact hb
  exact x_hb.part this
theorem x_tc_gw (hb : x_hb h p (x_tc p P R S X T ec en ro co re su ct)) : x_wr h (p + 1) (x_gc (p + 1) P2 R2 S2 X2 T2 ec2) = x_wr h p (x_tc p P2 R2 S2 X2 T2 ec2 en ro co re su ct) :=
  x_wr_part (a := [.inr (5, [.ref (p + 1), .ref (p + 7)])]) (b := x_gc (p + 1) P R S X T ec) hb (hb.fit (Nat.zero_lt_succ _)) rfl
theorem x_tc_sw (hb : x_hb h p (x_tc p P R S X T ec en ro co re su ct)) : x_wr h (p + 7) (x_sc (p + 7) en2 ro2 co2 re2 su2 ct2) = x_wr h p (x_tc p P R S X T ec en2 ro2 co2 re2 su2 ct2) := by
  have hb' : x_hb h p (([.inr (5, [.ref (p + 1), .ref (p + 7)])] ++ x_gc (p + 1) P R S X T ec) ++ x_sc (p + 7) en ro co re su ct ++ []) := by
    rw [List.append_nil]
    exact hb
  have := x_wr_part (b2 := x_sc (p + 7) en2 ro2 co2 re2 su2 ct2) hb' (hb'.fit (Nat.zero_lt_succ _)) rfl
  rw [List.append_nil] at this
  exact this
theorem c_tcopy (hb : x_hb h p (x_tc p P R S X T ec en ro co re su ct)) (hb2 : x_hb h p2 (x_tc p2 P2 R2 S2 X2 T2 ec2 en2 ro2 co2 re2 su2 ct2)) (h2 : 2 ≤ p) (hd : p2 + 13 ≤ p ∨ p + 13 ≤ p2) (l1 : P2.length = P.length) (l2 : R2.length = R.length) (l3 : S2.length = S.length) (l4 : X2.length = X.length) (l5 : T2.length = T.length) (s1 : P.length < 2 ^ 31) (s2 : R.length < 2 ^ 31) (s3 : S.length < 2 ^ 31) (s4 : X.length < 2 ^ 31) (s5 : T.length < 2 ^ 31) (l6 : en2.length = en.length) (l7 : ro2.length = ro.length) (l8 : co2.length = co.length) (l9 : re2.length = re.length) (l10 : su2.length = su.length) (s6 : en.length < 2 ^ 31) (s7 : ro.length < 2 ^ 31) (s8 : co.length < 2 ^ 31) (s9 : re.length < 2 ^ 31) (s10 : su.length < 2 ^ 31) : xK 21 [.ref p, .ref p2] h none (x_wr h p (x_tc p P2 R2 S2 X2 T2 ec2 en2 ro2 co2 re2 su2 ct2)) := by
  have hl := hb.fit (Nat.zero_lt_succ _)
  have hl2 := hb2.fit (Nat.zero_lt_succ _)
  have w1 := x_tc_gw (P2 := P2) (R2 := R2) (S2 := S2) (X2 := X2) (T2 := T2) (ec2 := ec2) hb
  have hb3 : x_hb (x_wr h p (x_tc p P2 R2 S2 X2 T2 ec2 en ro co re su ct)) p (x_tc p P2 R2 S2 X2 T2 ec2 en ro co re su ct) := x_hb_wr hl
  have hb4 : x_hb (x_wr h p (x_tc p P2 R2 S2 X2 T2 ec2 en ro co re su ct)) p2 (x_tc p2 P2 R2 S2 X2 T2 ec2 en2 ro2 co2 re2 su2 ct2) := hb2.off hl hd
  have w2 := x_tc_sw (en2 := en2) (ro2 := ro2) (co2 := co2) (re2 := re2) (su2 := su2) (ct2 := ct2) hb3
  have w3 : x_wr (x_wr h p (x_tc p P2 R2 S2 X2 T2 ec2 en ro co re su ct)) p (x_tc p P2 R2 S2 X2 T2 ec2 en2 ro2 co2 re2 su2 ct2) = x_wr h p (x_tc p P2 R2 S2 X2 T2 ec2 en2 ro2 co2 re2 su2 ct2) := x_wr_wr (a := x_tc p P2 R2 S2 X2 T2 ec2 en ro co re su ct) hl rfl
  refine xK_X6_copyFrom (hb 0 _ rfl) (xe_X6_copyFrom_0 ?_)
  (repeat (first | (simp only [xb_X6_copyFrom_0, xs_nil, Nat.reduceAdd, true_implies, not_true_eq_false, not_false_eq_true, false_implies, and_true, true_and, x_10, xs_aload_n_0, xs_aload_n_1, xs_return]) | (refine xr_getf (hb 0 _ rfl) (by rfl) ?_) | (refine xr_getf (hb2 0 _ rfl) (by rfl) ?_)))
  refine xc_v2_0 (h1 := x_wr h p (x_tc p P2 R2 S2 X2 T2 ec2 en ro co re su ct)) (w1 ▸ c_gcopy (x_tc_g hb) (x_tc_g hb2) (by omega) (by omega) l1 l2 l3 l4 l5 s1 s2 s3 s4 s5) (Nat.le_of_ble_eq_true rfl) ?_
  generalize hq : x_wr h p (x_tc p P2 R2 S2 X2 T2 ec2 en ro co re su ct) = q at hb3 hb4 w2 w3 ⊢
  (repeat (first | (simp only [xb_X6_copyFrom_0, xs_nil, Nat.reduceAdd, true_implies, not_true_eq_false, not_false_eq_true, false_implies, and_true, true_and, x_10, xs_aload_n_0, xs_aload_n_1, xs_return]) | (refine xr_getf (hb3 0 _ rfl) (by rfl) ?_) | (refine xr_getf (hb4 0 _ rfl) (by rfl) ?_)))
  refine xc_v2_0 (h1 := x_wr h p (x_tc p P2 R2 S2 X2 T2 ec2 en2 ro2 co2 re2 su2 ct2)) (w3 ▸ w2 ▸ c_scopy (x_tc_s hb3) (x_tc_s hb4) (by omega) (by omega) l6 l7 l8 l9 l10 s6 s7 s8 s9 s10) (Nat.le_of_ble_eq_true rfl) ?_
  (repeat (first | (simp only [xb_X6_copyFrom_0, xs_nil, Nat.reduceAdd, true_implies, not_true_eq_false, not_false_eq_true, false_implies, and_true, true_and, x_10, xs_aload_n_0, xs_aload_n_1, xs_return]) ))
  all_goals simp
end ST
end
section
/-! the reference: loops over words -/
theorem nI_mul (a b : Nat) : nI a * nI b = nI (a * b) := (Int32.ofNat_mul a b).symm
/-- digits of a code, the last word's lowest, laid into a row -/
def xlay (hd : List Int32) (b : Nat) : Nat → Nat → List Int32
  | _, 0 => hd
  | c, w + 1 => xlay (hd.set (w + 1) (nI (c % b))) b (c / b) w
theorem xlay_len {b : Nat} : ∀ {w c : Nat} {hd : List Int32}, (xlay hd b c w).length = hd.length
  | 0, _, _ => rfl
  | w + 1, c, hd => by
    show (xlay (hd.set (w + 1) _) b (c / b) w).length = _
    rw [xlay_len, List.length_set]
/-- from word to word by heads: at most k steps, until 'to' or 0 -/
def xcome (hd : List Int32) (to : Int32) : Nat → Int32 → Int32
  | 0, a => a
  | k + 1, a => if a = to ∨ a = 0 then a else xcome hd to k (xg hd a)
/-- the number that readings and heads spell to the base of fourteen -/
def xcode (rd hd : List Int32) : Nat → Int32
  | 0 => 0
  | k + 1 => 14 * xcode rd hd k + 7 * rd.getD (k + 1) 0 + hd.getD (k + 1) 0
def xsumw (nw : List Int32) (x : Int32) : Nat → Int32
  | 0 => 0
  | k + 1 => xsumw nw x k + xg nw (119 + 5 * (nI (k + 1) - 1) + x)
section MO2
variable {m : Nat} {nw asd pa rf tx hd rd so ah ar tr bg le fr nu : List Int32} {sts byt fo bc br bk od sp wr : Int32} {ha : Int64} {x1 x2 x3 x4 : Int32} {h h0 : xH} {n : Nat}
theorem l_laysHeads (h2 : 2 ≤ m) (hn : n < 100) : ∀ (w c : Nat) (hd : List Int32) (h : xH) (_ : x_hb h m (x_mc m nw asd pa sts rf tx byt hd rd so ah ar tr bg fo bc br bk le fr nu od sp wr ha)) (_ : x_wr h0 m (x_mc m nw asd pa sts rf tx byt hd rd so ah ar tr bg fo bc br bk le fr nu od sp wr ha) = h) (_ : m + (x_mc m nw asd pa sts rf tx byt hd rd so ah ar tr bg fo bc br bk le fr nu od sp wr ha).length ≤ h0.length), w < hd.length → hd.length < 2 ^ 31 → c < 2 ^ 31 → x_EV 8 5 [some (.ref m), some (.int x1), some (.int (nI n)), some (.int (nI c)), some (.int (nI w))] [] h none (x_wr h0 m (x_mc m nw asd pa sts rf tx byt (xlay hd (n + 1) c w) rd so ah ar tr bg fo bc br bk le fr nu od sp wr ha)) := by
  intro w
  induction w with
  | zero =>
    intro c hd h hb e hl hw hs hc
    refine xe_X8_laysHeads_5 ?_
    (repeat (first | (simp only [xb_X8_laysHeads_0, xb_X8_laysHeads_5, xb_X8_laysHeads_35, xs_nil, Nat.reduceAdd, true_implies, not_true_eq_false, not_false_eq_true, false_implies, and_true, true_and, x_10, xs_iload_n_1, xs_istore_n_3_i, xs_istore_n_3_a, xs_istore_n_3_n, xs_istore_n_3_l, xs_iload_n_2, xs_istore_4_i, xs_istore_4_a, xs_istore_4_n, xs_istore_4_l, xs_iload_4, xs_iconst_1, xs_icmp_lt, xs_aload_n_0, xs_iload_n_3, xs_iadd, xs_irem, xs_idiv, xs_iinc_4_m1_i, xs_iinc_4_m1_a, xs_iinc_4_m1_n, xs_goto, xs_return]) ))
    refine ⟨fun q => ?_, fun q => absurd (by decide) q⟩
    refine xe_X8_laysHeads_35 ?_
    (repeat (first | (simp only [xb_X8_laysHeads_0, xb_X8_laysHeads_5, xb_X8_laysHeads_35, xs_nil, Nat.reduceAdd, true_implies, not_true_eq_false, not_false_eq_true, false_implies, and_true, true_and, x_10, xs_iload_n_1, xs_istore_n_3_i, xs_istore_n_3_a, xs_istore_n_3_n, xs_istore_n_3_l, xs_iload_n_2, xs_istore_4_i, xs_istore_4_a, xs_istore_4_n, xs_istore_4_l, xs_iload_4, xs_iconst_1, xs_icmp_lt, xs_aload_n_0, xs_iload_n_3, xs_iadd, xs_irem, xs_idiv, xs_iinc_4_m1_i, xs_iinc_4_m1_a, xs_iinc_4_m1_n, xs_goto, xs_return]) ))
    exact e
  | succ w ih =>
    intro c hd h hb e hl hw hs hc
    have e1 : nI n + 1 = nI (n + 1) := nI_1 n
    have e2 : ¬ nI (n + 1) = 0 := nI_ne0 (by omega) (by omega)
    have e3 := pk_rem (a := c) (d := n + 1) hc (by omega) (by omega)
    have e4 := pk_div (a := c) (d := n + 1) hc (by omega) (by omega)
    have e5 : nI (w + 1) + -1 = nI w := by rw [← Int32.sub_eq_add_neg]; exact nI_pred w
    refine xe_X8_laysHeads_5 ?_
    (repeat (first | (simp only [xb_X8_laysHeads_0, xb_X8_laysHeads_5, xb_X8_laysHeads_35, xs_nil, Nat.reduceAdd, true_implies, not_true_eq_false, not_false_eq_true, false_implies, and_true, true_and, x_10, xs_iload_n_1, xs_istore_n_3_i, xs_istore_n_3_a, xs_istore_n_3_n, xs_istore_n_3_l, xs_iload_n_2, xs_istore_4_i, xs_istore_4_a, xs_istore_4_n, xs_istore_4_l, xs_iload_4, xs_iconst_1, xs_icmp_lt, xs_aload_n_0, xs_iload_n_3, xs_iadd, xs_irem, xs_idiv, xs_iinc_4_m1_i, xs_iinc_4_m1_a, xs_iinc_4_m1_n, xs_goto, xs_return]) ))
    refine ⟨fun q => absurd q (nI_nlt (a := w + 1) (b := 1) (by omega) (by omega)), fun q => ?_⟩
    (repeat (first | (simp only [xb_X8_laysHeads_0, xb_X8_laysHeads_5, xb_X8_laysHeads_35, xs_nil, Nat.reduceAdd, true_implies, not_true_eq_false, not_false_eq_true, false_implies, and_true, true_and, x_10, xs_iload_n_1, xs_istore_n_3_i, xs_istore_n_3_a, xs_istore_n_3_n, xs_istore_n_3_l, xs_iload_n_2, xs_istore_4_i, xs_istore_4_a, xs_istore_4_n, xs_istore_4_l, xs_iload_4, xs_iconst_1, xs_icmp_lt, xs_aload_n_0, xs_iload_n_3, xs_iadd, xs_irem, xs_idiv, xs_iinc_4_m1_i, xs_iinc_4_m1_a, xs_iinc_4_m1_n, xs_goto, xs_return]) | (refine xr_getf (hb 0 _ rfl) (by rfl) ?_)))
    rw [e1]
    refine ⟨e2, ?_⟩
    rw [e3]
    refine xv_iastore hl e hb 6 (by rfl) h2 (x_in (by omega) hs) (fun h1 hb e hl => ?_)
    (repeat (first | (simp only [xb_X8_laysHeads_0, xb_X8_laysHeads_5, xb_X8_laysHeads_35, xs_nil, Nat.reduceAdd, true_implies, not_true_eq_false, not_false_eq_true, false_implies, and_true, true_and, x_10, xs_iload_n_1, xs_istore_n_3_i, xs_istore_n_3_a, xs_istore_n_3_n, xs_istore_n_3_l, xs_iload_n_2, xs_istore_4_i, xs_istore_4_a, xs_istore_4_n, xs_istore_4_l, xs_iload_4, xs_iconst_1, xs_icmp_lt, xs_aload_n_0, xs_iload_n_3, xs_iadd, xs_irem, xs_idiv, xs_iinc_4_m1_i, xs_iinc_4_m1_a, xs_iinc_4_m1_n, xs_goto, xs_return]) ))
    rw [e1]
    refine ⟨e2, ?_⟩
    rw [e4]
    (repeat (first | (simp only [xb_X8_laysHeads_0, xb_X8_laysHeads_5, xb_X8_laysHeads_35, xs_nil, Nat.reduceAdd, true_implies, not_true_eq_false, not_false_eq_true, false_implies, and_true, true_and, x_10, xs_iload_n_1, xs_istore_n_3_i, xs_istore_n_3_a, xs_istore_n_3_n, xs_istore_n_3_l, xs_iload_n_2, xs_istore_4_i, xs_istore_4_a, xs_istore_4_n, xs_istore_4_l, xs_iload_4, xs_iconst_1, xs_icmp_lt, xs_aload_n_0, xs_iload_n_3, xs_iadd, xs_irem, xs_idiv, xs_iinc_4_m1_i, xs_iinc_4_m1_a, xs_iinc_4_m1_n, xs_goto, xs_return]) ))
    rw [e5]
    rw [xu_n (by omega)] at hb e hl
    exact ih (c / (n + 1)) (hd.set (w + 1) (nI (c % (n + 1)))) h1 hb e hl (by rw [List.length_set]; omega) (by rw [List.length_set]; exact hs) (Nat.lt_of_le_of_lt (Nat.div_le_self _ _) hc)
theorem c_laysHeads {c : Nat} (hb : x_hb h m (x_mc m nw asd pa sts rf tx byt hd rd so ah ar tr bg fo bc br bk le fr nu od sp wr ha)) (h2 : 2 ≤ m) (hn : n < 100) (hnl : n < hd.length) (hs : hd.length < 2 ^ 31) (hc : c < 2 ^ 31) : xK 8 [.ref m, .int (nI c), .int (nI n)] h none (x_wr h m (x_mc m nw asd pa sts rf tx byt (xlay hd (n + 1) c n) rd so ah ar tr bg fo bc br bk le fr nu od sp wr ha)) := by
  have hl := hb.fit (Nat.zero_lt_succ _)
  have e := hb.wr hl
  refine xK_X8_laysHeads (hb 0 _ rfl) (xe_X8_laysHeads_0 ?_)
  (repeat (first | (simp only [xb_X8_laysHeads_0, xb_X8_laysHeads_5, xb_X8_laysHeads_35, xs_nil, Nat.reduceAdd, true_implies, not_true_eq_false, not_false_eq_true, false_implies, and_true, true_and, x_10, xs_iload_n_1, xs_istore_n_3_i, xs_istore_n_3_a, xs_istore_n_3_n, xs_istore_n_3_l, xs_iload_n_2, xs_istore_4_i, xs_istore_4_a, xs_istore_4_n, xs_istore_4_l, xs_iload_4, xs_iconst_1, xs_icmp_lt, xs_aload_n_0, xs_iload_n_3, xs_iadd, xs_irem, xs_idiv, xs_iinc_4_m1_i, xs_iinc_4_m1_a, xs_iinc_4_m1_n, xs_goto, xs_return]) ))
  exact l_laysHeads h2 hn n c hd h hb e hl hnl hs hc
theorem l_comesTo (hb : x_hb h m (x_mc m nw asd pa sts rf tx byt hd rd so ah ar tr bg fo bc br bk le fr nu od sp wr ha)) (hin : ∀ a : Int32, xin a hd.length → xin (xg hd a) hd.length) : ∀ (d k : Nat) (a : Int32), k + d = 7 → xin a hd.length → x_EV 9 5 [some (.ref m), some (.int x1), some (.int x2), some (.int a), some (.int (nI k))] [] h (some (.int (if xcome hd x2 d a = x2 then 1 else 0))) h := by
  intro d
  induction d with
  | zero =>
    intro k a hk ha
    refine xe_X8_comesTo_5 ?_
    (repeat (first | (simp only [xb_X8_comesTo_0, xb_X8_comesTo_5, xb_X8_comesTo_34, xb_X8_comesTo_43, xb_X8_comesTo_44, xs_nil, Nat.reduceAdd, true_implies, not_true_eq_false, not_false_eq_true, false_implies, and_true, true_and, x_10, xs_iload_n_1, xs_istore_n_3_i, xs_istore_n_3_a, xs_istore_n_3_n, xs_istore_n_3_l, xs_iconst_0, xs_istore_4_i, xs_istore_4_a, xs_istore_4_n, xs_istore_4_l, xs_iload_4, xs_bipush_7, xs_icmp_ge, xs_iload_n_3, xs_iload_n_2, xs_icmp_eq, xs_if_eq, xs_aload_n_0, xs_iinc_4_1_i, xs_iinc_4_1_a, xs_iinc_4_1_n, xs_goto, xs_icmp_ne, xs_iconst_1, xs_ireturn]) ))
    refine ⟨fun q => ?_, fun q => absurd (nI_le (a := 7) (b := k) (by omega) (by omega)) q⟩
    (repeat' (first | (simp only [xb_X8_comesTo_0, xb_X8_comesTo_5, xb_X8_comesTo_34, xb_X8_comesTo_43, xb_X8_comesTo_44, xs_nil, Nat.reduceAdd, true_implies, not_true_eq_false, not_false_eq_true, false_implies, and_true, true_and, x_10, xs_iload_n_1, xs_istore_n_3_i, xs_istore_n_3_a, xs_istore_n_3_n, xs_istore_n_3_l, xs_iconst_0, xs_istore_4_i, xs_istore_4_a, xs_istore_4_n, xs_istore_4_l, xs_iload_4, xs_bipush_7, xs_icmp_ge, xs_iload_n_3, xs_iload_n_2, xs_icmp_eq, xs_if_eq, xs_aload_n_0, xs_iinc_4_1_i, xs_iinc_4_1_a, xs_iinc_4_1_n, xs_goto, xs_icmp_ne, xs_iconst_1, xs_ireturn]) | (refine ⟨fun _ => ?_, fun _ => ?_⟩) | refine xe_X8_comesTo_0 ?_ | refine xe_X8_comesTo_34 ?_ | refine xe_X8_comesTo_43 ?_ | refine xe_X8_comesTo_44 ?_ ))
    all_goals simp_all [xcome]
  | succ d ih =>
    intro k a hk ha
    have e7 : ¬ (7 : Int32) ≤ nI k := nI_ge (a := k) (b := 7) (by omega) (by omega)
    refine xe_X8_comesTo_5 ?_
    (repeat (first | (simp only [xb_X8_comesTo_0, xb_X8_comesTo_5, xb_X8_comesTo_34, xb_X8_comesTo_43, xb_X8_comesTo_44, xs_nil, Nat.reduceAdd, true_implies, not_true_eq_false, not_false_eq_true, false_implies, and_true, true_and, x_10, xs_iload_n_1, xs_istore_n_3_i, xs_istore_n_3_a, xs_istore_n_3_n, xs_istore_n_3_l, xs_iconst_0, xs_istore_4_i, xs_istore_4_a, xs_istore_4_n, xs_istore_4_l, xs_iload_4, xs_bipush_7, xs_icmp_ge, xs_iload_n_3, xs_iload_n_2, xs_icmp_eq, xs_if_eq, xs_aload_n_0, xs_iinc_4_1_i, xs_iinc_4_1_a, xs_iinc_4_1_n, xs_goto, xs_icmp_ne, xs_iconst_1, xs_ireturn]) ))
    refine ⟨fun q => absurd q e7, fun q => ⟨fun q2 => ?_, fun q2 => ⟨fun q3 => ?_, fun q3 => ?_⟩⟩⟩
    · (repeat' (first | (simp only [xb_X8_comesTo_0, xb_X8_comesTo_5, xb_X8_comesTo_34, xb_X8_comesTo_43, xb_X8_comesTo_44, xs_nil, Nat.reduceAdd, true_implies, not_true_eq_false, not_false_eq_true, false_implies, and_true, true_and, x_10, xs_iload_n_1, xs_istore_n_3_i, xs_istore_n_3_a, xs_istore_n_3_n, xs_istore_n_3_l, xs_iconst_0, xs_istore_4_i, xs_istore_4_a, xs_istore_4_n, xs_istore_4_l, xs_iload_4, xs_bipush_7, xs_icmp_ge, xs_iload_n_3, xs_iload_n_2, xs_icmp_eq, xs_if_eq, xs_aload_n_0, xs_iinc_4_1_i, xs_iinc_4_1_a, xs_iinc_4_1_n, xs_goto, xs_icmp_ne, xs_iconst_1, xs_ireturn]) | (refine ⟨fun _ => ?_, fun _ => ?_⟩) | refine xe_X8_comesTo_0 ?_ | refine xe_X8_comesTo_34 ?_ | refine xe_X8_comesTo_43 ?_ | refine xe_X8_comesTo_44 ?_ ))
      all_goals simp_all [xcome]
    · (repeat' (first | (simp only [xb_X8_comesTo_0, xb_X8_comesTo_5, xb_X8_comesTo_34, xb_X8_comesTo_43, xb_X8_comesTo_44, xs_nil, Nat.reduceAdd, true_implies, not_true_eq_false, not_false_eq_true, false_implies, and_true, true_and, x_10, xs_iload_n_1, xs_istore_n_3_i, xs_istore_n_3_a, xs_istore_n_3_n, xs_istore_n_3_l, xs_iconst_0, xs_istore_4_i, xs_istore_4_a, xs_istore_4_n, xs_istore_4_l, xs_iload_4, xs_bipush_7, xs_icmp_ge, xs_iload_n_3, xs_iload_n_2, xs_icmp_eq, xs_if_eq, xs_aload_n_0, xs_iinc_4_1_i, xs_iinc_4_1_a, xs_iinc_4_1_n, xs_goto, xs_icmp_ne, xs_iconst_1, xs_ireturn]) | (refine ⟨fun _ => ?_, fun _ => ?_⟩) | refine xe_X8_comesTo_0 ?_ | refine xe_X8_comesTo_34 ?_ | refine xe_X8_comesTo_43 ?_ | refine xe_X8_comesTo_44 ?_ ))
      all_goals simp_all [xcome]
    · (repeat (first | (simp only [xb_X8_comesTo_0, xb_X8_comesTo_5, xb_X8_comesTo_34, xb_X8_comesTo_43, xb_X8_comesTo_44, xs_nil, Nat.reduceAdd, true_implies, not_true_eq_false, not_false_eq_true, false_implies, and_true, true_and, x_10, xs_iload_n_1, xs_istore_n_3_i, xs_istore_n_3_a, xs_istore_n_3_n, xs_istore_n_3_l, xs_iconst_0, xs_istore_4_i, xs_istore_4_a, xs_istore_4_n, xs_istore_4_l, xs_iload_4, xs_bipush_7, xs_icmp_ge, xs_iload_n_3, xs_iload_n_2, xs_icmp_eq, xs_if_eq, xs_aload_n_0, xs_iinc_4_1_i, xs_iinc_4_1_a, xs_iinc_4_1_n, xs_goto, xs_icmp_ne, xs_iconst_1, xs_ireturn]) | (refine xr_getf (hb 0 _ rfl) (by rfl) ?_) | (refine xr_iaload (hb 6 _ rfl) ha ?_)))
      have := ih (k + 1) (xg hd a) (by omega) (hin a ha)
      rw [nI_1]
      have e8 : xcome hd x2 (d + 1) a = xcome hd x2 d (xg hd a) := by simp [xcome, q2, q3]
      rw [e8]
      exact this
theorem c_comesTo (hb : x_hb h m (x_mc m nw asd pa sts rf tx byt hd rd so ah ar tr bg fo bc br bk le fr nu od sp wr ha)) (hin : ∀ a : Int32, xin a hd.length → xin (xg hd a) hd.length) (ha : xin x1 hd.length) : xK 9 [.ref m, .int x1, .int x2] h (some (.int (if xcome hd x2 7 x1 = x2 then 1 else 0))) h := by
  refine xK_X8_comesTo (hb 0 _ rfl) (xe_X8_comesTo_0 ?_)
  (repeat (first | (simp only [xb_X8_comesTo_0, xb_X8_comesTo_5, xb_X8_comesTo_34, xb_X8_comesTo_43, xb_X8_comesTo_44, xs_nil, Nat.reduceAdd, true_implies, not_true_eq_false, not_false_eq_true, false_implies, and_true, true_and, x_10, xs_iload_n_1, xs_istore_n_3_i, xs_istore_n_3_a, xs_istore_n_3_n, xs_istore_n_3_l, xs_iconst_0, xs_istore_4_i, xs_istore_4_a, xs_istore_4_n, xs_istore_4_l, xs_iload_4, xs_bipush_7, xs_icmp_ge, xs_iload_n_3, xs_iload_n_2, xs_icmp_eq, xs_if_eq, xs_aload_n_0, xs_iinc_4_1_i, xs_iinc_4_1_a, xs_iinc_4_1_n, xs_goto, xs_icmp_ne, xs_iconst_1, xs_ireturn]) ))
  exact l_comesTo hb hin 7 0 x1 rfl ha
theorem l_codeOf (hb : x_hb h m (x_mc m nw asd pa sts rf tx byt hd rd so ah ar tr bg fo bc br bk le fr nu od sp wr ha)) (h1 : n < rd.length) (h2 : n < hd.length) (s1 : rd.length < 2 ^ 31) (s2 : hd.length < 2 ^ 31) : ∀ d k : Nat, k + d = n → x_EV 91 4 [some (.ref m), some (.int (nI n)), some (.int (xcode rd hd k)), some (.int (nI (k + 1)))] [] h (some (.int (xcode rd hd n))) h := by
  intro d
  induction d with
  | zero =>
    intro k hk
    refine xe_X8_codeOf_4 ?_
    (repeat (first | (simp only [xb_X8_codeOf_0, xb_X8_codeOf_4, xb_X8_codeOf_37, xs_nil, Nat.reduceAdd, true_implies, not_true_eq_false, not_false_eq_true, false_implies, and_true, true_and, x_10, xs_iconst_0, xs_istore_n_2_i, xs_istore_n_2_a, xs_istore_n_2_n, xs_istore_n_2_l, xs_iconst_1, xs_istore_n_3_i, xs_istore_n_3_a, xs_istore_n_3_n, xs_istore_n_3_l, xs_iload_n_3, xs_iload_n_1, xs_icmp_gt, xs_bipush_14, xs_iload_n_2, xs_imul, xs_bipush_7, xs_aload_n_0, xs_iadd, xs_iinc_3_1_i, xs_iinc_3_1_a, xs_iinc_3_1_n, xs_goto, xs_ireturn]) ))
    refine ⟨fun q => ?_, fun q => absurd (nI_lt (by omega) (by omega)) q⟩
    refine xe_X8_codeOf_37 ?_
    (repeat (first | (simp only [xb_X8_codeOf_0, xb_X8_codeOf_4, xb_X8_codeOf_37, xs_nil, Nat.reduceAdd, true_implies, not_true_eq_false, not_false_eq_true, false_implies, and_true, true_and, x_10, xs_iconst_0, xs_istore_n_2_i, xs_istore_n_2_a, xs_istore_n_2_n, xs_istore_n_2_l, xs_iconst_1, xs_istore_n_3_i, xs_istore_n_3_a, xs_istore_n_3_n, xs_istore_n_3_l, xs_iload_n_3, xs_iload_n_1, xs_icmp_gt, xs_bipush_14, xs_iload_n_2, xs_imul, xs_bipush_7, xs_aload_n_0, xs_iadd, xs_iinc_3_1_i, xs_iinc_3_1_a, xs_iinc_3_1_n, xs_goto, xs_ireturn]) ))
    rw [show k = n by omega]
    simp
  | succ d ih =>
    intro k hk
    refine xe_X8_codeOf_4 ?_
    (repeat (first | (simp only [xb_X8_codeOf_0, xb_X8_codeOf_4, xb_X8_codeOf_37, xs_nil, Nat.reduceAdd, true_implies, not_true_eq_false, not_false_eq_true, false_implies, and_true, true_and, x_10, xs_iconst_0, xs_istore_n_2_i, xs_istore_n_2_a, xs_istore_n_2_n, xs_istore_n_2_l, xs_iconst_1, xs_istore_n_3_i, xs_istore_n_3_a, xs_istore_n_3_n, xs_istore_n_3_l, xs_iload_n_3, xs_iload_n_1, xs_icmp_gt, xs_bipush_14, xs_iload_n_2, xs_imul, xs_bipush_7, xs_aload_n_0, xs_iadd, xs_iinc_3_1_i, xs_iinc_3_1_a, xs_iinc_3_1_n, xs_goto, xs_ireturn]) ))
    refine ⟨fun q => absurd q (nI_nlt (by omega) (by omega)), fun q => ?_⟩
    (repeat (first | (simp only [xb_X8_codeOf_0, xb_X8_codeOf_4, xb_X8_codeOf_37, xs_nil, Nat.reduceAdd, true_implies, not_true_eq_false, not_false_eq_true, false_implies, and_true, true_and, x_10, xs_iconst_0, xs_istore_n_2_i, xs_istore_n_2_a, xs_istore_n_2_n, xs_istore_n_2_l, xs_iconst_1, xs_istore_n_3_i, xs_istore_n_3_a, xs_istore_n_3_n, xs_istore_n_3_l, xs_iload_n_3, xs_iload_n_1, xs_icmp_gt, xs_bipush_14, xs_iload_n_2, xs_imul, xs_bipush_7, xs_aload_n_0, xs_iadd, xs_iinc_3_1_i, xs_iinc_3_1_a, xs_iinc_3_1_n, xs_goto, xs_ireturn]) | (refine xr_getf (hb 0 _ rfl) (by rfl) ?_) | (refine xr_iaload (hb 7 _ rfl) (x_in (by omega) s1) ?_) | (refine xr_iaload (hb 6 _ rfl) (x_in (by omega) s2) ?_)))
    have := ih (k + 1) (by omega)
    rw [nI_1, xg_n (by omega), xg_n (by omega)]
    exact this
theorem c_codeOf (hb : x_hb h m (x_mc m nw asd pa sts rf tx byt hd rd so ah ar tr bg fo bc br bk le fr nu od sp wr ha)) (h1 : n < rd.length) (h2 : n < hd.length) (s1 : rd.length < 2 ^ 31) (s2 : hd.length < 2 ^ 31) : xK 91 [.ref m, .int (nI n)] h (some (.int (xcode rd hd n))) h := by
  refine xK_X8_codeOf (hb 0 _ rfl) (xe_X8_codeOf_0 ?_)
  (repeat (first | (simp only [xb_X8_codeOf_0, xb_X8_codeOf_4, xb_X8_codeOf_37, xs_nil, Nat.reduceAdd, true_implies, not_true_eq_false, not_false_eq_true, false_implies, and_true, true_and, x_10, xs_iconst_0, xs_istore_n_2_i, xs_istore_n_2_a, xs_istore_n_2_n, xs_istore_n_2_l, xs_iconst_1, xs_istore_n_3_i, xs_istore_n_3_a, xs_istore_n_3_n, xs_istore_n_3_l, xs_iload_n_3, xs_iload_n_1, xs_icmp_gt, xs_bipush_14, xs_iload_n_2, xs_imul, xs_bipush_7, xs_aload_n_0, xs_iadd, xs_iinc_3_1_i, xs_iinc_3_1_a, xs_iinc_3_1_n, xs_goto, xs_ireturn]) ))
  exact l_codeOf hb h1 h2 s1 s2 n 0 (by omega)
theorem l_sumOf (hb : x_hb h m (x_mc m nw asd pa sts rf tx byt hd rd so ah ar tr bg fo bc br bk le fr nu od sp wr ha)) (hi : xin 118 nw.length) (hn : xg nw 118 = nI n) (hn2 : n < 2 ^ 30) (hin : ∀ k : Nat, k < n → xin (119 + 5 * (nI (k + 1) - 1) + x1) nw.length) : ∀ d k : Nat, k + d = n → x_EV 106 4 [some (.ref m), some (.int x1), some (.int (xsumw nw x1 k)), some (.int (nI (k + 1)))] [] h (some (.int (xsumw nw x1 n))) h := by
  intro d
  induction d with
  | zero =>
    intro k hk
    refine xe_X8_sumOf_4 ?_
    (repeat (first | (simp only [xb_X8_sumOf_0, xb_X8_sumOf_4, xb_X8_sumOf_36, xs_nil, Nat.reduceAdd, true_implies, not_true_eq_false, not_false_eq_true, false_implies, and_true, true_and, x_10, xs_iconst_0, xs_istore_n_2_i, xs_istore_n_2_a, xs_istore_n_2_n, xs_istore_n_2_l, xs_iconst_1, xs_istore_n_3_i, xs_istore_n_3_a, xs_istore_n_3_n, xs_istore_n_3_l, xs_iload_n_3, xs_aload_n_0, xs_bipush_118, xs_icmp_gt, xs_iload_n_2, xs_iload_n_1, xs_iadd, xs_iinc_3_1_i, xs_iinc_3_1_a, xs_iinc_3_1_n, xs_goto, xs_ireturn]) | (refine xr_getf (hb 0 _ rfl) (by rfl) ?_) | (refine xr_iaload (hb 1 _ rfl) hi ?_)))
    rw [hn]
    refine ⟨fun q => ?_, fun q => absurd (nI_lt (by omega) (by omega)) q⟩
    refine xe_X8_sumOf_36 ?_
    (repeat (first | (simp only [xb_X8_sumOf_0, xb_X8_sumOf_4, xb_X8_sumOf_36, xs_nil, Nat.reduceAdd, true_implies, not_true_eq_false, not_false_eq_true, false_implies, and_true, true_and, x_10, xs_iconst_0, xs_istore_n_2_i, xs_istore_n_2_a, xs_istore_n_2_n, xs_istore_n_2_l, xs_iconst_1, xs_istore_n_3_i, xs_istore_n_3_a, xs_istore_n_3_n, xs_istore_n_3_l, xs_iload_n_3, xs_aload_n_0, xs_bipush_118, xs_icmp_gt, xs_iload_n_2, xs_iload_n_1, xs_iadd, xs_iinc_3_1_i, xs_iinc_3_1_a, xs_iinc_3_1_n, xs_goto, xs_ireturn]) ))
    rw [show k = n by omega]
    simp
  | succ d ih =>
    intro k hk
    refine xe_X8_sumOf_4 ?_
    (repeat (first | (simp only [xb_X8_sumOf_0, xb_X8_sumOf_4, xb_X8_sumOf_36, xs_nil, Nat.reduceAdd, true_implies, not_true_eq_false, not_false_eq_true, false_implies, and_true, true_and, x_10, xs_iconst_0, xs_istore_n_2_i, xs_istore_n_2_a, xs_istore_n_2_n, xs_istore_n_2_l, xs_iconst_1, xs_istore_n_3_i, xs_istore_n_3_a, xs_istore_n_3_n, xs_istore_n_3_l, xs_iload_n_3, xs_aload_n_0, xs_bipush_118, xs_icmp_gt, xs_iload_n_2, xs_iload_n_1, xs_iadd, xs_iinc_3_1_i, xs_iinc_3_1_a, xs_iinc_3_1_n, xs_goto, xs_ireturn]) | (refine xr_getf (hb 0 _ rfl) (by rfl) ?_) | (refine xr_iaload (hb 1 _ rfl) hi ?_)))
    rw [hn]
    refine ⟨fun q => absurd q (nI_nlt (by omega) (by omega)), fun q => ?_⟩
    (repeat (first | (simp only [xb_X8_sumOf_0, xb_X8_sumOf_4, xb_X8_sumOf_36, xs_nil, Nat.reduceAdd, true_implies, not_true_eq_false, not_false_eq_true, false_implies, and_true, true_and, x_10, xs_iconst_0, xs_istore_n_2_i, xs_istore_n_2_a, xs_istore_n_2_n, xs_istore_n_2_l, xs_iconst_1, xs_istore_n_3_i, xs_istore_n_3_a, xs_istore_n_3_n, xs_istore_n_3_l, xs_iload_n_3, xs_aload_n_0, xs_bipush_118, xs_icmp_gt, xs_iload_n_2, xs_iload_n_1, xs_iadd, xs_iinc_3_1_i, xs_iinc_3_1_a, xs_iinc_3_1_n, xs_goto, xs_ireturn]) | (refine xr_getf (hb 0 _ rfl) (by rfl) ?_) | (refine xr_iaload (hb 1 _ rfl) (hin k (by omega)) ?_) | refine xc_v2_1 (c_wordAt (hb 0 _ rfl)) (Nat.le_of_ble_eq_true rfl) ?_))
    have := ih (k + 1) (by omega)
    rw [nI_1]
    exact this
theorem c_sumOf (hb : x_hb h m (x_mc m nw asd pa sts rf tx byt hd rd so ah ar tr bg fo bc br bk le fr nu od sp wr ha)) (hi : xin 118 nw.length) (hn : xg nw 118 = nI n) (hn2 : n < 2 ^ 30) (hin : ∀ k : Nat, k < n → xin (119 + 5 * (nI (k + 1) - 1) + x1) nw.length) : xK 106 [.ref m, .int x1] h (some (.int (xsumw nw x1 n))) h := by
  refine xK_X8_sumOf (hb 0 _ rfl) (xe_X8_sumOf_0 ?_)
  (repeat (first | (simp only [xb_X8_sumOf_0, xb_X8_sumOf_4, xb_X8_sumOf_36, xs_nil, Nat.reduceAdd, true_implies, not_true_eq_false, not_false_eq_true, false_implies, and_true, true_and, x_10, xs_iconst_0, xs_istore_n_2_i, xs_istore_n_2_a, xs_istore_n_2_n, xs_istore_n_2_l, xs_iconst_1, xs_istore_n_3_i, xs_istore_n_3_a, xs_istore_n_3_n, xs_istore_n_3_l, xs_iload_n_3, xs_aload_n_0, xs_bipush_118, xs_icmp_gt, xs_iload_n_2, xs_iload_n_1, xs_iadd, xs_iinc_3_1_i, xs_iinc_3_1_a, xs_iinc_3_1_n, xs_goto, xs_ireturn]) ))
  exact l_sumOf hb hi hn hn2 hin n 0 (by omega)
end MO2
end
