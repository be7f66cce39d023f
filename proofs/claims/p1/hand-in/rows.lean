section
-- ===== PART A: goes FIRST, ahead of the names: the tables' words, and 'selects' of the private methods out of them =====
/-- a private method of a class that the tables say can be made, by its rows of tables_1 -/
def lw_okq (q : MethodName × Nat) : Prop := (q.1.cls ≠ "java/lang/invoke/MethodHandle" ∧ q.1.cls ≠ "java/lang/invoke/VarHandle") ∧ Cond.instantiable q.1.cls q.2 ∈ tables_1 ∧ Cond.privateMethod q.1 ∈ tables_1 ∧ Cond.instanceMethod q.1 ∈ tables_1
theorem lw_p0 : lw_okq (⟨"TypedDescent", "putWord", "(I)V"⟩, 16) := ⟨⟨by decide +kernel, by decide +kernel⟩, List.mem_of_getElem? (i := 24) (by decide +kernel), List.mem_of_getElem? (i := 509) (by decide +kernel), List.mem_of_getElem? (i := 510) (by decide +kernel)⟩
theorem lw_p1 : lw_okq (⟨"TypedDescent", "takeText", "(IZ)V"⟩, 16) := ⟨⟨by decide +kernel, by decide +kernel⟩, List.mem_of_getElem? (i := 24) (by decide +kernel), List.mem_of_getElem? (i := 517) (by decide +kernel), List.mem_of_getElem? (i := 518) (by decide +kernel)⟩
theorem lw_p2 : lw_okq (⟨"TypedDescent$Text", "behindBlanks", "(I)I"⟩, 18) := ⟨⟨by decide +kernel, by decide +kernel⟩, List.mem_of_getElem? (i := 32) (by decide +kernel), List.mem_of_getElem? (i := 531) (by decide +kernel), List.mem_of_getElem? (i := 532) (by decide +kernel)⟩
theorem lw_p3 : lw_okq (⟨"TypedDescent$Text", "charAt", "(I)I"⟩, 18) := ⟨⟨by decide +kernel, by decide +kernel⟩, List.mem_of_getElem? (i := 32) (by decide +kernel), List.mem_of_getElem? (i := 535) (by decide +kernel), List.mem_of_getElem? (i := 536) (by decide +kernel)⟩
theorem lw_p4 : lw_okq (⟨"TypedDescent$Text", "readToken", "(I)I"⟩, 18) := ⟨⟨by decide +kernel, by decide +kernel⟩, List.mem_of_getElem? (i := 32) (by decide +kernel), List.mem_of_getElem? (i := 539) (by decide +kernel), List.mem_of_getElem? (i := 540) (by decide +kernel)⟩
theorem lw_p5 : lw_okq (⟨"TypedDescent$Text", "readName", "(I)I"⟩, 18) := ⟨⟨by decide +kernel, by decide +kernel⟩, List.mem_of_getElem? (i := 32) (by decide +kernel), List.mem_of_getElem? (i := 546) (by decide +kernel), List.mem_of_getElem? (i := 547) (by decide +kernel)⟩
theorem lw_p6 : lw_okq (⟨"TypedDescent$Text", "readNone", "(I)I"⟩, 18) := ⟨⟨by decide +kernel, by decide +kernel⟩, List.mem_of_getElem? (i := 32) (by decide +kernel), List.mem_of_getElem? (i := 550) (by decide +kernel), List.mem_of_getElem? (i := 551) (by decide +kernel)⟩
theorem lw_p7 : lw_okq (⟨"TypedDescent$Text", "addToken", "(IIIJ)V"⟩, 18) := ⟨⟨by decide +kernel, by decide +kernel⟩, List.mem_of_getElem? (i := 32) (by decide +kernel), List.mem_of_getElem? (i := 554) (by decide +kernel), List.mem_of_getElem? (i := 555) (by decide +kernel)⟩
theorem lw_p8 : lw_okq (⟨"TypedDescent$Text", "addName", "(IJ)V"⟩, 18) := ⟨⟨by decide +kernel, by decide +kernel⟩, List.mem_of_getElem? (i := 32) (by decide +kernel), List.mem_of_getElem? (i := 558) (by decide +kernel), List.mem_of_getElem? (i := 559) (by decide +kernel)⟩
theorem lw_p9 : lw_okq (⟨"TypedDescent$Text", "readNumber", "(I)I"⟩, 18) := ⟨⟨by decide +kernel, by decide +kernel⟩, List.mem_of_getElem? (i := 32) (by decide +kernel), List.mem_of_getElem? (i := 568) (by decide +kernel), List.mem_of_getElem? (i := 569) (by decide +kernel)⟩
theorem lw_p10 : lw_okq (⟨"TypedDescent$Text", "readSign", "(I)I"⟩, 18) := ⟨⟨by decide +kernel, by decide +kernel⟩, List.mem_of_getElem? (i := 32) (by decide +kernel), List.mem_of_getElem? (i := 578) (by decide +kernel), List.mem_of_getElem? (i := 579) (by decide +kernel)⟩
theorem lw_p11 : lw_okq (⟨"TypedDescent$ProgramGrammar", "expression", "()V"⟩, 1) := ⟨⟨by decide +kernel, by decide +kernel⟩, List.mem_of_getElem? (i := 260) (by decide +kernel), List.mem_of_getElem? (i := 646) (by decide +kernel), List.mem_of_getElem? (i := 647) (by decide +kernel)⟩
theorem lw_p12 : lw_okq (⟨"TypedDescent$ProgramGrammar", "function", "()V"⟩, 1) := ⟨⟨by decide +kernel, by decide +kernel⟩, List.mem_of_getElem? (i := 260) (by decide +kernel), List.mem_of_getElem? (i := 654) (by decide +kernel), List.mem_of_getElem? (i := 655) (by decide +kernel)⟩
theorem lw_p13 : lw_okq (⟨"TypedDescent$ProgramGrammar", "readKind", "()V"⟩, 1) := ⟨⟨by decide +kernel, by decide +kernel⟩, List.mem_of_getElem? (i := 260) (by decide +kernel), List.mem_of_getElem? (i := 679) (by decide +kernel), List.mem_of_getElem? (i := 680) (by decide +kernel)⟩
theorem lw_p14 : lw_okq (⟨"TypedDescent$ProgramGrammar", "readUnit", "()V"⟩, 1) := ⟨⟨by decide +kernel, by decide +kernel⟩, List.mem_of_getElem? (i := 260) (by decide +kernel), List.mem_of_getElem? (i := 683) (by decide +kernel), List.mem_of_getElem? (i := 684) (by decide +kernel)⟩
theorem lw_p15 : lw_okq (⟨"TypedDescent$ProgramGrammar", "readParts", "(Z)V"⟩, 1) := ⟨⟨by decide +kernel, by decide +kernel⟩, List.mem_of_getElem? (i := 260) (by decide +kernel), List.mem_of_getElem? (i := 692) (by decide +kernel), List.mem_of_getElem? (i := 693) (by decide +kernel)⟩
def lw_privs_1 : List (MethodName × Nat) := [(⟨"TypedDescent", "putWord", "(I)V"⟩, 16), (⟨"TypedDescent", "takeText", "(IZ)V"⟩, 16), (⟨"TypedDescent$Text", "behindBlanks", "(I)I"⟩, 18), (⟨"TypedDescent$Text", "charAt", "(I)I"⟩, 18), (⟨"TypedDescent$Text", "readToken", "(I)I"⟩, 18), (⟨"TypedDescent$Text", "readName", "(I)I"⟩, 18), (⟨"TypedDescent$Text", "readNone", "(I)I"⟩, 18), (⟨"TypedDescent$Text", "addToken", "(IIIJ)V"⟩, 18), (⟨"TypedDescent$Text", "addName", "(IJ)V"⟩, 18), (⟨"TypedDescent$Text", "readNumber", "(I)I"⟩, 18), (⟨"TypedDescent$Text", "readSign", "(I)I"⟩, 18), (⟨"TypedDescent$ProgramGrammar", "expression", "()V"⟩, 1), (⟨"TypedDescent$ProgramGrammar", "function", "()V"⟩, 1), (⟨"TypedDescent$ProgramGrammar", "readKind", "()V"⟩, 1), (⟨"TypedDescent$ProgramGrammar", "readUnit", "()V"⟩, 1), (⟨"TypedDescent$ProgramGrammar", "readParts", "(Z)V"⟩, 1)]
theorem lw_r1 : ∀ q ∈ lw_privs_1, lw_okq q := List.forall_mem_cons.mpr ⟨lw_p0, List.forall_mem_cons.mpr ⟨lw_p1, List.forall_mem_cons.mpr ⟨lw_p2, List.forall_mem_cons.mpr ⟨lw_p3, List.forall_mem_cons.mpr ⟨lw_p4, List.forall_mem_cons.mpr ⟨lw_p5, List.forall_mem_cons.mpr ⟨lw_p6, List.forall_mem_cons.mpr ⟨lw_p7, List.forall_mem_cons.mpr ⟨lw_p8, List.forall_mem_cons.mpr ⟨lw_p9, List.forall_mem_cons.mpr ⟨lw_p10, List.forall_mem_cons.mpr ⟨lw_p11, List.forall_mem_cons.mpr ⟨lw_p12, List.forall_mem_cons.mpr ⟨lw_p13, List.forall_mem_cons.mpr ⟨lw_p14, List.forall_mem_cons.mpr ⟨lw_p15, fun _ h => absurd h List.not_mem_nil⟩⟩⟩⟩⟩⟩⟩⟩⟩⟩⟩⟩⟩⟩⟩⟩
theorem lw_p16 : lw_okq (⟨"TypedDescent$ProgramGrammar", "fixed", "()V"⟩, 1) := ⟨⟨by decide +kernel, by decide +kernel⟩, List.mem_of_getElem? (i := 260) (by decide +kernel), List.mem_of_getElem? (i := 716) (by decide +kernel), List.mem_of_getElem? (i := 717) (by decide +kernel)⟩
theorem lw_p17 : lw_okq (⟨"TypedDescent$ProgramGrammar", "let", "()V"⟩, 1) := ⟨⟨by decide +kernel, by decide +kernel⟩, List.mem_of_getElem? (i := 260) (by decide +kernel), List.mem_of_getElem? (i := 724) (by decide +kernel), List.mem_of_getElem? (i := 725) (by decide +kernel)⟩
theorem lw_p18 : lw_okq (⟨"TypedDescent$ProgramGrammar", "sum", "()V"⟩, 1) := ⟨⟨by decide +kernel, by decide +kernel⟩, List.mem_of_getElem? (i := 260) (by decide +kernel), List.mem_of_getElem? (i := 728) (by decide +kernel), List.mem_of_getElem? (i := 729) (by decide +kernel)⟩
theorem lw_p19 : lw_okq (⟨"TypedDescent$ProgramGrammar", "product", "()V"⟩, 1) := ⟨⟨by decide +kernel, by decide +kernel⟩, List.mem_of_getElem? (i := 260) (by decide +kernel), List.mem_of_getElem? (i := 732) (by decide +kernel), List.mem_of_getElem? (i := 733) (by decide +kernel)⟩
theorem lw_p20 : lw_okq (⟨"TypedDescent$ProgramGrammar", "call", "()V"⟩, 1) := ⟨⟨by decide +kernel, by decide +kernel⟩, List.mem_of_getElem? (i := 260) (by decide +kernel), List.mem_of_getElem? (i := 736) (by decide +kernel), List.mem_of_getElem? (i := 737) (by decide +kernel)⟩
theorem lw_p21 : lw_okq (⟨"TypedDescent$ProgramGrammar", "first", "()V"⟩, 1) := ⟨⟨by decide +kernel, by decide +kernel⟩, List.mem_of_getElem? (i := 260) (by decide +kernel), List.mem_of_getElem? (i := 740) (by decide +kernel), List.mem_of_getElem? (i := 741) (by decide +kernel)⟩
theorem lw_p22 : lw_okq (⟨"TypedDescent$ProgramGrammar", "partNumber", "()V"⟩, 1) := ⟨⟨by decide +kernel, by decide +kernel⟩, List.mem_of_getElem? (i := 260) (by decide +kernel), List.mem_of_getElem? (i := 744) (by decide +kernel), List.mem_of_getElem? (i := 745) (by decide +kernel)⟩
theorem lw_p23 : lw_okq (⟨"TypedDescent$ProgramGrammar", "choice", "()V"⟩, 1) := ⟨⟨by decide +kernel, by decide +kernel⟩, List.mem_of_getElem? (i := 260) (by decide +kernel), List.mem_of_getElem? (i := 756) (by decide +kernel), List.mem_of_getElem? (i := 757) (by decide +kernel)⟩
theorem lw_p24 : lw_okq (⟨"TypedDescent$Kinds", "hash", "(II)I"⟩, 11) := ⟨⟨by decide +kernel, by decide +kernel⟩, List.mem_of_getElem? (i := 154) (by decide +kernel), List.mem_of_getElem? (i := 791) (by decide +kernel), List.mem_of_getElem? (i := 792) (by decide +kernel)⟩
theorem lw_p25 : lw_okq (⟨"TypedDescent$Kinds", "find", "(III)I"⟩, 11) := ⟨⟨by decide +kernel, by decide +kernel⟩, List.mem_of_getElem? (i := 154) (by decide +kernel), List.mem_of_getElem? (i := 795) (by decide +kernel), List.mem_of_getElem? (i := 796) (by decide +kernel)⟩
theorem lw_p26 : lw_okq (⟨"TypedDescent$Kinds", "store", "(III)I"⟩, 11) := ⟨⟨by decide +kernel, by decide +kernel⟩, List.mem_of_getElem? (i := 154) (by decide +kernel), List.mem_of_getElem? (i := 800) (by decide +kernel), List.mem_of_getElem? (i := 801) (by decide +kernel)⟩
theorem lw_p27 : lw_okq (⟨"TypedDescent$Kinds", "measure", "(IIII)V"⟩, 11) := ⟨⟨by decide +kernel, by decide +kernel⟩, List.mem_of_getElem? (i := 154) (by decide +kernel), List.mem_of_getElem? (i := 810) (by decide +kernel), List.mem_of_getElem? (i := 811) (by decide +kernel)⟩
theorem lw_p28 : lw_okq (⟨"TypedDescent$Kinds", "cell", "(II)I"⟩, 11) := ⟨⟨by decide +kernel, by decide +kernel⟩, List.mem_of_getElem? (i := 154) (by decide +kernel), List.mem_of_getElem? (i := 814) (by decide +kernel), List.mem_of_getElem? (i := 815) (by decide +kernel)⟩
theorem lw_p29 : lw_okq (⟨"TypedDescent$ProgramJudge", "expression", "()I"⟩, 6) := ⟨⟨by decide +kernel, by decide +kernel⟩, List.mem_of_getElem? (i := 270) (by decide +kernel), List.mem_of_getElem? (i := 828) (by decide +kernel), List.mem_of_getElem? (i := 829) (by decide +kernel)⟩
theorem lw_p30 : lw_okq (⟨"TypedDescent$ProgramJudge", "function", "()I"⟩, 6) := ⟨⟨by decide +kernel, by decide +kernel⟩, List.mem_of_getElem? (i := 270) (by decide +kernel), List.mem_of_getElem? (i := 833) (by decide +kernel), List.mem_of_getElem? (i := 834) (by decide +kernel)⟩
theorem lw_p31 : lw_okq (⟨"TypedDescent$ProgramJudge", "readKind", "()I"⟩, 6) := ⟨⟨by decide +kernel, by decide +kernel⟩, List.mem_of_getElem? (i := 270) (by decide +kernel), List.mem_of_getElem? (i := 843) (by decide +kernel), List.mem_of_getElem? (i := 844) (by decide +kernel)⟩
def lw_privs_2 : List (MethodName × Nat) := [(⟨"TypedDescent$ProgramGrammar", "fixed", "()V"⟩, 1), (⟨"TypedDescent$ProgramGrammar", "let", "()V"⟩, 1), (⟨"TypedDescent$ProgramGrammar", "sum", "()V"⟩, 1), (⟨"TypedDescent$ProgramGrammar", "product", "()V"⟩, 1), (⟨"TypedDescent$ProgramGrammar", "call", "()V"⟩, 1), (⟨"TypedDescent$ProgramGrammar", "first", "()V"⟩, 1), (⟨"TypedDescent$ProgramGrammar", "partNumber", "()V"⟩, 1), (⟨"TypedDescent$ProgramGrammar", "choice", "()V"⟩, 1), (⟨"TypedDescent$Kinds", "hash", "(II)I"⟩, 11), (⟨"TypedDescent$Kinds", "find", "(III)I"⟩, 11), (⟨"TypedDescent$Kinds", "store", "(III)I"⟩, 11), (⟨"TypedDescent$Kinds", "measure", "(IIII)V"⟩, 11), (⟨"TypedDescent$Kinds", "cell", "(II)I"⟩, 11), (⟨"TypedDescent$ProgramJudge", "expression", "()I"⟩, 6), (⟨"TypedDescent$ProgramJudge", "function", "()I"⟩, 6), (⟨"TypedDescent$ProgramJudge", "readKind", "()I"⟩, 6)]
theorem lw_r2 : ∀ q ∈ lw_privs_2, lw_okq q := List.forall_mem_cons.mpr ⟨lw_p16, List.forall_mem_cons.mpr ⟨lw_p17, List.forall_mem_cons.mpr ⟨lw_p18, List.forall_mem_cons.mpr ⟨lw_p19, List.forall_mem_cons.mpr ⟨lw_p20, List.forall_mem_cons.mpr ⟨lw_p21, List.forall_mem_cons.mpr ⟨lw_p22, List.forall_mem_cons.mpr ⟨lw_p23, List.forall_mem_cons.mpr ⟨lw_p24, List.forall_mem_cons.mpr ⟨lw_p25, List.forall_mem_cons.mpr ⟨lw_p26, List.forall_mem_cons.mpr ⟨lw_p27, List.forall_mem_cons.mpr ⟨lw_p28, List.forall_mem_cons.mpr ⟨lw_p29, List.forall_mem_cons.mpr ⟨lw_p30, List.forall_mem_cons.mpr ⟨lw_p31, fun _ h => absurd h List.not_mem_nil⟩⟩⟩⟩⟩⟩⟩⟩⟩⟩⟩⟩⟩⟩⟩⟩
theorem lw_p32 : lw_okq (⟨"TypedDescent$ProgramJudge", "readUnit", "()I"⟩, 6) := ⟨⟨by decide +kernel, by decide +kernel⟩, List.mem_of_getElem? (i := 270) (by decide +kernel), List.mem_of_getElem? (i := 847) (by decide +kernel), List.mem_of_getElem? (i := 848) (by decide +kernel)⟩
theorem lw_p33 : lw_okq (⟨"TypedDescent$ProgramJudge", "readParts", "(Z)I"⟩, 6) := ⟨⟨by decide +kernel, by decide +kernel⟩, List.mem_of_getElem? (i := 270) (by decide +kernel), List.mem_of_getElem? (i := 880) (by decide +kernel), List.mem_of_getElem? (i := 881) (by decide +kernel)⟩
theorem lw_p34 : lw_okq (⟨"TypedDescent$ProgramCode", "emit", "(IIII)I"⟩, 14) := ⟨⟨by decide +kernel, by decide +kernel⟩, List.mem_of_getElem? (i := 211) (by decide +kernel), List.mem_of_getElem? (i := 905) (by decide +kernel), List.mem_of_getElem? (i := 906) (by decide +kernel)⟩
theorem lw_p35 : lw_okq (⟨"TypedDescent$ProgramJudge", "declare", "(II)V"⟩, 6) := ⟨⟨by decide +kernel, by decide +kernel⟩, List.mem_of_getElem? (i := 270) (by decide +kernel), List.mem_of_getElem? (i := 909) (by decide +kernel), List.mem_of_getElem? (i := 910) (by decide +kernel)⟩
theorem lw_p36 : lw_okq (⟨"TypedDescent$ProgramJudge", "undeclare", "(I)V"⟩, 6) := ⟨⟨by decide +kernel, by decide +kernel⟩, List.mem_of_getElem? (i := 270) (by decide +kernel), List.mem_of_getElem? (i := 913) (by decide +kernel), List.mem_of_getElem? (i := 914) (by decide +kernel)⟩
theorem lw_p37 : lw_okq (⟨"TypedDescent$ProgramCode", "give", "(I)V"⟩, 14) := ⟨⟨by decide +kernel, by decide +kernel⟩, List.mem_of_getElem? (i := 211) (by decide +kernel), List.mem_of_getElem? (i := 926) (by decide +kernel), List.mem_of_getElem? (i := 927) (by decide +kernel)⟩
theorem lw_p38 : lw_okq (⟨"TypedDescent$ProgramJudge", "settled", "(II)I"⟩, 6) := ⟨⟨by decide +kernel, by decide +kernel⟩, List.mem_of_getElem? (i := 270) (by decide +kernel), List.mem_of_getElem? (i := 930) (by decide +kernel), List.mem_of_getElem? (i := 931) (by decide +kernel)⟩
theorem lw_p39 : lw_okq (⟨"TypedDescent$ProgramJudge", "fixed", "()I"⟩, 6) := ⟨⟨by decide +kernel, by decide +kernel⟩, List.mem_of_getElem? (i := 270) (by decide +kernel), List.mem_of_getElem? (i := 938) (by decide +kernel), List.mem_of_getElem? (i := 939) (by decide +kernel)⟩
theorem lw_p40 : lw_okq (⟨"TypedDescent$ProgramJudge", "typed", "()I"⟩, 6) := ⟨⟨by decide +kernel, by decide +kernel⟩, List.mem_of_getElem? (i := 270) (by decide +kernel), List.mem_of_getElem? (i := 942) (by decide +kernel), List.mem_of_getElem? (i := 943) (by decide +kernel)⟩
theorem lw_p41 : lw_okq (⟨"TypedDescent$Kinds", "closed", "(IIII)I"⟩, 11) := ⟨⟨by decide +kernel, by decide +kernel⟩, List.mem_of_getElem? (i := 154) (by decide +kernel), List.mem_of_getElem? (i := 955) (by decide +kernel), List.mem_of_getElem? (i := 956) (by decide +kernel)⟩
theorem lw_p42 : lw_okq (⟨"TypedDescent$ProgramJudge", "let", "()I"⟩, 6) := ⟨⟨by decide +kernel, by decide +kernel⟩, List.mem_of_getElem? (i := 270) (by decide +kernel), List.mem_of_getElem? (i := 980) (by decide +kernel), List.mem_of_getElem? (i := 981) (by decide +kernel)⟩
theorem lw_p43 : lw_okq (⟨"TypedDescent$ProgramJudge", "chain", "(Z)I"⟩, 6) := ⟨⟨by decide +kernel, by decide +kernel⟩, List.mem_of_getElem? (i := 270) (by decide +kernel), List.mem_of_getElem? (i := 992) (by decide +kernel), List.mem_of_getElem? (i := 993) (by decide +kernel)⟩
theorem lw_p44 : lw_okq (⟨"TypedDescent$ProgramJudge", "call", "()I"⟩, 6) := ⟨⟨by decide +kernel, by decide +kernel⟩, List.mem_of_getElem? (i := 270) (by decide +kernel), List.mem_of_getElem? (i := 996) (by decide +kernel), List.mem_of_getElem? (i := 997) (by decide +kernel)⟩
theorem lw_p45 : lw_okq (⟨"TypedDescent$ProgramJudge", "first", "()I"⟩, 6) := ⟨⟨by decide +kernel, by decide +kernel⟩, List.mem_of_getElem? (i := 270) (by decide +kernel), List.mem_of_getElem? (i := 1000) (by decide +kernel), List.mem_of_getElem? (i := 1001) (by decide +kernel)⟩
theorem lw_p46 : lw_okq (⟨"TypedDescent$ProgramJudge", "variable", "()I"⟩, 6) := ⟨⟨by decide +kernel, by decide +kernel⟩, List.mem_of_getElem? (i := 270) (by decide +kernel), List.mem_of_getElem? (i := 1009) (by decide +kernel), List.mem_of_getElem? (i := 1010) (by decide +kernel)⟩
theorem lw_p47 : lw_okq (⟨"TypedDescent$ProgramJudge", "tuple", "()I"⟩, 6) := ⟨⟨by decide +kernel, by decide +kernel⟩, List.mem_of_getElem? (i := 270) (by decide +kernel), List.mem_of_getElem? (i := 1017) (by decide +kernel), List.mem_of_getElem? (i := 1018) (by decide +kernel)⟩
def lw_privs_3 : List (MethodName × Nat) := [(⟨"TypedDescent$ProgramJudge", "readUnit", "()I"⟩, 6), (⟨"TypedDescent$ProgramJudge", "readParts", "(Z)I"⟩, 6), (⟨"TypedDescent$ProgramCode", "emit", "(IIII)I"⟩, 14), (⟨"TypedDescent$ProgramJudge", "declare", "(II)V"⟩, 6), (⟨"TypedDescent$ProgramJudge", "undeclare", "(I)V"⟩, 6), (⟨"TypedDescent$ProgramCode", "give", "(I)V"⟩, 14), (⟨"TypedDescent$ProgramJudge", "settled", "(II)I"⟩, 6), (⟨"TypedDescent$ProgramJudge", "fixed", "()I"⟩, 6), (⟨"TypedDescent$ProgramJudge", "typed", "()I"⟩, 6), (⟨"TypedDescent$Kinds", "closed", "(IIII)I"⟩, 11), (⟨"TypedDescent$ProgramJudge", "let", "()I"⟩, 6), (⟨"TypedDescent$ProgramJudge", "chain", "(Z)I"⟩, 6), (⟨"TypedDescent$ProgramJudge", "call", "()I"⟩, 6), (⟨"TypedDescent$ProgramJudge", "first", "()I"⟩, 6), (⟨"TypedDescent$ProgramJudge", "variable", "()I"⟩, 6), (⟨"TypedDescent$ProgramJudge", "tuple", "()I"⟩, 6)]
theorem lw_r3 : ∀ q ∈ lw_privs_3, lw_okq q := List.forall_mem_cons.mpr ⟨lw_p32, List.forall_mem_cons.mpr ⟨lw_p33, List.forall_mem_cons.mpr ⟨lw_p34, List.forall_mem_cons.mpr ⟨lw_p35, List.forall_mem_cons.mpr ⟨lw_p36, List.forall_mem_cons.mpr ⟨lw_p37, List.forall_mem_cons.mpr ⟨lw_p38, List.forall_mem_cons.mpr ⟨lw_p39, List.forall_mem_cons.mpr ⟨lw_p40, List.forall_mem_cons.mpr ⟨lw_p41, List.forall_mem_cons.mpr ⟨lw_p42, List.forall_mem_cons.mpr ⟨lw_p43, List.forall_mem_cons.mpr ⟨lw_p44, List.forall_mem_cons.mpr ⟨lw_p45, List.forall_mem_cons.mpr ⟨lw_p46, List.forall_mem_cons.mpr ⟨lw_p47, fun _ h => absurd h List.not_mem_nil⟩⟩⟩⟩⟩⟩⟩⟩⟩⟩⟩⟩⟩⟩⟩⟩
theorem lw_p48 : lw_okq (⟨"TypedDescent$ProgramJudge", "part", "()I"⟩, 6) := ⟨⟨by decide +kernel, by decide +kernel⟩, List.mem_of_getElem? (i := 270) (by decide +kernel), List.mem_of_getElem? (i := 1026) (by decide +kernel), List.mem_of_getElem? (i := 1027) (by decide +kernel)⟩
theorem lw_p49 : lw_okq (⟨"TypedDescent$ProgramJudge", "choice", "()I"⟩, 6) := ⟨⟨by decide +kernel, by decide +kernel⟩, List.mem_of_getElem? (i := 270) (by decide +kernel), List.mem_of_getElem? (i := 1037) (by decide +kernel), List.mem_of_getElem? (i := 1038) (by decide +kernel)⟩
theorem lw_p50 : lw_okq (⟨"TypedDescent$ProgramJudge", "typeCall", "(III)I"⟩, 6) := ⟨⟨by decide +kernel, by decide +kernel⟩, List.mem_of_getElem? (i := 270) (by decide +kernel), List.mem_of_getElem? (i := 1050) (by decide +kernel), List.mem_of_getElem? (i := 1051) (by decide +kernel)⟩
theorem lw_p51 : lw_okq (⟨"TypedDescent$Kinds", "replaced", "(IIII)I"⟩, 11) := ⟨⟨by decide +kernel, by decide +kernel⟩, List.mem_of_getElem? (i := 154) (by decide +kernel), List.mem_of_getElem? (i := 1066) (by decide +kernel), List.mem_of_getElem? (i := 1067) (by decide +kernel)⟩
theorem lw_p52 : lw_okq (⟨"TypedDescent$ProgramJudge", "valueCall", "(III)I"⟩, 6) := ⟨⟨by decide +kernel, by decide +kernel⟩, List.mem_of_getElem? (i := 270) (by decide +kernel), List.mem_of_getElem? (i := 1071) (by decide +kernel), List.mem_of_getElem? (i := 1072) (by decide +kernel)⟩
theorem lw_p53 : lw_okq (⟨"TypedDescent$ProgramJudge", "operation", "(Z)I"⟩, 6) := ⟨⟨by decide +kernel, by decide +kernel⟩, List.mem_of_getElem? (i := 270) (by decide +kernel), List.mem_of_getElem? (i := 1079) (by decide +kernel), List.mem_of_getElem? (i := 1080) (by decide +kernel)⟩
theorem lw_p54 : lw_okq (⟨"TypedDescent$ProgramCode", "liveAt", "(I)J"⟩, 14) := ⟨⟨by decide +kernel, by decide +kernel⟩, List.mem_of_getElem? (i := 211) (by decide +kernel), List.mem_of_getElem? (i := 1091) (by decide +kernel), List.mem_of_getElem? (i := 1092) (by decide +kernel)⟩
theorem lw_p55 : lw_okq (⟨"TypedDescent$ProgramCode", "isLast", "(I)Z"⟩, 14) := ⟨⟨by decide +kernel, by decide +kernel⟩, List.mem_of_getElem? (i := 211) (by decide +kernel), List.mem_of_getElem? (i := 1103) (by decide +kernel), List.mem_of_getElem? (i := 1104) (by decide +kernel)⟩
theorem lw_p56 : lw_okq (⟨"TypedDescent$Kinds", "writeKind", "(III)V"⟩, 11) := ⟨⟨by decide +kernel, by decide +kernel⟩, List.mem_of_getElem? (i := 154) (by decide +kernel), List.mem_of_getElem? (i := 1111) (by decide +kernel), List.mem_of_getElem? (i := 1112) (by decide +kernel)⟩
theorem lw_p57 : lw_okq (⟨"TypedDescent$Kinds", "put", "(Ljava/lang/String;)V"⟩, 11) := ⟨⟨by decide +kernel, by decide +kernel⟩, List.mem_of_getElem? (i := 154) (by decide +kernel), List.mem_of_getElem? (i := 1116) (by decide +kernel), List.mem_of_getElem? (i := 1117) (by decide +kernel)⟩
theorem lw_p58 : lw_okq (⟨"TypedDescent$Kinds", "putLetter", "(I)V"⟩, 11) := ⟨⟨by decide +kernel, by decide +kernel⟩, List.mem_of_getElem? (i := 154) (by decide +kernel), List.mem_of_getElem? (i := 1122) (by decide +kernel), List.mem_of_getElem? (i := 1123) (by decide +kernel)⟩
theorem lw_p59 : lw_okq (⟨"TypedDescent$Kinds", "putName", "(I)V"⟩, 11) := ⟨⟨by decide +kernel, by decide +kernel⟩, List.mem_of_getElem? (i := 154) (by decide +kernel), List.mem_of_getElem? (i := 1126) (by decide +kernel), List.mem_of_getElem? (i := 1127) (by decide +kernel)⟩
theorem lw_p60 : lw_okq (⟨"TypedDescent$Kinds", "writeLeft", "(III)V"⟩, 11) := ⟨⟨by decide +kernel, by decide +kernel⟩, List.mem_of_getElem? (i := 154) (by decide +kernel), List.mem_of_getElem? (i := 1136) (by decide +kernel), List.mem_of_getElem? (i := 1137) (by decide +kernel)⟩
theorem lw_p61 : lw_okq (⟨"TypedDescent$Kinds", "writeTuple", "(III)V"⟩, 11) := ⟨⟨by decide +kernel, by decide +kernel⟩, List.mem_of_getElem? (i := 154) (by decide +kernel), List.mem_of_getElem? (i := 1146) (by decide +kernel), List.mem_of_getElem? (i := 1147) (by decide +kernel)⟩
theorem lw_p62 : lw_okq (⟨"TypedDescent$BlockGrammar", "readHeader", "()V"⟩, 3) := ⟨⟨by decide +kernel, by decide +kernel⟩, List.mem_of_getElem? (i := 338) (by decide +kernel), List.mem_of_getElem? (i := 1167) (by decide +kernel), List.mem_of_getElem? (i := 1168) (by decide +kernel)⟩
theorem lw_p63 : lw_okq (⟨"TypedDescent$BlockGrammar", "readVars", "()V"⟩, 3) := ⟨⟨by decide +kernel, by decide +kernel⟩, List.mem_of_getElem? (i := 338) (by decide +kernel), List.mem_of_getElem? (i := 1173) (by decide +kernel), List.mem_of_getElem? (i := 1174) (by decide +kernel)⟩
def lw_privs_4 : List (MethodName × Nat) := [(⟨"TypedDescent$ProgramJudge", "part", "()I"⟩, 6), (⟨"TypedDescent$ProgramJudge", "choice", "()I"⟩, 6), (⟨"TypedDescent$ProgramJudge", "typeCall", "(III)I"⟩, 6), (⟨"TypedDescent$Kinds", "replaced", "(IIII)I"⟩, 11), (⟨"TypedDescent$ProgramJudge", "valueCall", "(III)I"⟩, 6), (⟨"TypedDescent$ProgramJudge", "operation", "(Z)I"⟩, 6), (⟨"TypedDescent$ProgramCode", "liveAt", "(I)J"⟩, 14), (⟨"TypedDescent$ProgramCode", "isLast", "(I)Z"⟩, 14), (⟨"TypedDescent$Kinds", "writeKind", "(III)V"⟩, 11), (⟨"TypedDescent$Kinds", "put", "(Ljava/lang/String;)V"⟩, 11), (⟨"TypedDescent$Kinds", "putLetter", "(I)V"⟩, 11), (⟨"TypedDescent$Kinds", "putName", "(I)V"⟩, 11), (⟨"TypedDescent$Kinds", "writeLeft", "(III)V"⟩, 11), (⟨"TypedDescent$Kinds", "writeTuple", "(III)V"⟩, 11), (⟨"TypedDescent$BlockGrammar", "readHeader", "()V"⟩, 3), (⟨"TypedDescent$BlockGrammar", "readVars", "()V"⟩, 3)]
theorem lw_r4 : ∀ q ∈ lw_privs_4, lw_okq q := List.forall_mem_cons.mpr ⟨lw_p48, List.forall_mem_cons.mpr ⟨lw_p49, List.forall_mem_cons.mpr ⟨lw_p50, List.forall_mem_cons.mpr ⟨lw_p51, List.forall_mem_cons.mpr ⟨lw_p52, List.forall_mem_cons.mpr ⟨lw_p53, List.forall_mem_cons.mpr ⟨lw_p54, List.forall_mem_cons.mpr ⟨lw_p55, List.forall_mem_cons.mpr ⟨lw_p56, List.forall_mem_cons.mpr ⟨lw_p57, List.forall_mem_cons.mpr ⟨lw_p58, List.forall_mem_cons.mpr ⟨lw_p59, List.forall_mem_cons.mpr ⟨lw_p60, List.forall_mem_cons.mpr ⟨lw_p61, List.forall_mem_cons.mpr ⟨lw_p62, List.forall_mem_cons.mpr ⟨lw_p63, fun _ h => absurd h List.not_mem_nil⟩⟩⟩⟩⟩⟩⟩⟩⟩⟩⟩⟩⟩⟩⟩⟩
theorem lw_p64 : lw_okq (⟨"TypedDescent$BlockGrammar", "readFile", "()V"⟩, 3) := ⟨⟨by decide +kernel, by decide +kernel⟩, List.mem_of_getElem? (i := 338) (by decide +kernel), List.mem_of_getElem? (i := 1181) (by decide +kernel), List.mem_of_getElem? (i := 1182) (by decide +kernel)⟩
theorem lw_p65 : lw_okq (⟨"TypedDescent$BlockGrammar", "readTold", "()V"⟩, 3) := ⟨⟨by decide +kernel, by decide +kernel⟩, List.mem_of_getElem? (i := 338) (by decide +kernel), List.mem_of_getElem? (i := 1186) (by decide +kernel), List.mem_of_getElem? (i := 1187) (by decide +kernel)⟩
theorem lw_p66 : lw_okq (⟨"TypedDescent$BlockGrammar", "readKind", "()V"⟩, 3) := ⟨⟨by decide +kernel, by decide +kernel⟩, List.mem_of_getElem? (i := 338) (by decide +kernel), List.mem_of_getElem? (i := 1190) (by decide +kernel), List.mem_of_getElem? (i := 1191) (by decide +kernel)⟩
theorem lw_p67 : lw_okq (⟨"TypedDescent$BlockGrammar", "readFields", "(Z)V"⟩, 3) := ⟨⟨by decide +kernel, by decide +kernel⟩, List.mem_of_getElem? (i := 338) (by decide +kernel), List.mem_of_getElem? (i := 1194) (by decide +kernel), List.mem_of_getElem? (i := 1195) (by decide +kernel)⟩
theorem lw_p68 : lw_okq (⟨"TypedDescent$BlockGrammar", "readInstruction", "()V"⟩, 3) := ⟨⟨by decide +kernel, by decide +kernel⟩, List.mem_of_getElem? (i := 338) (by decide +kernel), List.mem_of_getElem? (i := 1203) (by decide +kernel), List.mem_of_getElem? (i := 1204) (by decide +kernel)⟩
theorem lw_p69 : lw_okq (⟨"TypedDescent$BlockGrammar", "readRegister", "()V"⟩, 3) := ⟨⟨by decide +kernel, by decide +kernel⟩, List.mem_of_getElem? (i := 338) (by decide +kernel), List.mem_of_getElem? (i := 1207) (by decide +kernel), List.mem_of_getElem? (i := 1208) (by decide +kernel)⟩
theorem lw_p70 : lw_okq (⟨"TypedDescent$BlockGrammar", "readValue", "()V"⟩, 3) := ⟨⟨by decide +kernel, by decide +kernel⟩, List.mem_of_getElem? (i := 338) (by decide +kernel), List.mem_of_getElem? (i := 1211) (by decide +kernel), List.mem_of_getElem? (i := 1212) (by decide +kernel)⟩
theorem lw_p71 : lw_okq (⟨"TypedDescent$BlockGrammar", "readPack", "()V"⟩, 3) := ⟨⟨by decide +kernel, by decide +kernel⟩, List.mem_of_getElem? (i := 338) (by decide +kernel), List.mem_of_getElem? (i := 1215) (by decide +kernel), List.mem_of_getElem? (i := 1216) (by decide +kernel)⟩
theorem lw_p72 : lw_okq (⟨"TypedDescent$BlockGrammar", "readPlace", "()V"⟩, 3) := ⟨⟨by decide +kernel, by decide +kernel⟩, List.mem_of_getElem? (i := 338) (by decide +kernel), List.mem_of_getElem? (i := 1219) (by decide +kernel), List.mem_of_getElem? (i := 1220) (by decide +kernel)⟩
theorem lw_p73 : lw_okq (⟨"TypedDescent$BlockJudge", "readHeaders", "()V"⟩, 8) := ⟨⟨by decide +kernel, by decide +kernel⟩, List.mem_of_getElem? (i := 397) (by decide +kernel), List.mem_of_getElem? (i := 1234) (by decide +kernel), List.mem_of_getElem? (i := 1235) (by decide +kernel)⟩
theorem lw_p74 : lw_okq (⟨"TypedDescent$BlockJudge", "readCode", "()I"⟩, 8) := ⟨⟨by decide +kernel, by decide +kernel⟩, List.mem_of_getElem? (i := 397) (by decide +kernel), List.mem_of_getElem? (i := 1248) (by decide +kernel), List.mem_of_getElem? (i := 1249) (by decide +kernel)⟩
theorem lw_p75 : lw_okq (⟨"TypedDescent$BlockJudge", "readVars", "()I"⟩, 8) := ⟨⟨by decide +kernel, by decide +kernel⟩, List.mem_of_getElem? (i := 397) (by decide +kernel), List.mem_of_getElem? (i := 1252) (by decide +kernel), List.mem_of_getElem? (i := 1253) (by decide +kernel)⟩
theorem lw_p76 : lw_okq (⟨"TypedDescent$BlockJudge", "readKind", "()I"⟩, 8) := ⟨⟨by decide +kernel, by decide +kernel⟩, List.mem_of_getElem? (i := 397) (by decide +kernel), List.mem_of_getElem? (i := 1267) (by decide +kernel), List.mem_of_getElem? (i := 1268) (by decide +kernel)⟩
theorem lw_p77 : lw_okq (⟨"TypedDescent$BlockJudge", "readFields", "(I)I"⟩, 8) := ⟨⟨by decide +kernel, by decide +kernel⟩, List.mem_of_getElem? (i := 397) (by decide +kernel), List.mem_of_getElem? (i := 1272) (by decide +kernel), List.mem_of_getElem? (i := 1273) (by decide +kernel)⟩
theorem lw_p78 : lw_okq (⟨"TypedDescent$BlockJudge", "skipComma", "()V"⟩, 8) := ⟨⟨by decide +kernel, by decide +kernel⟩, List.mem_of_getElem? (i := 397) (by decide +kernel), List.mem_of_getElem? (i := 1277) (by decide +kernel), List.mem_of_getElem? (i := 1278) (by decide +kernel)⟩
theorem lw_p79 : lw_okq (⟨"TypedDescent$BlockJudge", "beginBlock", "(I)V"⟩, 8) := ⟨⟨by decide +kernel, by decide +kernel⟩, List.mem_of_getElem? (i := 397) (by decide +kernel), List.mem_of_getElem? (i := 1294) (by decide +kernel), List.mem_of_getElem? (i := 1295) (by decide +kernel)⟩
def lw_privs_5 : List (MethodName × Nat) := [(⟨"TypedDescent$BlockGrammar", "readFile", "()V"⟩, 3), (⟨"TypedDescent$BlockGrammar", "readTold", "()V"⟩, 3), (⟨"TypedDescent$BlockGrammar", "readKind", "()V"⟩, 3), (⟨"TypedDescent$BlockGrammar", "readFields", "(Z)V"⟩, 3), (⟨"TypedDescent$BlockGrammar", "readInstruction", "()V"⟩, 3), (⟨"TypedDescent$BlockGrammar", "readRegister", "()V"⟩, 3), (⟨"TypedDescent$BlockGrammar", "readValue", "()V"⟩, 3), (⟨"TypedDescent$BlockGrammar", "readPack", "()V"⟩, 3), (⟨"TypedDescent$BlockGrammar", "readPlace", "()V"⟩, 3), (⟨"TypedDescent$BlockJudge", "readHeaders", "()V"⟩, 8), (⟨"TypedDescent$BlockJudge", "readCode", "()I"⟩, 8), (⟨"TypedDescent$BlockJudge", "readVars", "()I"⟩, 8), (⟨"TypedDescent$BlockJudge", "readKind", "()I"⟩, 8), (⟨"TypedDescent$BlockJudge", "readFields", "(I)I"⟩, 8), (⟨"TypedDescent$BlockJudge", "skipComma", "()V"⟩, 8), (⟨"TypedDescent$BlockJudge", "beginBlock", "(I)V"⟩, 8)]
theorem lw_r5 : ∀ q ∈ lw_privs_5, lw_okq q := List.forall_mem_cons.mpr ⟨lw_p64, List.forall_mem_cons.mpr ⟨lw_p65, List.forall_mem_cons.mpr ⟨lw_p66, List.forall_mem_cons.mpr ⟨lw_p67, List.forall_mem_cons.mpr ⟨lw_p68, List.forall_mem_cons.mpr ⟨lw_p69, List.forall_mem_cons.mpr ⟨lw_p70, List.forall_mem_cons.mpr ⟨lw_p71, List.forall_mem_cons.mpr ⟨lw_p72, List.forall_mem_cons.mpr ⟨lw_p73, List.forall_mem_cons.mpr ⟨lw_p74, List.forall_mem_cons.mpr ⟨lw_p75, List.forall_mem_cons.mpr ⟨lw_p76, List.forall_mem_cons.mpr ⟨lw_p77, List.forall_mem_cons.mpr ⟨lw_p78, List.forall_mem_cons.mpr ⟨lw_p79, fun _ h => absurd h List.not_mem_nil⟩⟩⟩⟩⟩⟩⟩⟩⟩⟩⟩⟩⟩⟩⟩⟩
theorem lw_p80 : lw_okq (⟨"TypedDescent$BlockJudge", "blockOf", "(J)I"⟩, 8) := ⟨⟨by decide +kernel, by decide +kernel⟩, List.mem_of_getElem? (i := 397) (by decide +kernel), List.mem_of_getElem? (i := 1298) (by decide +kernel), List.mem_of_getElem? (i := 1299) (by decide +kernel)⟩
theorem lw_p81 : lw_okq (⟨"TypedDescent$BlockJudge", "judgeFirstHeader", "()V"⟩, 8) := ⟨⟨by decide +kernel, by decide +kernel⟩, List.mem_of_getElem? (i := 397) (by decide +kernel), List.mem_of_getElem? (i := 1302) (by decide +kernel), List.mem_of_getElem? (i := 1303) (by decide +kernel)⟩
theorem lw_p82 : lw_okq (⟨"TypedDescent$BlockJudge", "headerOf", "(I)I"⟩, 8) := ⟨⟨by decide +kernel, by decide +kernel⟩, List.mem_of_getElem? (i := 397) (by decide +kernel), List.mem_of_getElem? (i := 1306) (by decide +kernel), List.mem_of_getElem? (i := 1307) (by decide +kernel)⟩
theorem lw_p83 : lw_okq (⟨"TypedDescent$BlockJudge", "enter", "(II)V"⟩, 8) := ⟨⟨by decide +kernel, by decide +kernel⟩, List.mem_of_getElem? (i := 397) (by decide +kernel), List.mem_of_getElem? (i := 1311) (by decide +kernel), List.mem_of_getElem? (i := 1312) (by decide +kernel)⟩
theorem lw_p84 : lw_okq (⟨"TypedDescent$BlockJudge", "setRegister", "(II)V"⟩, 8) := ⟨⟨by decide +kernel, by decide +kernel⟩, List.mem_of_getElem? (i := 397) (by decide +kernel), List.mem_of_getElem? (i := 1325) (by decide +kernel), List.mem_of_getElem? (i := 1326) (by decide +kernel)⟩
theorem lw_p85 : lw_okq (⟨"TypedDescent$BlockJudge", "judgeInstruction", "()V"⟩, 8) := ⟨⟨by decide +kernel, by decide +kernel⟩, List.mem_of_getElem? (i := 397) (by decide +kernel), List.mem_of_getElem? (i := 1333) (by decide +kernel), List.mem_of_getElem? (i := 1334) (by decide +kernel)⟩
theorem lw_p86 : lw_okq (⟨"TypedDescent$BlockJudge", "judgeMove", "()V"⟩, 8) := ⟨⟨by decide +kernel, by decide +kernel⟩, List.mem_of_getElem? (i := 397) (by decide +kernel), List.mem_of_getElem? (i := 1337) (by decide +kernel), List.mem_of_getElem? (i := 1338) (by decide +kernel)⟩
theorem lw_p87 : lw_okq (⟨"TypedDescent$BlockJudge", "readValue", "()I"⟩, 8) := ⟨⟨by decide +kernel, by decide +kernel⟩, List.mem_of_getElem? (i := 397) (by decide +kernel), List.mem_of_getElem? (i := 1341) (by decide +kernel), List.mem_of_getElem? (i := 1342) (by decide +kernel)⟩
theorem lw_p88 : lw_okq (⟨"TypedDescent$BlockJudge", "readPlainValue", "()I"⟩, 8) := ⟨⟨by decide +kernel, by decide +kernel⟩, List.mem_of_getElem? (i := 397) (by decide +kernel), List.mem_of_getElem? (i := 1345) (by decide +kernel), List.mem_of_getElem? (i := 1346) (by decide +kernel)⟩
theorem lw_p89 : lw_okq (⟨"TypedDescent$BlockJudge", "give", "(II)V"⟩, 8) := ⟨⟨by decide +kernel, by decide +kernel⟩, List.mem_of_getElem? (i := 397) (by decide +kernel), List.mem_of_getElem? (i := 1349) (by decide +kernel), List.mem_of_getElem? (i := 1350) (by decide +kernel)⟩
theorem lw_p90 : lw_okq (⟨"TypedDescent$BlockJudge", "usedRegister", "()I"⟩, 8) := ⟨⟨by decide +kernel, by decide +kernel⟩, List.mem_of_getElem? (i := 397) (by decide +kernel), List.mem_of_getElem? (i := 1353) (by decide +kernel), List.mem_of_getElem? (i := 1354) (by decide +kernel)⟩
theorem lw_p91 : lw_okq (⟨"TypedDescent$BlockJudge", "kindOf", "(I)I"⟩, 8) := ⟨⟨by decide +kernel, by decide +kernel⟩, List.mem_of_getElem? (i := 397) (by decide +kernel), List.mem_of_getElem? (i := 1357) (by decide +kernel), List.mem_of_getElem? (i := 1358) (by decide +kernel)⟩
theorem lw_p92 : lw_okq (⟨"TypedDescent$BlockJudge", "readLabel", "()I"⟩, 8) := ⟨⟨by decide +kernel, by decide +kernel⟩, List.mem_of_getElem? (i := 397) (by decide +kernel), List.mem_of_getElem? (i := 1361) (by decide +kernel), List.mem_of_getElem? (i := 1362) (by decide +kernel)⟩
theorem lw_p93 : lw_okq (⟨"TypedDescent$BlockJudge", "readPack", "()I"⟩, 8) := ⟨⟨by decide +kernel, by decide +kernel⟩, List.mem_of_getElem? (i := 397) (by decide +kernel), List.mem_of_getElem? (i := 1365) (by decide +kernel), List.mem_of_getElem? (i := 1366) (by decide +kernel)⟩
theorem lw_p94 : lw_okq (⟨"TypedDescent$BlockJudge", "hasVars", "(I)Z"⟩, 8) := ⟨⟨by decide +kernel, by decide +kernel⟩, List.mem_of_getElem? (i := 397) (by decide +kernel), List.mem_of_getElem? (i := 1370) (by decide +kernel), List.mem_of_getElem? (i := 1371) (by decide +kernel)⟩
theorem lw_p95 : lw_okq (⟨"TypedDescent$BlockJudge", "judgeOperation", "(I)V"⟩, 8) := ⟨⟨by decide +kernel, by decide +kernel⟩, List.mem_of_getElem? (i := 397) (by decide +kernel), List.mem_of_getElem? (i := 1378) (by decide +kernel), List.mem_of_getElem? (i := 1379) (by decide +kernel)⟩
def lw_privs_6 : List (MethodName × Nat) := [(⟨"TypedDescent$BlockJudge", "blockOf", "(J)I"⟩, 8), (⟨"TypedDescent$BlockJudge", "judgeFirstHeader", "()V"⟩, 8), (⟨"TypedDescent$BlockJudge", "headerOf", "(I)I"⟩, 8), (⟨"TypedDescent$BlockJudge", "enter", "(II)V"⟩, 8), (⟨"TypedDescent$BlockJudge", "setRegister", "(II)V"⟩, 8), (⟨"TypedDescent$BlockJudge", "judgeInstruction", "()V"⟩, 8), (⟨"TypedDescent$BlockJudge", "judgeMove", "()V"⟩, 8), (⟨"TypedDescent$BlockJudge", "readValue", "()I"⟩, 8), (⟨"TypedDescent$BlockJudge", "readPlainValue", "()I"⟩, 8), (⟨"TypedDescent$BlockJudge", "give", "(II)V"⟩, 8), (⟨"TypedDescent$BlockJudge", "usedRegister", "()I"⟩, 8), (⟨"TypedDescent$BlockJudge", "kindOf", "(I)I"⟩, 8), (⟨"TypedDescent$BlockJudge", "readLabel", "()I"⟩, 8), (⟨"TypedDescent$BlockJudge", "readPack", "()I"⟩, 8), (⟨"TypedDescent$BlockJudge", "hasVars", "(I)Z"⟩, 8), (⟨"TypedDescent$BlockJudge", "judgeOperation", "(I)V"⟩, 8)]
theorem lw_r6 : ∀ q ∈ lw_privs_6, lw_okq q := List.forall_mem_cons.mpr ⟨lw_p80, List.forall_mem_cons.mpr ⟨lw_p81, List.forall_mem_cons.mpr ⟨lw_p82, List.forall_mem_cons.mpr ⟨lw_p83, List.forall_mem_cons.mpr ⟨lw_p84, List.forall_mem_cons.mpr ⟨lw_p85, List.forall_mem_cons.mpr ⟨lw_p86, List.forall_mem_cons.mpr ⟨lw_p87, List.forall_mem_cons.mpr ⟨lw_p88, List.forall_mem_cons.mpr ⟨lw_p89, List.forall_mem_cons.mpr ⟨lw_p90, List.forall_mem_cons.mpr ⟨lw_p91, List.forall_mem_cons.mpr ⟨lw_p92, List.forall_mem_cons.mpr ⟨lw_p93, List.forall_mem_cons.mpr ⟨lw_p94, List.forall_mem_cons.mpr ⟨lw_p95, fun _ h => absurd h List.not_mem_nil⟩⟩⟩⟩⟩⟩⟩⟩⟩⟩⟩⟩⟩⟩⟩⟩
theorem lw_p96 : lw_okq (⟨"TypedDescent$BlockJudge", "judgeNumber", "(II)Z"⟩, 8) := ⟨⟨by decide +kernel, by decide +kernel⟩, List.mem_of_getElem? (i := 397) (by decide +kernel), List.mem_of_getElem? (i := 1382) (by decide +kernel), List.mem_of_getElem? (i := 1383) (by decide +kernel)⟩
theorem lw_p97 : lw_okq (⟨"TypedDescent$BlockJudge", "isNumber", "(I)Z"⟩, 8) := ⟨⟨by decide +kernel, by decide +kernel⟩, List.mem_of_getElem? (i := 397) (by decide +kernel), List.mem_of_getElem? (i := 1386) (by decide +kernel), List.mem_of_getElem? (i := 1387) (by decide +kernel)⟩
theorem lw_p98 : lw_okq (⟨"TypedDescent$BlockJudge", "judgeLoad", "()V"⟩, 8) := ⟨⟨by decide +kernel, by decide +kernel⟩, List.mem_of_getElem? (i := 397) (by decide +kernel), List.mem_of_getElem? (i := 1390) (by decide +kernel), List.mem_of_getElem? (i := 1391) (by decide +kernel)⟩
theorem lw_p99 : lw_okq (⟨"TypedDescent$BlockJudge", "hasField", "(II)Z"⟩, 8) := ⟨⟨by decide +kernel, by decide +kernel⟩, List.mem_of_getElem? (i := 397) (by decide +kernel), List.mem_of_getElem? (i := 1394) (by decide +kernel), List.mem_of_getElem? (i := 1395) (by decide +kernel)⟩
theorem lw_p100 : lw_okq (⟨"TypedDescent$BlockJudge", "judgeStore", "()V"⟩, 8) := ⟨⟨by decide +kernel, by decide +kernel⟩, List.mem_of_getElem? (i := 397) (by decide +kernel), List.mem_of_getElem? (i := 1398) (by decide +kernel), List.mem_of_getElem? (i := 1399) (by decide +kernel)⟩
theorem lw_p101 : lw_okq (⟨"TypedDescent$BlockJudge", "judgeMalloc", "()V"⟩, 8) := ⟨⟨by decide +kernel, by decide +kernel⟩, List.mem_of_getElem? (i := 397) (by decide +kernel), List.mem_of_getElem? (i := 1406) (by decide +kernel), List.mem_of_getElem? (i := 1407) (by decide +kernel)⟩
theorem lw_p102 : lw_okq (⟨"TypedDescent$BlockJudge", "judgeAsked", "()I"⟩, 8) := ⟨⟨by decide +kernel, by decide +kernel⟩, List.mem_of_getElem? (i := 397) (by decide +kernel), List.mem_of_getElem? (i := 1410) (by decide +kernel), List.mem_of_getElem? (i := 1411) (by decide +kernel)⟩
theorem lw_p103 : lw_okq (⟨"TypedDescent$BlockJudge", "judgeLeap", "(II)V"⟩, 8) := ⟨⟨by decide +kernel, by decide +kernel⟩, List.mem_of_getElem? (i := 397) (by decide +kernel), List.mem_of_getElem? (i := 1414) (by decide +kernel), List.mem_of_getElem? (i := 1415) (by decide +kernel)⟩
theorem lw_p104 : lw_okq (⟨"TypedDescent$BlockJudge", "canLeap", "(I)Z"⟩, 8) := ⟨⟨by decide +kernel, by decide +kernel⟩, List.mem_of_getElem? (i := 397) (by decide +kernel), List.mem_of_getElem? (i := 1418) (by decide +kernel), List.mem_of_getElem? (i := 1419) (by decide +kernel)⟩
theorem lw_p105 : lw_okq (⟨"TypedDescent$BlockJudge", "judgeUnpack", "()V"⟩, 8) := ⟨⟨by decide +kernel, by decide +kernel⟩, List.mem_of_getElem? (i := 397) (by decide +kernel), List.mem_of_getElem? (i := 1426) (by decide +kernel), List.mem_of_getElem? (i := 1427) (by decide +kernel)⟩
theorem lw_p106 : lw_okq (⟨"TypedDescent$BlockJudge", "judgeHalt", "()V"⟩, 8) := ⟨⟨by decide +kernel, by decide +kernel⟩, List.mem_of_getElem? (i := 397) (by decide +kernel), List.mem_of_getElem? (i := 1435) (by decide +kernel), List.mem_of_getElem? (i := 1436) (by decide +kernel)⟩
theorem lw_p107 : lw_okq (⟨"TypedDescent$BlockCode", "emitAll", "()V"⟩, 12) := ⟨⟨by decide +kernel, by decide +kernel⟩, List.mem_of_getElem? (i := 354) (by decide +kernel), List.mem_of_getElem? (i := 1443) (by decide +kernel), List.mem_of_getElem? (i := 1444) (by decide +kernel)⟩
theorem lw_p108 : lw_okq (⟨"TypedDescent$BlockCode", "emitInstruction", "(I)V"⟩, 12) := ⟨⟨by decide +kernel, by decide +kernel⟩, List.mem_of_getElem? (i := 354) (by decide +kernel), List.mem_of_getElem? (i := 1447) (by decide +kernel), List.mem_of_getElem? (i := 1448) (by decide +kernel)⟩
theorem lw_p109 : lw_okq (⟨"TypedDescent$BlockCode", "emitValue", "(I)V"⟩, 12) := ⟨⟨by decide +kernel, by decide +kernel⟩, List.mem_of_getElem? (i := 354) (by decide +kernel), List.mem_of_getElem? (i := 1451) (by decide +kernel), List.mem_of_getElem? (i := 1452) (by decide +kernel)⟩
theorem lw_p110 : lw_okq (⟨"TypedDescent$BlockCode", "emitGet", "(I)V"⟩, 12) := ⟨⟨by decide +kernel, by decide +kernel⟩, List.mem_of_getElem? (i := 354) (by decide +kernel), List.mem_of_getElem? (i := 1455) (by decide +kernel), List.mem_of_getElem? (i := 1456) (by decide +kernel)⟩
theorem lw_p111 : lw_okq (⟨"TypedDescent$BlockCode", "emit", "(I)V"⟩, 12) := ⟨⟨by decide +kernel, by decide +kernel⟩, List.mem_of_getElem? (i := 354) (by decide +kernel), List.mem_of_getElem? (i := 1459) (by decide +kernel), List.mem_of_getElem? (i := 1460) (by decide +kernel)⟩
def lw_privs_7 : List (MethodName × Nat) := [(⟨"TypedDescent$BlockJudge", "judgeNumber", "(II)Z"⟩, 8), (⟨"TypedDescent$BlockJudge", "isNumber", "(I)Z"⟩, 8), (⟨"TypedDescent$BlockJudge", "judgeLoad", "()V"⟩, 8), (⟨"TypedDescent$BlockJudge", "hasField", "(II)Z"⟩, 8), (⟨"TypedDescent$BlockJudge", "judgeStore", "()V"⟩, 8), (⟨"TypedDescent$BlockJudge", "judgeMalloc", "()V"⟩, 8), (⟨"TypedDescent$BlockJudge", "judgeAsked", "()I"⟩, 8), (⟨"TypedDescent$BlockJudge", "judgeLeap", "(II)V"⟩, 8), (⟨"TypedDescent$BlockJudge", "canLeap", "(I)Z"⟩, 8), (⟨"TypedDescent$BlockJudge", "judgeUnpack", "()V"⟩, 8), (⟨"TypedDescent$BlockJudge", "judgeHalt", "()V"⟩, 8), (⟨"TypedDescent$BlockCode", "emitAll", "()V"⟩, 12), (⟨"TypedDescent$BlockCode", "emitInstruction", "(I)V"⟩, 12), (⟨"TypedDescent$BlockCode", "emitValue", "(I)V"⟩, 12), (⟨"TypedDescent$BlockCode", "emitGet", "(I)V"⟩, 12), (⟨"TypedDescent$BlockCode", "emit", "(I)V"⟩, 12)]
theorem lw_r7 : ∀ q ∈ lw_privs_7, lw_okq q := List.forall_mem_cons.mpr ⟨lw_p96, List.forall_mem_cons.mpr ⟨lw_p97, List.forall_mem_cons.mpr ⟨lw_p98, List.forall_mem_cons.mpr ⟨lw_p99, List.forall_mem_cons.mpr ⟨lw_p100, List.forall_mem_cons.mpr ⟨lw_p101, List.forall_mem_cons.mpr ⟨lw_p102, List.forall_mem_cons.mpr ⟨lw_p103, List.forall_mem_cons.mpr ⟨lw_p104, List.forall_mem_cons.mpr ⟨lw_p105, List.forall_mem_cons.mpr ⟨lw_p106, List.forall_mem_cons.mpr ⟨lw_p107, List.forall_mem_cons.mpr ⟨lw_p108, List.forall_mem_cons.mpr ⟨lw_p109, List.forall_mem_cons.mpr ⟨lw_p110, List.forall_mem_cons.mpr ⟨lw_p111, fun _ h => absurd h List.not_mem_nil⟩⟩⟩⟩⟩⟩⟩⟩⟩⟩⟩⟩⟩⟩⟩⟩
theorem lw_p112 : lw_okq (⟨"TypedDescent$BlockCode", "emitWord", "(I)V"⟩, 12) := ⟨⟨by decide +kernel, by decide +kernel⟩, List.mem_of_getElem? (i := 354) (by decide +kernel), List.mem_of_getElem? (i := 1463) (by decide +kernel), List.mem_of_getElem? (i := 1464) (by decide +kernel)⟩
theorem lw_p113 : lw_okq (⟨"TypedDescent$BlockCode", "emitSet", "(I)V"⟩, 12) := ⟨⟨by decide +kernel, by decide +kernel⟩, List.mem_of_getElem? (i := 354) (by decide +kernel), List.mem_of_getElem? (i := 1471) (by decide +kernel), List.mem_of_getElem? (i := 1472) (by decide +kernel)⟩
theorem lw_p114 : lw_okq (⟨"TypedDescent$BlockCode", "emitStore", "(I)V"⟩, 12) := ⟨⟨by decide +kernel, by decide +kernel⟩, List.mem_of_getElem? (i := 354) (by decide +kernel), List.mem_of_getElem? (i := 1475) (by decide +kernel), List.mem_of_getElem? (i := 1476) (by decide +kernel)⟩
theorem lw_p115 : lw_okq (⟨"TypedDescent$BlockCode", "emitMalloc", "(I)V"⟩, 12) := ⟨⟨by decide +kernel, by decide +kernel⟩, List.mem_of_getElem? (i := 354) (by decide +kernel), List.mem_of_getElem? (i := 1479) (by decide +kernel), List.mem_of_getElem? (i := 1480) (by decide +kernel)⟩
theorem lw_p116 : lw_okq (⟨"TypedDescent$BlockCode", "emitWay", "(I)V"⟩, 12) := ⟨⟨by decide +kernel, by decide +kernel⟩, List.mem_of_getElem? (i := 354) (by decide +kernel), List.mem_of_getElem? (i := 1483) (by decide +kernel), List.mem_of_getElem? (i := 1484) (by decide +kernel)⟩
theorem lw_p117 : lw_okq (⟨"TypedDescent$BlockCode", "emitLeap", "(I)V"⟩, 12) := ⟨⟨by decide +kernel, by decide +kernel⟩, List.mem_of_getElem? (i := 354) (by decide +kernel), List.mem_of_getElem? (i := 1487) (by decide +kernel), List.mem_of_getElem? (i := 1488) (by decide +kernel)⟩
theorem lw_p118 : lw_okq (⟨"TypedDescent$BlockCode", "emitOperation", "(I)V"⟩, 12) := ⟨⟨by decide +kernel, by decide +kernel⟩, List.mem_of_getElem? (i := 354) (by decide +kernel), List.mem_of_getElem? (i := 1491) (by decide +kernel), List.mem_of_getElem? (i := 1492) (by decide +kernel)⟩
theorem lw_p119 : lw_okq (⟨"TypedDescent", "canRun", "()Z"⟩, 16) := ⟨⟨by decide +kernel, by decide +kernel⟩, List.mem_of_getElem? (i := 24) (by decide +kernel), List.mem_of_getElem? (i := 1528) (by decide +kernel), List.mem_of_getElem? (i := 1529) (by decide +kernel)⟩
theorem lw_p120 : lw_okq (⟨"TypedDescent$ProgramMachine", "step", "(I)V"⟩, 12) := ⟨⟨by decide +kernel, by decide +kernel⟩, List.mem_of_getElem? (i := 295) (by decide +kernel), List.mem_of_getElem? (i := 1548) (by decide +kernel), List.mem_of_getElem? (i := 1549) (by decide +kernel)⟩
theorem lw_p121 : lw_okq (⟨"TypedDescent$ProgramMachine", "get", "(I)I"⟩, 12) := ⟨⟨by decide +kernel, by decide +kernel⟩, List.mem_of_getElem? (i := 295) (by decide +kernel), List.mem_of_getElem? (i := 1564) (by decide +kernel), List.mem_of_getElem? (i := 1565) (by decide +kernel)⟩
theorem lw_p122 : lw_okq (⟨"TypedDescent$ProgramMachine", "set", "(II)V"⟩, 12) := ⟨⟨by decide +kernel, by decide +kernel⟩, List.mem_of_getElem? (i := 295) (by decide +kernel), List.mem_of_getElem? (i := 1576) (by decide +kernel), List.mem_of_getElem? (i := 1577) (by decide +kernel)⟩
theorem lw_p123 : lw_okq (⟨"TypedDescent$ProgramMachine", "newRow", "(I)I"⟩, 12) := ⟨⟨by decide +kernel, by decide +kernel⟩, List.mem_of_getElem? (i := 295) (by decide +kernel), List.mem_of_getElem? (i := 1580) (by decide +kernel), List.mem_of_getElem? (i := 1581) (by decide +kernel)⟩
theorem lw_p124 : lw_okq (⟨"TypedDescent$ProgramMachine", "makeClosure", "(I)V"⟩, 12) := ⟨⟨by decide +kernel, by decide +kernel⟩, List.mem_of_getElem? (i := 295) (by decide +kernel), List.mem_of_getElem? (i := 1592) (by decide +kernel), List.mem_of_getElem? (i := 1593) (by decide +kernel)⟩
theorem lw_p125 : lw_okq (⟨"TypedDescent$ProgramMachine", "store", "(JI)I"⟩, 12) := ⟨⟨by decide +kernel, by decide +kernel⟩, List.mem_of_getElem? (i := 295) (by decide +kernel), List.mem_of_getElem? (i := 1603) (by decide +kernel), List.mem_of_getElem? (i := 1604) (by decide +kernel)⟩
theorem lw_p126 : lw_okq (⟨"TypedDescent$ProgramMachine", "newPair", "(II)I"⟩, 12) := ⟨⟨by decide +kernel, by decide +kernel⟩, List.mem_of_getElem? (i := 295) (by decide +kernel), List.mem_of_getElem? (i := 1607) (by decide +kernel), List.mem_of_getElem? (i := 1608) (by decide +kernel)⟩
theorem lw_p127 : lw_okq (⟨"TypedDescent$ProgramMachine", "keepAndCall", "(I)V"⟩, 12) := ⟨⟨by decide +kernel, by decide +kernel⟩, List.mem_of_getElem? (i := 295) (by decide +kernel), List.mem_of_getElem? (i := 1611) (by decide +kernel), List.mem_of_getElem? (i := 1612) (by decide +kernel)⟩
def lw_privs_8 : List (MethodName × Nat) := [(⟨"TypedDescent$BlockCode", "emitWord", "(I)V"⟩, 12), (⟨"TypedDescent$BlockCode", "emitSet", "(I)V"⟩, 12), (⟨"TypedDescent$BlockCode", "emitStore", "(I)V"⟩, 12), (⟨"TypedDescent$BlockCode", "emitMalloc", "(I)V"⟩, 12), (⟨"TypedDescent$BlockCode", "emitWay", "(I)V"⟩, 12), (⟨"TypedDescent$BlockCode", "emitLeap", "(I)V"⟩, 12), (⟨"TypedDescent$BlockCode", "emitOperation", "(I)V"⟩, 12), (⟨"TypedDescent", "canRun", "()Z"⟩, 16), (⟨"TypedDescent$ProgramMachine", "step", "(I)V"⟩, 12), (⟨"TypedDescent$ProgramMachine", "get", "(I)I"⟩, 12), (⟨"TypedDescent$ProgramMachine", "set", "(II)V"⟩, 12), (⟨"TypedDescent$ProgramMachine", "newRow", "(I)I"⟩, 12), (⟨"TypedDescent$ProgramMachine", "makeClosure", "(I)V"⟩, 12), (⟨"TypedDescent$ProgramMachine", "store", "(JI)I"⟩, 12), (⟨"TypedDescent$ProgramMachine", "newPair", "(II)I"⟩, 12), (⟨"TypedDescent$ProgramMachine", "keepAndCall", "(I)V"⟩, 12)]
theorem lw_r8 : ∀ q ∈ lw_privs_8, lw_okq q := List.forall_mem_cons.mpr ⟨lw_p112, List.forall_mem_cons.mpr ⟨lw_p113, List.forall_mem_cons.mpr ⟨lw_p114, List.forall_mem_cons.mpr ⟨lw_p115, List.forall_mem_cons.mpr ⟨lw_p116, List.forall_mem_cons.mpr ⟨lw_p117, List.forall_mem_cons.mpr ⟨lw_p118, List.forall_mem_cons.mpr ⟨lw_p119, List.forall_mem_cons.mpr ⟨lw_p120, List.forall_mem_cons.mpr ⟨lw_p121, List.forall_mem_cons.mpr ⟨lw_p122, List.forall_mem_cons.mpr ⟨lw_p123, List.forall_mem_cons.mpr ⟨lw_p124, List.forall_mem_cons.mpr ⟨lw_p125, List.forall_mem_cons.mpr ⟨lw_p126, List.forall_mem_cons.mpr ⟨lw_p127, fun _ h => absurd h List.not_mem_nil⟩⟩⟩⟩⟩⟩⟩⟩⟩⟩⟩⟩⟩⟩⟩⟩
theorem lw_p128 : lw_okq (⟨"TypedDescent$ProgramMachine", "call", "(II)V"⟩, 12) := ⟨⟨by decide +kernel, by decide +kernel⟩, List.mem_of_getElem? (i := 295) (by decide +kernel), List.mem_of_getElem? (i := 1619) (by decide +kernel), List.mem_of_getElem? (i := 1620) (by decide +kernel)⟩
theorem lw_p129 : lw_okq (⟨"TypedDescent$ProgramMachine", "load", "(JI)I"⟩, 12) := ⟨⟨by decide +kernel, by decide +kernel⟩, List.mem_of_getElem? (i := 295) (by decide +kernel), List.mem_of_getElem? (i := 1623) (by decide +kernel), List.mem_of_getElem? (i := 1624) (by decide +kernel)⟩
theorem lw_p130 : lw_okq (⟨"TypedDescent$ProgramMachine", "comeBack", "(I)V"⟩, 12) := ⟨⟨by decide +kernel, by decide +kernel⟩, List.mem_of_getElem? (i := 295) (by decide +kernel), List.mem_of_getElem? (i := 1632) (by decide +kernel), List.mem_of_getElem? (i := 1633) (by decide +kernel)⟩
theorem lw_p131 : lw_okq (⟨"TypedDescent$ProgramMachine", "computed", "(I)I"⟩, 12) := ⟨⟨by decide +kernel, by decide +kernel⟩, List.mem_of_getElem? (i := 295) (by decide +kernel), List.mem_of_getElem? (i := 1636) (by decide +kernel), List.mem_of_getElem? (i := 1637) (by decide +kernel)⟩
theorem lw_p132 : lw_okq (⟨"TypedDescent$BlockMachine", "step", "(I)V"⟩, 7) := ⟨⟨by decide +kernel, by decide +kernel⟩, List.mem_of_getElem? (i := 428) (by decide +kernel), List.mem_of_getElem? (i := 1649) (by decide +kernel), List.mem_of_getElem? (i := 1650) (by decide +kernel)⟩
theorem lw_p133 : lw_okq (⟨"TypedDescent$BlockMachine", "wordOf", "(II)I"⟩, 7) := ⟨⟨by decide +kernel, by decide +kernel⟩, List.mem_of_getElem? (i := 428) (by decide +kernel), List.mem_of_getElem? (i := 1665) (by decide +kernel), List.mem_of_getElem? (i := 1666) (by decide +kernel)⟩
theorem lw_p134 : lw_okq (⟨"TypedDescent$BlockMachine", "setRegister", "(II)V"⟩, 7) := ⟨⟨by decide +kernel, by decide +kernel⟩, List.mem_of_getElem? (i := 428) (by decide +kernel), List.mem_of_getElem? (i := 1679) (by decide +kernel), List.mem_of_getElem? (i := 1680) (by decide +kernel)⟩
theorem lw_p135 : lw_okq (⟨"TypedDescent$BlockMachine", "malloc", "(I)V"⟩, 7) := ⟨⟨by decide +kernel, by decide +kernel⟩, List.mem_of_getElem? (i := 428) (by decide +kernel), List.mem_of_getElem? (i := 1684) (by decide +kernel), List.mem_of_getElem? (i := 1685) (by decide +kernel)⟩
theorem lw_p136 : lw_okq (⟨"TypedDescent$BlockMachine", "leap", "(I)V"⟩, 7) := ⟨⟨by decide +kernel, by decide +kernel⟩, List.mem_of_getElem? (i := 428) (by decide +kernel), List.mem_of_getElem? (i := 1689) (by decide +kernel), List.mem_of_getElem? (i := 1690) (by decide +kernel)⟩
theorem lw_p137 : lw_okq (⟨"TypedDescent$BlockMachine", "operand", "(I)I"⟩, 7) := ⟨⟨by decide +kernel, by decide +kernel⟩, List.mem_of_getElem? (i := 428) (by decide +kernel), List.mem_of_getElem? (i := 1693) (by decide +kernel), List.mem_of_getElem? (i := 1694) (by decide +kernel)⟩
theorem lw_p138 : lw_okq (⟨"TypedDescent$BlockMachine", "computed", "(I)I"⟩, 7) := ⟨⟨by decide +kernel, by decide +kernel⟩, List.mem_of_getElem? (i := 428) (by decide +kernel), List.mem_of_getElem? (i := 1706) (by decide +kernel), List.mem_of_getElem? (i := 1707) (by decide +kernel)⟩
theorem lw_p139 : lw_okq (⟨"TypedDescent", "stepsDone", "()I"⟩, 16) := ⟨⟨by decide +kernel, by decide +kernel⟩, List.mem_of_getElem? (i := 24) (by decide +kernel), List.mem_of_getElem? (i := 1727) (by decide +kernel), List.mem_of_getElem? (i := 1728) (by decide +kernel)⟩
theorem lw_p140 : lw_okq (⟨"TypedDescent", "leapsDone", "()I"⟩, 16) := ⟨⟨by decide +kernel, by decide +kernel⟩, List.mem_of_getElem? (i := 24) (by decide +kernel), List.mem_of_getElem? (i := 1743) (by decide +kernel), List.mem_of_getElem? (i := 1744) (by decide +kernel)⟩
theorem lw_p141 : lw_okq (⟨"TypedDescentModel", "lay", "(I)V"⟩, 144) := ⟨⟨by decide +kernel, by decide +kernel⟩, List.mem_of_getElem? (i := 1768) (by decide +kernel), List.mem_of_getElem? (i := 2216) (by decide +kernel), List.mem_of_getElem? (i := 2217) (by decide +kernel)⟩
theorem lw_p142 : lw_okq (⟨"TypedDescentModel", "begin", "(ZI)V"⟩, 144) := ⟨⟨by decide +kernel, by decide +kernel⟩, List.mem_of_getElem? (i := 1768) (by decide +kernel), List.mem_of_getElem? (i := 2224) (by decide +kernel), List.mem_of_getElem? (i := 2225) (by decide +kernel)⟩
theorem lw_p143 : lw_okq (⟨"TypedDescentModel", "forget", "()V"⟩, 144) := ⟨⟨by decide +kernel, by decide +kernel⟩, List.mem_of_getElem? (i := 1768) (by decide +kernel), List.mem_of_getElem? (i := 2228) (by decide +kernel), List.mem_of_getElem? (i := 2229) (by decide +kernel)⟩
def lw_privs_9 : List (MethodName × Nat) := [(⟨"TypedDescent$ProgramMachine", "call", "(II)V"⟩, 12), (⟨"TypedDescent$ProgramMachine", "load", "(JI)I"⟩, 12), (⟨"TypedDescent$ProgramMachine", "comeBack", "(I)V"⟩, 12), (⟨"TypedDescent$ProgramMachine", "computed", "(I)I"⟩, 12), (⟨"TypedDescent$BlockMachine", "step", "(I)V"⟩, 7), (⟨"TypedDescent$BlockMachine", "wordOf", "(II)I"⟩, 7), (⟨"TypedDescent$BlockMachine", "setRegister", "(II)V"⟩, 7), (⟨"TypedDescent$BlockMachine", "malloc", "(I)V"⟩, 7), (⟨"TypedDescent$BlockMachine", "leap", "(I)V"⟩, 7), (⟨"TypedDescent$BlockMachine", "operand", "(I)I"⟩, 7), (⟨"TypedDescent$BlockMachine", "computed", "(I)I"⟩, 7), (⟨"TypedDescent", "stepsDone", "()I"⟩, 16), (⟨"TypedDescent", "leapsDone", "()I"⟩, 16), (⟨"TypedDescentModel", "lay", "(I)V"⟩, 144), (⟨"TypedDescentModel", "begin", "(ZI)V"⟩, 144), (⟨"TypedDescentModel", "forget", "()V"⟩, 144)]
theorem lw_r9 : ∀ q ∈ lw_privs_9, lw_okq q := List.forall_mem_cons.mpr ⟨lw_p128, List.forall_mem_cons.mpr ⟨lw_p129, List.forall_mem_cons.mpr ⟨lw_p130, List.forall_mem_cons.mpr ⟨lw_p131, List.forall_mem_cons.mpr ⟨lw_p132, List.forall_mem_cons.mpr ⟨lw_p133, List.forall_mem_cons.mpr ⟨lw_p134, List.forall_mem_cons.mpr ⟨lw_p135, List.forall_mem_cons.mpr ⟨lw_p136, List.forall_mem_cons.mpr ⟨lw_p137, List.forall_mem_cons.mpr ⟨lw_p138, List.forall_mem_cons.mpr ⟨lw_p139, List.forall_mem_cons.mpr ⟨lw_p140, List.forall_mem_cons.mpr ⟨lw_p141, List.forall_mem_cons.mpr ⟨lw_p142, List.forall_mem_cons.mpr ⟨lw_p143, fun _ h => absurd h List.not_mem_nil⟩⟩⟩⟩⟩⟩⟩⟩⟩⟩⟩⟩⟩⟩⟩⟩
theorem lw_p144 : lw_okq (⟨"TypedDescentModel", "pass", "()V"⟩, 144) := ⟨⟨by decide +kernel, by decide +kernel⟩, List.mem_of_getElem? (i := 1768) (by decide +kernel), List.mem_of_getElem? (i := 2232) (by decide +kernel), List.mem_of_getElem? (i := 2233) (by decide +kernel)⟩
theorem lw_p145 : lw_okq (⟨"TypedDescentModel", "goBack", "()V"⟩, 144) := ⟨⟨by decide +kernel, by decide +kernel⟩, List.mem_of_getElem? (i := 1768) (by decide +kernel), List.mem_of_getElem? (i := 2236) (by decide +kernel), List.mem_of_getElem? (i := 2237) (by decide +kernel)⟩
theorem lw_p146 : lw_okq (⟨"TypedDescentModel", "next", "()V"⟩, 144) := ⟨⟨by decide +kernel, by decide +kernel⟩, List.mem_of_getElem? (i := 1768) (by decide +kernel), List.mem_of_getElem? (i := 2240) (by decide +kernel), List.mem_of_getElem? (i := 2241) (by decide +kernel)⟩
theorem lw_p147 : lw_okq (⟨"TypedDescentModel", "wrong", "(II)V"⟩, 144) := ⟨⟨by decide +kernel, by decide +kernel⟩, List.mem_of_getElem? (i := 1768) (by decide +kernel), List.mem_of_getElem? (i := 2244) (by decide +kernel), List.mem_of_getElem? (i := 2245) (by decide +kernel)⟩
theorem lw_p148 : lw_okq (⟨"TypedDescentModel", "skip", "(I)I"⟩, 144) := ⟨⟨by decide +kernel, by decide +kernel⟩, List.mem_of_getElem? (i := 1768) (by decide +kernel), List.mem_of_getElem? (i := 2248) (by decide +kernel), List.mem_of_getElem? (i := 2249) (by decide +kernel)⟩
theorem lw_p149 : lw_okq (⟨"TypedDescentModel", "byteAt", "(I)I"⟩, 144) := ⟨⟨by decide +kernel, by decide +kernel⟩, List.mem_of_getElem? (i := 1768) (by decide +kernel), List.mem_of_getElem? (i := 2252) (by decide +kernel), List.mem_of_getElem? (i := 2253) (by decide +kernel)⟩
theorem lw_p150 : lw_okq (⟨"TypedDescentModel", "readName", "()V"⟩, 144) := ⟨⟨by decide +kernel, by decide +kernel⟩, List.mem_of_getElem? (i := 1768) (by decide +kernel), List.mem_of_getElem? (i := 2259) (by decide +kernel), List.mem_of_getElem? (i := 2260) (by decide +kernel)⟩
theorem lw_p151 : lw_okq (⟨"TypedDescentModel", "wordOf", "([C)I"⟩, 144) := ⟨⟨by decide +kernel, by decide +kernel⟩, List.mem_of_getElem? (i := 1768) (by decide +kernel), List.mem_of_getElem? (i := 2266) (by decide +kernel), List.mem_of_getElem? (i := 2267) (by decide +kernel)⟩
theorem lw_p152 : lw_okq (⟨"TypedDescentModel", "markRegister", "()V"⟩, 144) := ⟨⟨by decide +kernel, by decide +kernel⟩, List.mem_of_getElem? (i := 1768) (by decide +kernel), List.mem_of_getElem? (i := 2270) (by decide +kernel), List.mem_of_getElem? (i := 2271) (by decide +kernel)⟩
theorem lw_p153 : lw_okq (⟨"TypedDescentModel", "readNumber", "()V"⟩, 144) := ⟨⟨by decide +kernel, by decide +kernel⟩, List.mem_of_getElem? (i := 1768) (by decide +kernel), List.mem_of_getElem? (i := 2274) (by decide +kernel), List.mem_of_getElem? (i := 2275) (by decide +kernel)⟩
theorem lw_p154 : lw_okq (⟨"TypedDescentModel", "readSign", "(I)V"⟩, 144) := ⟨⟨by decide +kernel, by decide +kernel⟩, List.mem_of_getElem? (i := 1768) (by decide +kernel), List.mem_of_getElem? (i := 2281) (by decide +kernel), List.mem_of_getElem? (i := 2282) (by decide +kernel)⟩
theorem lw_p155 : lw_okq (⟨"TypedDescentModel", "newKind", "()I"⟩, 144) := ⟨⟨by decide +kernel, by decide +kernel⟩, List.mem_of_getElem? (i := 1768) (by decide +kernel), List.mem_of_getElem? (i := 2285) (by decide +kernel), List.mem_of_getElem? (i := 2286) (by decide +kernel)⟩
theorem lw_p156 : lw_okq (⟨"TypedDescentModel", "addPart", "(I)V"⟩, 144) := ⟨⟨by decide +kernel, by decide +kernel⟩, List.mem_of_getElem? (i := 1768) (by decide +kernel), List.mem_of_getElem? (i := 2289) (by decide +kernel), List.mem_of_getElem? (i := 2290) (by decide +kernel)⟩
theorem lw_p157 : lw_okq (⟨"TypedDescentModel", "endKind", "(I)I"⟩, 144) := ⟨⟨by decide +kernel, by decide +kernel⟩, List.mem_of_getElem? (i := 1768) (by decide +kernel), List.mem_of_getElem? (i := 2293) (by decide +kernel), List.mem_of_getElem? (i := 2294) (by decide +kernel)⟩
theorem lw_p158 : lw_okq (⟨"TypedDescentModel", "expression", "()I"⟩, 144) := ⟨⟨by decide +kernel, by decide +kernel⟩, List.mem_of_getElem? (i := 1768) (by decide +kernel), List.mem_of_getElem? (i := 2297) (by decide +kernel), List.mem_of_getElem? (i := 2298) (by decide +kernel)⟩
theorem lw_p159 : lw_okq (⟨"TypedDescentModel", "stopped", "()Z"⟩, 144) := ⟨⟨by decide +kernel, by decide +kernel⟩, List.mem_of_getElem? (i := 1768) (by decide +kernel), List.mem_of_getElem? (i := 2301) (by decide +kernel), List.mem_of_getElem? (i := 2302) (by decide +kernel)⟩
def lw_privs_10 : List (MethodName × Nat) := [(⟨"TypedDescentModel", "pass", "()V"⟩, 144), (⟨"TypedDescentModel", "goBack", "()V"⟩, 144), (⟨"TypedDescentModel", "next", "()V"⟩, 144), (⟨"TypedDescentModel", "wrong", "(II)V"⟩, 144), (⟨"TypedDescentModel", "skip", "(I)I"⟩, 144), (⟨"TypedDescentModel", "byteAt", "(I)I"⟩, 144), (⟨"TypedDescentModel", "readName", "()V"⟩, 144), (⟨"TypedDescentModel", "wordOf", "([C)I"⟩, 144), (⟨"TypedDescentModel", "markRegister", "()V"⟩, 144), (⟨"TypedDescentModel", "readNumber", "()V"⟩, 144), (⟨"TypedDescentModel", "readSign", "(I)V"⟩, 144), (⟨"TypedDescentModel", "newKind", "()I"⟩, 144), (⟨"TypedDescentModel", "addPart", "(I)V"⟩, 144), (⟨"TypedDescentModel", "endKind", "(I)I"⟩, 144), (⟨"TypedDescentModel", "expression", "()I"⟩, 144), (⟨"TypedDescentModel", "stopped", "()Z"⟩, 144)]
theorem lw_r10 : ∀ q ∈ lw_privs_10, lw_okq q := List.forall_mem_cons.mpr ⟨lw_p144, List.forall_mem_cons.mpr ⟨lw_p145, List.forall_mem_cons.mpr ⟨lw_p146, List.forall_mem_cons.mpr ⟨lw_p147, List.forall_mem_cons.mpr ⟨lw_p148, List.forall_mem_cons.mpr ⟨lw_p149, List.forall_mem_cons.mpr ⟨lw_p150, List.forall_mem_cons.mpr ⟨lw_p151, List.forall_mem_cons.mpr ⟨lw_p152, List.forall_mem_cons.mpr ⟨lw_p153, List.forall_mem_cons.mpr ⟨lw_p154, List.forall_mem_cons.mpr ⟨lw_p155, List.forall_mem_cons.mpr ⟨lw_p156, List.forall_mem_cons.mpr ⟨lw_p157, List.forall_mem_cons.mpr ⟨lw_p158, List.forall_mem_cons.mpr ⟨lw_p159, fun _ h => absurd h List.not_mem_nil⟩⟩⟩⟩⟩⟩⟩⟩⟩⟩⟩⟩⟩⟩⟩⟩
theorem lw_p160 : lw_okq (⟨"TypedDescentModel", "word", "(I)Z"⟩, 144) := ⟨⟨by decide +kernel, by decide +kernel⟩, List.mem_of_getElem? (i := 1768) (by decide +kernel), List.mem_of_getElem? (i := 2305) (by decide +kernel), List.mem_of_getElem? (i := 2306) (by decide +kernel)⟩
theorem lw_p161 : lw_okq (⟨"TypedDescentModel", "function", "()I"⟩, 144) := ⟨⟨by decide +kernel, by decide +kernel⟩, List.mem_of_getElem? (i := 1768) (by decide +kernel), List.mem_of_getElem? (i := 2309) (by decide +kernel), List.mem_of_getElem? (i := 2310) (by decide +kernel)⟩
theorem lw_p162 : lw_okq (⟨"TypedDescentModel", "enter", "()V"⟩, 144) := ⟨⟨by decide +kernel, by decide +kernel⟩, List.mem_of_getElem? (i := 1768) (by decide +kernel), List.mem_of_getElem? (i := 2313) (by decide +kernel), List.mem_of_getElem? (i := 2314) (by decide +kernel)⟩
theorem lw_p163 : lw_okq (⟨"TypedDescentModel", "name", "()V"⟩, 144) := ⟨⟨by decide +kernel, by decide +kernel⟩, List.mem_of_getElem? (i := 1768) (by decide +kernel), List.mem_of_getElem? (i := 2317) (by decide +kernel), List.mem_of_getElem? (i := 2318) (by decide +kernel)⟩
theorem lw_p164 : lw_okq (⟨"TypedDescentModel", "syntax", "()V"⟩, 144) := ⟨⟨by decide +kernel, by decide +kernel⟩, List.mem_of_getElem? (i := 1768) (by decide +kernel), List.mem_of_getElem? (i := 2321) (by decide +kernel), List.mem_of_getElem? (i := 2322) (by decide +kernel)⟩
theorem lw_p165 : lw_okq (⟨"TypedDescentModel", "expect", "(I)V"⟩, 144) := ⟨⟨by decide +kernel, by decide +kernel⟩, List.mem_of_getElem? (i := 1768) (by decide +kernel), List.mem_of_getElem? (i := 2325) (by decide +kernel), List.mem_of_getElem? (i := 2326) (by decide +kernel)⟩
theorem lw_p166 : lw_okq (⟨"TypedDescentModel", "sign", "(I)Z"⟩, 144) := ⟨⟨by decide +kernel, by decide +kernel⟩, List.mem_of_getElem? (i := 1768) (by decide +kernel), List.mem_of_getElem? (i := 2329) (by decide +kernel), List.mem_of_getElem? (i := 2330) (by decide +kernel)⟩
theorem lw_p167 : lw_okq (⟨"TypedDescentModel", "type", "()I"⟩, 144) := ⟨⟨by decide +kernel, by decide +kernel⟩, List.mem_of_getElem? (i := 1768) (by decide +kernel), List.mem_of_getElem? (i := 2333) (by decide +kernel), List.mem_of_getElem? (i := 2334) (by decide +kernel)⟩
theorem lw_p168 : lw_okq (⟨"TypedDescentModel", "arrows", "()V"⟩, 144) := ⟨⟨by decide +kernel, by decide +kernel⟩, List.mem_of_getElem? (i := 1768) (by decide +kernel), List.mem_of_getElem? (i := 2337) (by decide +kernel), List.mem_of_getElem? (i := 2338) (by decide +kernel)⟩
theorem lw_p169 : lw_okq (⟨"TypedDescentModel", "under", "()V"⟩, 144) := ⟨⟨by decide +kernel, by decide +kernel⟩, List.mem_of_getElem? (i := 1768) (by decide +kernel), List.mem_of_getElem? (i := 2341) (by decide +kernel), List.mem_of_getElem? (i := 2342) (by decide +kernel)⟩
theorem lw_p170 : lw_okq (⟨"TypedDescentModel", "typeName", "()V"⟩, 144) := ⟨⟨by decide +kernel, by decide +kernel⟩, List.mem_of_getElem? (i := 1768) (by decide +kernel), List.mem_of_getElem? (i := 2345) (by decide +kernel), List.mem_of_getElem? (i := 2346) (by decide +kernel)⟩
theorem lw_p171 : lw_okq (⟨"TypedDescentModel", "note", "(II)V"⟩, 144) := ⟨⟨by decide +kernel, by decide +kernel⟩, List.mem_of_getElem? (i := 1768) (by decide +kernel), List.mem_of_getElem? (i := 2349) (by decide +kernel), List.mem_of_getElem? (i := 2350) (by decide +kernel)⟩
theorem lw_p172 : lw_okq (⟨"TypedDescentModel", "addType", "(JII)V"⟩, 144) := ⟨⟨by decide +kernel, by decide +kernel⟩, List.mem_of_getElem? (i := 1768) (by decide +kernel), List.mem_of_getElem? (i := 2353) (by decide +kernel), List.mem_of_getElem? (i := 2354) (by decide +kernel)⟩
theorem lw_p173 : lw_okq (⟨"TypedDescentModel", "leave", "()V"⟩, 144) := ⟨⟨by decide +kernel, by decide +kernel⟩, List.mem_of_getElem? (i := 1768) (by decide +kernel), List.mem_of_getElem? (i := 2357) (by decide +kernel), List.mem_of_getElem? (i := 2358) (by decide +kernel)⟩
theorem lw_p174 : lw_okq (⟨"TypedDescentModel", "accept", "(I)Z"⟩, 144) := ⟨⟨by decide +kernel, by decide +kernel⟩, List.mem_of_getElem? (i := 1768) (by decide +kernel), List.mem_of_getElem? (i := 2361) (by decide +kernel), List.mem_of_getElem? (i := 2362) (by decide +kernel)⟩
theorem lw_p175 : lw_okq (⟨"TypedDescentModel", "leaveBy", "(I)V"⟩, 144) := ⟨⟨by decide +kernel, by decide +kernel⟩, List.mem_of_getElem? (i := 1768) (by decide +kernel), List.mem_of_getElem? (i := 2365) (by decide +kernel), List.mem_of_getElem? (i := 2366) (by decide +kernel)⟩
def lw_privs_11 : List (MethodName × Nat) := [(⟨"TypedDescentModel", "word", "(I)Z"⟩, 144), (⟨"TypedDescentModel", "function", "()I"⟩, 144), (⟨"TypedDescentModel", "enter", "()V"⟩, 144), (⟨"TypedDescentModel", "name", "()V"⟩, 144), (⟨"TypedDescentModel", "syntax", "()V"⟩, 144), (⟨"TypedDescentModel", "expect", "(I)V"⟩, 144), (⟨"TypedDescentModel", "sign", "(I)Z"⟩, 144), (⟨"TypedDescentModel", "type", "()I"⟩, 144), (⟨"TypedDescentModel", "arrows", "()V"⟩, 144), (⟨"TypedDescentModel", "under", "()V"⟩, 144), (⟨"TypedDescentModel", "typeName", "()V"⟩, 144), (⟨"TypedDescentModel", "note", "(II)V"⟩, 144), (⟨"TypedDescentModel", "addType", "(JII)V"⟩, 144), (⟨"TypedDescentModel", "leave", "()V"⟩, 144), (⟨"TypedDescentModel", "accept", "(I)Z"⟩, 144), (⟨"TypedDescentModel", "leaveBy", "(I)V"⟩, 144)]
theorem lw_r11 : ∀ q ∈ lw_privs_11, lw_okq q := List.forall_mem_cons.mpr ⟨lw_p160, List.forall_mem_cons.mpr ⟨lw_p161, List.forall_mem_cons.mpr ⟨lw_p162, List.forall_mem_cons.mpr ⟨lw_p163, List.forall_mem_cons.mpr ⟨lw_p164, List.forall_mem_cons.mpr ⟨lw_p165, List.forall_mem_cons.mpr ⟨lw_p166, List.forall_mem_cons.mpr ⟨lw_p167, List.forall_mem_cons.mpr ⟨lw_p168, List.forall_mem_cons.mpr ⟨lw_p169, List.forall_mem_cons.mpr ⟨lw_p170, List.forall_mem_cons.mpr ⟨lw_p171, List.forall_mem_cons.mpr ⟨lw_p172, List.forall_mem_cons.mpr ⟨lw_p173, List.forall_mem_cons.mpr ⟨lw_p174, List.forall_mem_cons.mpr ⟨lw_p175, fun _ h => absurd h List.not_mem_nil⟩⟩⟩⟩⟩⟩⟩⟩⟩⟩⟩⟩⟩⟩⟩⟩
theorem lw_p176 : lw_okq (⟨"TypedDescentModel", "openBody", "(I)I"⟩, 144) := ⟨⟨by decide +kernel, by decide +kernel⟩, List.mem_of_getElem? (i := 1768) (by decide +kernel), List.mem_of_getElem? (i := 2369) (by decide +kernel), List.mem_of_getElem? (i := 2370) (by decide +kernel)⟩
theorem lw_p177 : lw_okq (⟨"TypedDescentModel", "emit", "(II)I"⟩, 144) := ⟨⟨by decide +kernel, by decide +kernel⟩, List.mem_of_getElem? (i := 1768) (by decide +kernel), List.mem_of_getElem? (i := 2373) (by decide +kernel), List.mem_of_getElem? (i := 2374) (by decide +kernel)⟩
theorem lw_p178 : lw_okq (⟨"TypedDescentModel", "addVariable", "(JII)V"⟩, 144) := ⟨⟨by decide +kernel, by decide +kernel⟩, List.mem_of_getElem? (i := 1768) (by decide +kernel), List.mem_of_getElem? (i := 2377) (by decide +kernel), List.mem_of_getElem? (i := 2378) (by decide +kernel)⟩
theorem lw_p179 : lw_okq (⟨"TypedDescentModel", "endBody", "(I)V"⟩, 144) := ⟨⟨by decide +kernel, by decide +kernel⟩, List.mem_of_getElem? (i := 1768) (by decide +kernel), List.mem_of_getElem? (i := 2381) (by decide +kernel), List.mem_of_getElem? (i := 2382) (by decide +kernel)⟩
theorem lw_p180 : lw_okq (⟨"TypedDescentModel", "finishBody", "(II)V"⟩, 144) := ⟨⟨by decide +kernel, by decide +kernel⟩, List.mem_of_getElem? (i := 1768) (by decide +kernel), List.mem_of_getElem? (i := 2385) (by decide +kernel), List.mem_of_getElem? (i := 2386) (by decide +kernel)⟩
theorem lw_p181 : lw_okq (⟨"TypedDescentModel", "behind", "(I)I"⟩, 144) := ⟨⟨by decide +kernel, by decide +kernel⟩, List.mem_of_getElem? (i := 1768) (by decide +kernel), List.mem_of_getElem? (i := 2389) (by decide +kernel), List.mem_of_getElem? (i := 2390) (by decide +kernel)⟩
theorem lw_p182 : lw_okq (⟨"TypedDescentModel", "waiting", "(II)V"⟩, 144) := ⟨⟨by decide +kernel, by decide +kernel⟩, List.mem_of_getElem? (i := 1768) (by decide +kernel), List.mem_of_getElem? (i := 2394) (by decide +kernel), List.mem_of_getElem? (i := 2395) (by decide +kernel)⟩
theorem lw_p183 : lw_okq (⟨"TypedDescentModel", "keeps", "(III)V"⟩, 144) := ⟨⟨by decide +kernel, by decide +kernel⟩, List.mem_of_getElem? (i := 1768) (by decide +kernel), List.mem_of_getElem? (i := 2398) (by decide +kernel), List.mem_of_getElem? (i := 2399) (by decide +kernel)⟩
theorem lw_p184 : lw_okq (⟨"TypedDescentModel", "arrow", "(III)I"⟩, 144) := ⟨⟨by decide +kernel, by decide +kernel⟩, List.mem_of_getElem? (i := 1768) (by decide +kernel), List.mem_of_getElem? (i := 2403) (by decide +kernel), List.mem_of_getElem? (i := 2404) (by decide +kernel)⟩
theorem lw_p185 : lw_okq (⟨"TypedDescentModel", "arrowOf", "(II)I"⟩, 144) := ⟨⟨by decide +kernel, by decide +kernel⟩, List.mem_of_getElem? (i := 1768) (by decide +kernel), List.mem_of_getElem? (i := 2407) (by decide +kernel), List.mem_of_getElem? (i := 2408) (by decide +kernel)⟩
theorem lw_p186 : lw_okq (⟨"TypedDescentModel", "addKind", "(I)V"⟩, 144) := ⟨⟨by decide +kernel, by decide +kernel⟩, List.mem_of_getElem? (i := 1768) (by decide +kernel), List.mem_of_getElem? (i := 2411) (by decide +kernel), List.mem_of_getElem? (i := 2412) (by decide +kernel)⟩
theorem lw_p187 : lw_okq (⟨"TypedDescentModel", "fixed", "()I"⟩, 144) := ⟨⟨by decide +kernel, by decide +kernel⟩, List.mem_of_getElem? (i := 1768) (by decide +kernel), List.mem_of_getElem? (i := 2415) (by decide +kernel), List.mem_of_getElem? (i := 2416) (by decide +kernel)⟩
theorem lw_p188 : lw_okq (⟨"TypedDescentModel", "enterBy", "(I)V"⟩, 144) := ⟨⟨by decide +kernel, by decide +kernel⟩, List.mem_of_getElem? (i := 1768) (by decide +kernel), List.mem_of_getElem? (i := 2419) (by decide +kernel), List.mem_of_getElem? (i := 2420) (by decide +kernel)⟩
theorem lw_p189 : lw_okq (⟨"TypedDescentModel", "isLike", "(II)Z"⟩, 144) := ⟨⟨by decide +kernel, by decide +kernel⟩, List.mem_of_getElem? (i := 1768) (by decide +kernel), List.mem_of_getElem? (i := 2423) (by decide +kernel), List.mem_of_getElem? (i := 2424) (by decide +kernel)⟩
theorem lw_p190 : lw_okq (⟨"TypedDescentModel", "typed", "()I"⟩, 144) := ⟨⟨by decide +kernel, by decide +kernel⟩, List.mem_of_getElem? (i := 1768) (by decide +kernel), List.mem_of_getElem? (i := 2427) (by decide +kernel), List.mem_of_getElem? (i := 2428) (by decide +kernel)⟩
theorem lw_p191 : lw_okq (⟨"TypedDescentModel", "allOf", "(II)I"⟩, 144) := ⟨⟨by decide +kernel, by decide +kernel⟩, List.mem_of_getElem? (i := 1768) (by decide +kernel), List.mem_of_getElem? (i := 2431) (by decide +kernel), List.mem_of_getElem? (i := 2432) (by decide +kernel)⟩
def lw_privs_12 : List (MethodName × Nat) := [(⟨"TypedDescentModel", "openBody", "(I)I"⟩, 144), (⟨"TypedDescentModel", "emit", "(II)I"⟩, 144), (⟨"TypedDescentModel", "addVariable", "(JII)V"⟩, 144), (⟨"TypedDescentModel", "endBody", "(I)V"⟩, 144), (⟨"TypedDescentModel", "finishBody", "(II)V"⟩, 144), (⟨"TypedDescentModel", "behind", "(I)I"⟩, 144), (⟨"TypedDescentModel", "waiting", "(II)V"⟩, 144), (⟨"TypedDescentModel", "keeps", "(III)V"⟩, 144), (⟨"TypedDescentModel", "arrow", "(III)I"⟩, 144), (⟨"TypedDescentModel", "arrowOf", "(II)I"⟩, 144), (⟨"TypedDescentModel", "addKind", "(I)V"⟩, 144), (⟨"TypedDescentModel", "fixed", "()I"⟩, 144), (⟨"TypedDescentModel", "enterBy", "(I)V"⟩, 144), (⟨"TypedDescentModel", "isLike", "(II)Z"⟩, 144), (⟨"TypedDescentModel", "typed", "()I"⟩, 144), (⟨"TypedDescentModel", "allOf", "(II)I"⟩, 144)]
theorem lw_r12 : ∀ q ∈ lw_privs_12, lw_okq q := List.forall_mem_cons.mpr ⟨lw_p176, List.forall_mem_cons.mpr ⟨lw_p177, List.forall_mem_cons.mpr ⟨lw_p178, List.forall_mem_cons.mpr ⟨lw_p179, List.forall_mem_cons.mpr ⟨lw_p180, List.forall_mem_cons.mpr ⟨lw_p181, List.forall_mem_cons.mpr ⟨lw_p182, List.forall_mem_cons.mpr ⟨lw_p183, List.forall_mem_cons.mpr ⟨lw_p184, List.forall_mem_cons.mpr ⟨lw_p185, List.forall_mem_cons.mpr ⟨lw_p186, List.forall_mem_cons.mpr ⟨lw_p187, List.forall_mem_cons.mpr ⟨lw_p188, List.forall_mem_cons.mpr ⟨lw_p189, List.forall_mem_cons.mpr ⟨lw_p190, List.forall_mem_cons.mpr ⟨lw_p191, fun _ h => absurd h List.not_mem_nil⟩⟩⟩⟩⟩⟩⟩⟩⟩⟩⟩⟩⟩⟩⟩⟩
theorem lw_p192 : lw_okq (⟨"TypedDescentModel", "endOf", "(I)I"⟩, 144) := ⟨⟨by decide +kernel, by decide +kernel⟩, List.mem_of_getElem? (i := 1768) (by decide +kernel), List.mem_of_getElem? (i := 2435) (by decide +kernel), List.mem_of_getElem? (i := 2436) (by decide +kernel)⟩
theorem lw_p193 : lw_okq (⟨"TypedDescentModel", "let", "()I"⟩, 144) := ⟨⟨by decide +kernel, by decide +kernel⟩, List.mem_of_getElem? (i := 1768) (by decide +kernel), List.mem_of_getElem? (i := 2439) (by decide +kernel), List.mem_of_getElem? (i := 2440) (by decide +kernel)⟩
theorem lw_p194 : lw_okq (⟨"TypedDescentModel", "expectWord", "(I)V"⟩, 144) := ⟨⟨by decide +kernel, by decide +kernel⟩, List.mem_of_getElem? (i := 1768) (by decide +kernel), List.mem_of_getElem? (i := 2443) (by decide +kernel), List.mem_of_getElem? (i := 2444) (by decide +kernel)⟩
theorem lw_p195 : lw_okq (⟨"TypedDescentModel", "sums", "()I"⟩, 144) := ⟨⟨by decide +kernel, by decide +kernel⟩, List.mem_of_getElem? (i := 1768) (by decide +kernel), List.mem_of_getElem? (i := 2447) (by decide +kernel), List.mem_of_getElem? (i := 2448) (by decide +kernel)⟩
theorem lw_p196 : lw_okq (⟨"TypedDescentModel", "products", "()I"⟩, 144) := ⟨⟨by decide +kernel, by decide +kernel⟩, List.mem_of_getElem? (i := 1768) (by decide +kernel), List.mem_of_getElem? (i := 2451) (by decide +kernel), List.mem_of_getElem? (i := 2452) (by decide +kernel)⟩
theorem lw_p197 : lw_okq (⟨"TypedDescentModel", "calls", "()I"⟩, 144) := ⟨⟨by decide +kernel, by decide +kernel⟩, List.mem_of_getElem? (i := 1768) (by decide +kernel), List.mem_of_getElem? (i := 2455) (by decide +kernel), List.mem_of_getElem? (i := 2456) (by decide +kernel)⟩
theorem lw_p198 : lw_okq (⟨"TypedDescentModel", "first", "()I"⟩, 144) := ⟨⟨by decide +kernel, by decide +kernel⟩, List.mem_of_getElem? (i := 1768) (by decide +kernel), List.mem_of_getElem? (i := 2459) (by decide +kernel), List.mem_of_getElem? (i := 2460) (by decide +kernel)⟩
theorem lw_p199 : lw_okq (⟨"TypedDescentModel", "variable", "()I"⟩, 144) := ⟨⟨by decide +kernel, by decide +kernel⟩, List.mem_of_getElem? (i := 1768) (by decide +kernel), List.mem_of_getElem? (i := 2463) (by decide +kernel), List.mem_of_getElem? (i := 2464) (by decide +kernel)⟩
theorem lw_p200 : lw_okq (⟨"TypedDescentModel", "fit", "(II)I"⟩, 144) := ⟨⟨by decide +kernel, by decide +kernel⟩, List.mem_of_getElem? (i := 1768) (by decide +kernel), List.mem_of_getElem? (i := 2467) (by decide +kernel), List.mem_of_getElem? (i := 2468) (by decide +kernel)⟩
theorem lw_p201 : lw_okq (⟨"TypedDescentModel", "tuple", "()I"⟩, 144) := ⟨⟨by decide +kernel, by decide +kernel⟩, List.mem_of_getElem? (i := 1768) (by decide +kernel), List.mem_of_getElem? (i := 2471) (by decide +kernel), List.mem_of_getElem? (i := 2472) (by decide +kernel)⟩
theorem lw_p202 : lw_okq (⟨"TypedDescentModel", "isFirst", "()Z"⟩, 144) := ⟨⟨by decide +kernel, by decide +kernel⟩, List.mem_of_getElem? (i := 1768) (by decide +kernel), List.mem_of_getElem? (i := 2475) (by decide +kernel), List.mem_of_getElem? (i := 2476) (by decide +kernel)⟩
theorem lw_p203 : lw_okq (⟨"TypedDescentModel", "field", "()I"⟩, 144) := ⟨⟨by decide +kernel, by decide +kernel⟩, List.mem_of_getElem? (i := 1768) (by decide +kernel), List.mem_of_getElem? (i := 2479) (by decide +kernel), List.mem_of_getElem? (i := 2480) (by decide +kernel)⟩
theorem lw_p204 : lw_okq (⟨"TypedDescentModel", "headOf", "(I)I"⟩, 144) := ⟨⟨by decide +kernel, by decide +kernel⟩, List.mem_of_getElem? (i := 1768) (by decide +kernel), List.mem_of_getElem? (i := 2483) (by decide +kernel), List.mem_of_getElem? (i := 2484) (by decide +kernel)⟩
theorem lw_p205 : lw_okq (⟨"TypedDescentModel", "copyParts", "(II)I"⟩, 144) := ⟨⟨by decide +kernel, by decide +kernel⟩, List.mem_of_getElem? (i := 1768) (by decide +kernel), List.mem_of_getElem? (i := 2487) (by decide +kernel), List.mem_of_getElem? (i := 2488) (by decide +kernel)⟩
theorem lw_p206 : lw_okq (⟨"TypedDescentModel", "choice", "()I"⟩, 144) := ⟨⟨by decide +kernel, by decide +kernel⟩, List.mem_of_getElem? (i := 1768) (by decide +kernel), List.mem_of_getElem? (i := 2491) (by decide +kernel), List.mem_of_getElem? (i := 2492) (by decide +kernel)⟩
theorem lw_p207 : lw_okq (⟨"TypedDescentModel", "mustBeInt", "(II)Z"⟩, 144) := ⟨⟨by decide +kernel, by decide +kernel⟩, List.mem_of_getElem? (i := 1768) (by decide +kernel), List.mem_of_getElem? (i := 2495) (by decide +kernel), List.mem_of_getElem? (i := 2496) (by decide +kernel)⟩
def lw_privs_13 : List (MethodName × Nat) := [(⟨"TypedDescentModel", "endOf", "(I)I"⟩, 144), (⟨"TypedDescentModel", "let", "()I"⟩, 144), (⟨"TypedDescentModel", "expectWord", "(I)V"⟩, 144), (⟨"TypedDescentModel", "sums", "()I"⟩, 144), (⟨"TypedDescentModel", "products", "()I"⟩, 144), (⟨"TypedDescentModel", "calls", "()I"⟩, 144), (⟨"TypedDescentModel", "first", "()I"⟩, 144), (⟨"TypedDescentModel", "variable", "()I"⟩, 144), (⟨"TypedDescentModel", "fit", "(II)I"⟩, 144), (⟨"TypedDescentModel", "tuple", "()I"⟩, 144), (⟨"TypedDescentModel", "isFirst", "()Z"⟩, 144), (⟨"TypedDescentModel", "field", "()I"⟩, 144), (⟨"TypedDescentModel", "headOf", "(I)I"⟩, 144), (⟨"TypedDescentModel", "copyParts", "(II)I"⟩, 144), (⟨"TypedDescentModel", "choice", "()I"⟩, 144), (⟨"TypedDescentModel", "mustBeInt", "(II)Z"⟩, 144)]
theorem lw_r13 : ∀ q ∈ lw_privs_13, lw_okq q := List.forall_mem_cons.mpr ⟨lw_p192, List.forall_mem_cons.mpr ⟨lw_p193, List.forall_mem_cons.mpr ⟨lw_p194, List.forall_mem_cons.mpr ⟨lw_p195, List.forall_mem_cons.mpr ⟨lw_p196, List.forall_mem_cons.mpr ⟨lw_p197, List.forall_mem_cons.mpr ⟨lw_p198, List.forall_mem_cons.mpr ⟨lw_p199, List.forall_mem_cons.mpr ⟨lw_p200, List.forall_mem_cons.mpr ⟨lw_p201, List.forall_mem_cons.mpr ⟨lw_p202, List.forall_mem_cons.mpr ⟨lw_p203, List.forall_mem_cons.mpr ⟨lw_p204, List.forall_mem_cons.mpr ⟨lw_p205, List.forall_mem_cons.mpr ⟨lw_p206, List.forall_mem_cons.mpr ⟨lw_p207, fun _ h => absurd h List.not_mem_nil⟩⟩⟩⟩⟩⟩⟩⟩⟩⟩⟩⟩⟩⟩⟩⟩
theorem lw_p208 : lw_okq (⟨"TypedDescentModel", "isInt", "(I)Z"⟩, 144) := ⟨⟨by decide +kernel, by decide +kernel⟩, List.mem_of_getElem? (i := 1768) (by decide +kernel), List.mem_of_getElem? (i := 2499) (by decide +kernel), List.mem_of_getElem? (i := 2500) (by decide +kernel)⟩
theorem lw_p209 : lw_okq (⟨"TypedDescentModel", "typeCall", "(II)I"⟩, 144) := ⟨⟨by decide +kernel, by decide +kernel⟩, List.mem_of_getElem? (i := 1768) (by decide +kernel), List.mem_of_getElem? (i := 2503) (by decide +kernel), List.mem_of_getElem? (i := 2504) (by decide +kernel)⟩
theorem lw_p210 : lw_okq (⟨"TypedDescentModel", "inPlace", "(IIZ)I"⟩, 144) := ⟨⟨by decide +kernel, by decide +kernel⟩, List.mem_of_getElem? (i := 1768) (by decide +kernel), List.mem_of_getElem? (i := 2507) (by decide +kernel), List.mem_of_getElem? (i := 2508) (by decide +kernel)⟩
theorem lw_p211 : lw_okq (⟨"TypedDescentModel", "call", "(II)I"⟩, 144) := ⟨⟨by decide +kernel, by decide +kernel⟩, List.mem_of_getElem? (i := 1768) (by decide +kernel), List.mem_of_getElem? (i := 2511) (by decide +kernel), List.mem_of_getElem? (i := 2512) (by decide +kernel)⟩
theorem lw_p212 : lw_okq (⟨"TypedDescentModel", "answer", "()I"⟩, 144) := ⟨⟨by decide +kernel, by decide +kernel⟩, List.mem_of_getElem? (i := 1768) (by decide +kernel), List.mem_of_getElem? (i := 2515) (by decide +kernel), List.mem_of_getElem? (i := 2516) (by decide +kernel)⟩
theorem lw_p213 : lw_okq (⟨"TypedDescentModel", "showAll", "(I)V"⟩, 144) := ⟨⟨by decide +kernel, by decide +kernel⟩, List.mem_of_getElem? (i := 1768) (by decide +kernel), List.mem_of_getElem? (i := 2523) (by decide +kernel), List.mem_of_getElem? (i := 2524) (by decide +kernel)⟩
theorem lw_p214 : lw_okq (⟨"TypedDescentModel", "later", "(IIZ)V"⟩, 144) := ⟨⟨by decide +kernel, by decide +kernel⟩, List.mem_of_getElem? (i := 1768) (by decide +kernel), List.mem_of_getElem? (i := 2527) (by decide +kernel), List.mem_of_getElem? (i := 2528) (by decide +kernel)⟩
theorem lw_p215 : lw_okq (⟨"TypedDescentModel", "show", "(I)V"⟩, 144) := ⟨⟨by decide +kernel, by decide +kernel⟩, List.mem_of_getElem? (i := 1768) (by decide +kernel), List.mem_of_getElem? (i := 2531) (by decide +kernel), List.mem_of_getElem? (i := 2532) (by decide +kernel)⟩
theorem lw_p216 : lw_okq (⟨"TypedDescentModel", "showPart", "(IIZ)V"⟩, 144) := ⟨⟨by decide +kernel, by decide +kernel⟩, List.mem_of_getElem? (i := 1768) (by decide +kernel), List.mem_of_getElem? (i := 2535) (by decide +kernel), List.mem_of_getElem? (i := 2536) (by decide +kernel)⟩
theorem lw_p217 : lw_okq (⟨"TypedDescentModel", "showName", "(I)V"⟩, 144) := ⟨⟨by decide +kernel, by decide +kernel⟩, List.mem_of_getElem? (i := 1768) (by decide +kernel), List.mem_of_getElem? (i := 2539) (by decide +kernel), List.mem_of_getElem? (i := 2540) (by decide +kernel)⟩
theorem lw_p218 : lw_okq (⟨"TypedDescentModel", "showTuple", "(III)V"⟩, 144) := ⟨⟨by decide +kernel, by decide +kernel⟩, List.mem_of_getElem? (i := 1768) (by decide +kernel), List.mem_of_getElem? (i := 2543) (by decide +kernel), List.mem_of_getElem? (i := 2544) (by decide +kernel)⟩
theorem lw_p219 : lw_okq (⟨"TypedDescentModel", "newNode", "(IIII)I"⟩, 144) := ⟨⟨by decide +kernel, by decide +kernel⟩, List.mem_of_getElem? (i := 1768) (by decide +kernel), List.mem_of_getElem? (i := 2551) (by decide +kernel), List.mem_of_getElem? (i := 2552) (by decide +kernel)⟩
theorem lw_p220 : lw_okq (⟨"TypedDescentModel", "blockPass", "()V"⟩, 144) := ⟨⟨by decide +kernel, by decide +kernel⟩, List.mem_of_getElem? (i := 1768) (by decide +kernel), List.mem_of_getElem? (i := 2555) (by decide +kernel), List.mem_of_getElem? (i := 2556) (by decide +kernel)⟩
theorem lw_p221 : lw_okq (⟨"TypedDescentModel", "block", "()V"⟩, 144) := ⟨⟨by decide +kernel, by decide +kernel⟩, List.mem_of_getElem? (i := 1768) (by decide +kernel), List.mem_of_getElem? (i := 2559) (by decide +kernel), List.mem_of_getElem? (i := 2560) (by decide +kernel)⟩
theorem lw_p222 : lw_okq (⟨"TypedDescentModel", "labelOf", "(JII)I"⟩, 144) := ⟨⟨by decide +kernel, by decide +kernel⟩, List.mem_of_getElem? (i := 1768) (by decide +kernel), List.mem_of_getElem? (i := 2563) (by decide +kernel), List.mem_of_getElem? (i := 2564) (by decide +kernel)⟩
theorem lw_p223 : lw_okq (⟨"TypedDescentModel", "vars", "()I"⟩, 144) := ⟨⟨by decide +kernel, by decide +kernel⟩, List.mem_of_getElem? (i := 1768) (by decide +kernel), List.mem_of_getElem? (i := 2567) (by decide +kernel), List.mem_of_getElem? (i := 2568) (by decide +kernel)⟩
def lw_privs_14 : List (MethodName × Nat) := [(⟨"TypedDescentModel", "isInt", "(I)Z"⟩, 144), (⟨"TypedDescentModel", "typeCall", "(II)I"⟩, 144), (⟨"TypedDescentModel", "inPlace", "(IIZ)I"⟩, 144), (⟨"TypedDescentModel", "call", "(II)I"⟩, 144), (⟨"TypedDescentModel", "answer", "()I"⟩, 144), (⟨"TypedDescentModel", "showAll", "(I)V"⟩, 144), (⟨"TypedDescentModel", "later", "(IIZ)V"⟩, 144), (⟨"TypedDescentModel", "show", "(I)V"⟩, 144), (⟨"TypedDescentModel", "showPart", "(IIZ)V"⟩, 144), (⟨"TypedDescentModel", "showName", "(I)V"⟩, 144), (⟨"TypedDescentModel", "showTuple", "(III)V"⟩, 144), (⟨"TypedDescentModel", "newNode", "(IIII)I"⟩, 144), (⟨"TypedDescentModel", "blockPass", "()V"⟩, 144), (⟨"TypedDescentModel", "block", "()V"⟩, 144), (⟨"TypedDescentModel", "labelOf", "(JII)I"⟩, 144), (⟨"TypedDescentModel", "vars", "()I"⟩, 144)]
theorem lw_r14 : ∀ q ∈ lw_privs_14, lw_okq q := List.forall_mem_cons.mpr ⟨lw_p208, List.forall_mem_cons.mpr ⟨lw_p209, List.forall_mem_cons.mpr ⟨lw_p210, List.forall_mem_cons.mpr ⟨lw_p211, List.forall_mem_cons.mpr ⟨lw_p212, List.forall_mem_cons.mpr ⟨lw_p213, List.forall_mem_cons.mpr ⟨lw_p214, List.forall_mem_cons.mpr ⟨lw_p215, List.forall_mem_cons.mpr ⟨lw_p216, List.forall_mem_cons.mpr ⟨lw_p217, List.forall_mem_cons.mpr ⟨lw_p218, List.forall_mem_cons.mpr ⟨lw_p219, List.forall_mem_cons.mpr ⟨lw_p220, List.forall_mem_cons.mpr ⟨lw_p221, List.forall_mem_cons.mpr ⟨lw_p222, List.forall_mem_cons.mpr ⟨lw_p223, fun _ h => absurd h List.not_mem_nil⟩⟩⟩⟩⟩⟩⟩⟩⟩⟩⟩⟩⟩⟩⟩⟩
theorem lw_p224 : lw_okq (⟨"TypedDescentModel", "addName", "(JII)V"⟩, 144) := ⟨⟨by decide +kernel, by decide +kernel⟩, List.mem_of_getElem? (i := 1768) (by decide +kernel), List.mem_of_getElem? (i := 2571) (by decide +kernel), List.mem_of_getElem? (i := 2572) (by decide +kernel)⟩
theorem lw_p225 : lw_okq (⟨"TypedDescentModel", "file", "(II)I"⟩, 144) := ⟨⟨by decide +kernel, by decide +kernel⟩, List.mem_of_getElem? (i := 1768) (by decide +kernel), List.mem_of_getElem? (i := 2575) (by decide +kernel), List.mem_of_getElem? (i := 2576) (by decide +kernel)⟩
theorem lw_p226 : lw_okq (⟨"TypedDescentModel", "blockKind", "()I"⟩, 144) := ⟨⟨by decide +kernel, by decide +kernel⟩, List.mem_of_getElem? (i := 1768) (by decide +kernel), List.mem_of_getElem? (i := 2579) (by decide +kernel), List.mem_of_getElem? (i := 2580) (by decide +kernel)⟩
theorem lw_p227 : lw_okq (⟨"TypedDescentModel", "namedKind", "()I"⟩, 144) := ⟨⟨by decide +kernel, by decide +kernel⟩, List.mem_of_getElem? (i := 1768) (by decide +kernel), List.mem_of_getElem? (i := 2583) (by decide +kernel), List.mem_of_getElem? (i := 2584) (by decide +kernel)⟩
theorem lw_p228 : lw_okq (⟨"TypedDescentModel", "tupleKind", "()I"⟩, 144) := ⟨⟨by decide +kernel, by decide +kernel⟩, List.mem_of_getElem? (i := 1768) (by decide +kernel), List.mem_of_getElem? (i := 2587) (by decide +kernel), List.mem_of_getElem? (i := 2588) (by decide +kernel)⟩
theorem lw_p229 : lw_okq (⟨"TypedDescentModel", "beginsKind", "()Z"⟩, 144) := ⟨⟨by decide +kernel, by decide +kernel⟩, List.mem_of_getElem? (i := 1768) (by decide +kernel), List.mem_of_getElem? (i := 2591) (by decide +kernel), List.mem_of_getElem? (i := 2592) (by decide +kernel)⟩
theorem lw_p230 : lw_okq (⟨"TypedDescentModel", "addChildren", "(I[III)V"⟩, 144) := ⟨⟨by decide +kernel, by decide +kernel⟩, List.mem_of_getElem? (i := 1768) (by decide +kernel), List.mem_of_getElem? (i := 2595) (by decide +kernel), List.mem_of_getElem? (i := 2596) (by decide +kernel)⟩
theorem lw_p231 : lw_okq (⟨"TypedDescentModel", "beginRegisters", "(I)V"⟩, 144) := ⟨⟨by decide +kernel, by decide +kernel⟩, List.mem_of_getElem? (i := 1768) (by decide +kernel), List.mem_of_getElem? (i := 2599) (by decide +kernel), List.mem_of_getElem? (i := 2600) (by decide +kernel)⟩
theorem lw_p232 : lw_okq (⟨"TypedDescentModel", "ins", "()V"⟩, 144) := ⟨⟨by decide +kernel, by decide +kernel⟩, List.mem_of_getElem? (i := 1768) (by decide +kernel), List.mem_of_getElem? (i := 2603) (by decide +kernel), List.mem_of_getElem? (i := 2604) (by decide +kernel)⟩
theorem lw_p233 : lw_okq (⟨"TypedDescentModel", "put", "(IIII)V"⟩, 144) := ⟨⟨by decide +kernel, by decide +kernel⟩, List.mem_of_getElem? (i := 1768) (by decide +kernel), List.mem_of_getElem? (i := 2607) (by decide +kernel), List.mem_of_getElem? (i := 2608) (by decide +kernel)⟩
theorem lw_p234 : lw_okq (⟨"TypedDescentModel", "readValue", "()I"⟩, 144) := ⟨⟨by decide +kernel, by decide +kernel⟩, List.mem_of_getElem? (i := 1768) (by decide +kernel), List.mem_of_getElem? (i := 2611) (by decide +kernel), List.mem_of_getElem? (i := 2612) (by decide +kernel)⟩
theorem lw_p235 : lw_okq (⟨"TypedDescentModel", "plainValue", "()I"⟩, 144) := ⟨⟨by decide +kernel, by decide +kernel⟩, List.mem_of_getElem? (i := 1768) (by decide +kernel), List.mem_of_getElem? (i := 2615) (by decide +kernel), List.mem_of_getElem? (i := 2616) (by decide +kernel)⟩
theorem lw_p236 : lw_okq (⟨"TypedDescentModel", "kindOf", "(II)I"⟩, 144) := ⟨⟨by decide +kernel, by decide +kernel⟩, List.mem_of_getElem? (i := 1768) (by decide +kernel), List.mem_of_getElem? (i := 2619) (by decide +kernel), List.mem_of_getElem? (i := 2620) (by decide +kernel)⟩
theorem lw_p237 : lw_okq (⟨"TypedDescentModel", "packed", "()I"⟩, 144) := ⟨⟨by decide +kernel, by decide +kernel⟩, List.mem_of_getElem? (i := 1768) (by decide +kernel), List.mem_of_getElem? (i := 2623) (by decide +kernel), List.mem_of_getElem? (i := 2624) (by decide +kernel)⟩
theorem lw_p238 : lw_okq (⟨"TypedDescentModel", "inPlaceOf", "(III)I"⟩, 144) := ⟨⟨by decide +kernel, by decide +kernel⟩, List.mem_of_getElem? (i := 1768) (by decide +kernel), List.mem_of_getElem? (i := 2627) (by decide +kernel), List.mem_of_getElem? (i := 2628) (by decide +kernel)⟩
theorem lw_p239 : lw_okq (⟨"TypedDescentModel", "copyNode", "(I)I"⟩, 144) := ⟨⟨by decide +kernel, by decide +kernel⟩, List.mem_of_getElem? (i := 1768) (by decide +kernel), List.mem_of_getElem? (i := 2631) (by decide +kernel), List.mem_of_getElem? (i := 2632) (by decide +kernel)⟩
def lw_privs_15 : List (MethodName × Nat) := [(⟨"TypedDescentModel", "addName", "(JII)V"⟩, 144), (⟨"TypedDescentModel", "file", "(II)I"⟩, 144), (⟨"TypedDescentModel", "blockKind", "()I"⟩, 144), (⟨"TypedDescentModel", "namedKind", "()I"⟩, 144), (⟨"TypedDescentModel", "tupleKind", "()I"⟩, 144), (⟨"TypedDescentModel", "beginsKind", "()Z"⟩, 144), (⟨"TypedDescentModel", "addChildren", "(I[III)V"⟩, 144), (⟨"TypedDescentModel", "beginRegisters", "(I)V"⟩, 144), (⟨"TypedDescentModel", "ins", "()V"⟩, 144), (⟨"TypedDescentModel", "put", "(IIII)V"⟩, 144), (⟨"TypedDescentModel", "readValue", "()I"⟩, 144), (⟨"TypedDescentModel", "plainValue", "()I"⟩, 144), (⟨"TypedDescentModel", "kindOf", "(II)I"⟩, 144), (⟨"TypedDescentModel", "packed", "()I"⟩, 144), (⟨"TypedDescentModel", "inPlaceOf", "(III)I"⟩, 144), (⟨"TypedDescentModel", "copyNode", "(I)I"⟩, 144)]
theorem lw_r15 : ∀ q ∈ lw_privs_15, lw_okq q := List.forall_mem_cons.mpr ⟨lw_p224, List.forall_mem_cons.mpr ⟨lw_p225, List.forall_mem_cons.mpr ⟨lw_p226, List.forall_mem_cons.mpr ⟨lw_p227, List.forall_mem_cons.mpr ⟨lw_p228, List.forall_mem_cons.mpr ⟨lw_p229, List.forall_mem_cons.mpr ⟨lw_p230, List.forall_mem_cons.mpr ⟨lw_p231, List.forall_mem_cons.mpr ⟨lw_p232, List.forall_mem_cons.mpr ⟨lw_p233, List.forall_mem_cons.mpr ⟨lw_p234, List.forall_mem_cons.mpr ⟨lw_p235, List.forall_mem_cons.mpr ⟨lw_p236, List.forall_mem_cons.mpr ⟨lw_p237, List.forall_mem_cons.mpr ⟨lw_p238, List.forall_mem_cons.mpr ⟨lw_p239, fun _ h => absurd h List.not_mem_nil⟩⟩⟩⟩⟩⟩⟩⟩⟩⟩⟩⟩⟩⟩⟩⟩
theorem lw_p240 : lw_okq (⟨"TypedDescentModel", "isOne", "(II)Z"⟩, 144) := ⟨⟨by decide +kernel, by decide +kernel⟩, List.mem_of_getElem? (i := 1768) (by decide +kernel), List.mem_of_getElem? (i := 2635) (by decide +kernel), List.mem_of_getElem? (i := 2636) (by decide +kernel)⟩
theorem lw_p241 : lw_okq (⟨"TypedDescentModel", "isSameName", "(III)Z"⟩, 144) := ⟨⟨by decide +kernel, by decide +kernel⟩, List.mem_of_getElem? (i := 1768) (by decide +kernel), List.mem_of_getElem? (i := 2639) (by decide +kernel), List.mem_of_getElem? (i := 2640) (by decide +kernel)⟩
theorem lw_p242 : lw_okq (⟨"TypedDescentModel", "applied", "(II)I"⟩, 144) := ⟨⟨by decide +kernel, by decide +kernel⟩, List.mem_of_getElem? (i := 1768) (by decide +kernel), List.mem_of_getElem? (i := 2643) (by decide +kernel), List.mem_of_getElem? (i := 2644) (by decide +kernel)⟩
theorem lw_p243 : lw_okq (⟨"TypedDescentModel", "aim", "(II)V"⟩, 144) := ⟨⟨by decide +kernel, by decide +kernel⟩, List.mem_of_getElem? (i := 1768) (by decide +kernel), List.mem_of_getElem? (i := 2647) (by decide +kernel), List.mem_of_getElem? (i := 2648) (by decide +kernel)⟩
theorem lw_p244 : lw_okq (⟨"TypedDescentModel", "fits", "(II)Z"⟩, 144) := ⟨⟨by decide +kernel, by decide +kernel⟩, List.mem_of_getElem? (i := 1768) (by decide +kernel), List.mem_of_getElem? (i := 2651) (by decide +kernel), List.mem_of_getElem? (i := 2652) (by decide +kernel)⟩
theorem lw_p245 : lw_okq (⟨"TypedDescentModel", "unpack", "()V"⟩, 144) := ⟨⟨by decide +kernel, by decide +kernel⟩, List.mem_of_getElem? (i := 1768) (by decide +kernel), List.mem_of_getElem? (i := 2655) (by decide +kernel), List.mem_of_getElem? (i := 2656) (by decide +kernel)⟩
theorem lw_p246 : lw_okq (⟨"TypedDescentModel", "takeRegister", "()I"⟩, 144) := ⟨⟨by decide +kernel, by decide +kernel⟩, List.mem_of_getElem? (i := 1768) (by decide +kernel), List.mem_of_getElem? (i := 2659) (by decide +kernel), List.mem_of_getElem? (i := 2660) (by decide +kernel)⟩
theorem lw_p247 : lw_okq (⟨"TypedDescentModel", "registered", "(I)V"⟩, 144) := ⟨⟨by decide +kernel, by decide +kernel⟩, List.mem_of_getElem? (i := 1768) (by decide +kernel), List.mem_of_getElem? (i := 2663) (by decide +kernel), List.mem_of_getElem? (i := 2664) (by decide +kernel)⟩
theorem lw_p248 : lw_okq (⟨"TypedDescentModel", "stores", "(II)V"⟩, 144) := ⟨⟨by decide +kernel, by decide +kernel⟩, List.mem_of_getElem? (i := 1768) (by decide +kernel), List.mem_of_getElem? (i := 2667) (by decide +kernel), List.mem_of_getElem? (i := 2668) (by decide +kernel)⟩
theorem lw_p249 : lw_okq (⟨"TypedDescentModel", "fieldNumber", "()I"⟩, 144) := ⟨⟨by decide +kernel, by decide +kernel⟩, List.mem_of_getElem? (i := 1768) (by decide +kernel), List.mem_of_getElem? (i := 2671) (by decide +kernel), List.mem_of_getElem? (i := 2672) (by decide +kernel)⟩
theorem lw_p250 : lw_okq (⟨"TypedDescentModel", "mallocs", "(I)V"⟩, 144) := ⟨⟨by decide +kernel, by decide +kernel⟩, List.mem_of_getElem? (i := 1768) (by decide +kernel), List.mem_of_getElem? (i := 2675) (by decide +kernel), List.mem_of_getElem? (i := 2676) (by decide +kernel)⟩
theorem lw_p251 : lw_okq (⟨"TypedDescentModel", "isIntKind", "(II)Z"⟩, 144) := ⟨⟨by decide +kernel, by decide +kernel⟩, List.mem_of_getElem? (i := 1768) (by decide +kernel), List.mem_of_getElem? (i := 2679) (by decide +kernel), List.mem_of_getElem? (i := 2680) (by decide +kernel)⟩
theorem lw_p252 : lw_okq (⟨"TypedDescentModel", "write", "()V"⟩, 144) := ⟨⟨by decide +kernel, by decide +kernel⟩, List.mem_of_getElem? (i := 1768) (by decide +kernel), List.mem_of_getElem? (i := 2683) (by decide +kernel), List.mem_of_getElem? (i := 2684) (by decide +kernel)⟩
theorem lw_p253 : lw_okq (⟨"TypedDescentModel", "writeIns", "(I)V"⟩, 144) := ⟨⟨by decide +kernel, by decide +kernel⟩, List.mem_of_getElem? (i := 1768) (by decide +kernel), List.mem_of_getElem? (i := 2687) (by decide +kernel), List.mem_of_getElem? (i := 2688) (by decide +kernel)⟩
theorem lw_p254 : lw_okq (⟨"TypedDescentModel", "fetch", "(I)V"⟩, 144) := ⟨⟨by decide +kernel, by decide +kernel⟩, List.mem_of_getElem? (i := 1768) (by decide +kernel), List.mem_of_getElem? (i := 2691) (by decide +kernel), List.mem_of_getElem? (i := 2692) (by decide +kernel)⟩
theorem lw_p255 : lw_okq (⟨"TypedDescentModel", "byte1", "(I)V"⟩, 144) := ⟨⟨by decide +kernel, by decide +kernel⟩, List.mem_of_getElem? (i := 1768) (by decide +kernel), List.mem_of_getElem? (i := 2695) (by decide +kernel), List.mem_of_getElem? (i := 2696) (by decide +kernel)⟩
def lw_privs_16 : List (MethodName × Nat) := [(⟨"TypedDescentModel", "isOne", "(II)Z"⟩, 144), (⟨"TypedDescentModel", "isSameName", "(III)Z"⟩, 144), (⟨"TypedDescentModel", "applied", "(II)I"⟩, 144), (⟨"TypedDescentModel", "aim", "(II)V"⟩, 144), (⟨"TypedDescentModel", "fits", "(II)Z"⟩, 144), (⟨"TypedDescentModel", "unpack", "()V"⟩, 144), (⟨"TypedDescentModel", "takeRegister", "()I"⟩, 144), (⟨"TypedDescentModel", "registered", "(I)V"⟩, 144), (⟨"TypedDescentModel", "stores", "(II)V"⟩, 144), (⟨"TypedDescentModel", "fieldNumber", "()I"⟩, 144), (⟨"TypedDescentModel", "mallocs", "(I)V"⟩, 144), (⟨"TypedDescentModel", "isIntKind", "(II)Z"⟩, 144), (⟨"TypedDescentModel", "write", "()V"⟩, 144), (⟨"TypedDescentModel", "writeIns", "(I)V"⟩, 144), (⟨"TypedDescentModel", "fetch", "(I)V"⟩, 144), (⟨"TypedDescentModel", "byte1", "(I)V"⟩, 144)]
theorem lw_r16 : ∀ q ∈ lw_privs_16, lw_okq q := List.forall_mem_cons.mpr ⟨lw_p240, List.forall_mem_cons.mpr ⟨lw_p241, List.forall_mem_cons.mpr ⟨lw_p242, List.forall_mem_cons.mpr ⟨lw_p243, List.forall_mem_cons.mpr ⟨lw_p244, List.forall_mem_cons.mpr ⟨lw_p245, List.forall_mem_cons.mpr ⟨lw_p246, List.forall_mem_cons.mpr ⟨lw_p247, List.forall_mem_cons.mpr ⟨lw_p248, List.forall_mem_cons.mpr ⟨lw_p249, List.forall_mem_cons.mpr ⟨lw_p250, List.forall_mem_cons.mpr ⟨lw_p251, List.forall_mem_cons.mpr ⟨lw_p252, List.forall_mem_cons.mpr ⟨lw_p253, List.forall_mem_cons.mpr ⟨lw_p254, List.forall_mem_cons.mpr ⟨lw_p255, fun _ h => absurd h List.not_mem_nil⟩⟩⟩⟩⟩⟩⟩⟩⟩⟩⟩⟩⟩⟩⟩⟩
theorem lw_p256 : lw_okq (⟨"TypedDescentModel", "four", "(I)V"⟩, 144) := ⟨⟨by decide +kernel, by decide +kernel⟩, List.mem_of_getElem? (i := 1768) (by decide +kernel), List.mem_of_getElem? (i := 2699) (by decide +kernel), List.mem_of_getElem? (i := 2700) (by decide +kernel)⟩
theorem lw_p257 : lw_okq (⟨"TypedDescentModel", "store", "(I)V"⟩, 144) := ⟨⟨by decide +kernel, by decide +kernel⟩, List.mem_of_getElem? (i := 1768) (by decide +kernel), List.mem_of_getElem? (i := 2703) (by decide +kernel), List.mem_of_getElem? (i := 2704) (by decide +kernel)⟩
theorem lw_p258 : lw_okq (⟨"TypedDescentModel", "take", "(I)V"⟩, 144) := ⟨⟨by decide +kernel, by decide +kernel⟩, List.mem_of_getElem? (i := 1768) (by decide +kernel), List.mem_of_getElem? (i := 2707) (by decide +kernel), List.mem_of_getElem? (i := 2708) (by decide +kernel)⟩
theorem lw_p259 : lw_okq (⟨"TypedDescentModel", "reckonBytes", "(I)V"⟩, 144) := ⟨⟨by decide +kernel, by decide +kernel⟩, List.mem_of_getElem? (i := 1768) (by decide +kernel), List.mem_of_getElem? (i := 2711) (by decide +kernel), List.mem_of_getElem? (i := 2712) (by decide +kernel)⟩
theorem lw_p260 : lw_okq (⟨"TypedDescentModel", "byte2", "(II)V"⟩, 144) := ⟨⟨by decide +kernel, by decide +kernel⟩, List.mem_of_getElem? (i := 1768) (by decide +kernel), List.mem_of_getElem? (i := 2715) (by decide +kernel), List.mem_of_getElem? (i := 2716) (by decide +kernel)⟩
theorem lw_p261 : lw_okq (⟨"TypedDescentModel", "way", "(I)V"⟩, 144) := ⟨⟨by decide +kernel, by decide +kernel⟩, List.mem_of_getElem? (i := 1768) (by decide +kernel), List.mem_of_getElem? (i := 2719) (by decide +kernel), List.mem_of_getElem? (i := 2720) (by decide +kernel)⟩
theorem lw_p262 : lw_okq (⟨"TypedDescentModel", "jump", "(I)V"⟩, 144) := ⟨⟨by decide +kernel, by decide +kernel⟩, List.mem_of_getElem? (i := 1768) (by decide +kernel), List.mem_of_getElem? (i := 2723) (by decide +kernel), List.mem_of_getElem? (i := 2724) (by decide +kernel)⟩
theorem lw_p263 : lw_okq (⟨"TypedDescentModel", "runProgram", "(I)I"⟩, 144) := ⟨⟨by decide +kernel, by decide +kernel⟩, List.mem_of_getElem? (i := 1768) (by decide +kernel), List.mem_of_getElem? (i := 2739) (by decide +kernel), List.mem_of_getElem? (i := 2740) (by decide +kernel)⟩
theorem lw_p264 : lw_okq (⟨"TypedDescentModel", "meet", "(I)Z"⟩, 144) := ⟨⟨by decide +kernel, by decide +kernel⟩, List.mem_of_getElem? (i := 1768) (by decide +kernel), List.mem_of_getElem? (i := 2743) (by decide +kernel), List.mem_of_getElem? (i := 2744) (by decide +kernel)⟩
theorem lw_p265 : lw_okq (⟨"TypedDescentModel", "takesFrom", "(II)Z"⟩, 144) := ⟨⟨by decide +kernel, by decide +kernel⟩, List.mem_of_getElem? (i := 1768) (by decide +kernel), List.mem_of_getElem? (i := 2747) (by decide +kernel), List.mem_of_getElem? (i := 2748) (by decide +kernel)⟩
theorem lw_p266 : lw_okq (⟨"TypedDescentModel", "make", "(I)Z"⟩, 144) := ⟨⟨by decide +kernel, by decide +kernel⟩, List.mem_of_getElem? (i := 1768) (by decide +kernel), List.mem_of_getElem? (i := 2751) (by decide +kernel), List.mem_of_getElem? (i := 2752) (by decide +kernel)⟩
theorem lw_p267 : lw_okq (⟨"TypedDescentModel", "push", "(I)V"⟩, 144) := ⟨⟨by decide +kernel, by decide +kernel⟩, List.mem_of_getElem? (i := 1768) (by decide +kernel), List.mem_of_getElem? (i := 2755) (by decide +kernel), List.mem_of_getElem? (i := 2756) (by decide +kernel)⟩
theorem lw_p268 : lw_okq (⟨"TypedDescentModel", "addCell", "(I)V"⟩, 144) := ⟨⟨by decide +kernel, by decide +kernel⟩, List.mem_of_getElem? (i := 1768) (by decide +kernel), List.mem_of_getElem? (i := 2759) (by decide +kernel), List.mem_of_getElem? (i := 2760) (by decide +kernel)⟩
theorem lw_p269 : lw_okq (⟨"TypedDescentModel", "group", "(I)Z"⟩, 144) := ⟨⟨by decide +kernel, by decide +kernel⟩, List.mem_of_getElem? (i := 1768) (by decide +kernel), List.mem_of_getElem? (i := 2763) (by decide +kernel), List.mem_of_getElem? (i := 2764) (by decide +kernel)⟩
theorem lw_p270 : lw_okq (⟨"TypedDescentModel", "callNow", "(II)I"⟩, 144) := ⟨⟨by decide +kernel, by decide +kernel⟩, List.mem_of_getElem? (i := 1768) (by decide +kernel), List.mem_of_getElem? (i := 2767) (by decide +kernel), List.mem_of_getElem? (i := 2768) (by decide +kernel)⟩
theorem lw_p271 : lw_okq (⟨"TypedDescentModel", "enterBody", "(IIII)V"⟩, 144) := ⟨⟨by decide +kernel, by decide +kernel⟩, List.mem_of_getElem? (i := 1768) (by decide +kernel), List.mem_of_getElem? (i := 2771) (by decide +kernel), List.mem_of_getElem? (i := 2772) (by decide +kernel)⟩
def lw_privs_17 : List (MethodName × Nat) := [(⟨"TypedDescentModel", "four", "(I)V"⟩, 144), (⟨"TypedDescentModel", "store", "(I)V"⟩, 144), (⟨"TypedDescentModel", "take", "(I)V"⟩, 144), (⟨"TypedDescentModel", "reckonBytes", "(I)V"⟩, 144), (⟨"TypedDescentModel", "byte2", "(II)V"⟩, 144), (⟨"TypedDescentModel", "way", "(I)V"⟩, 144), (⟨"TypedDescentModel", "jump", "(I)V"⟩, 144), (⟨"TypedDescentModel", "runProgram", "(I)I"⟩, 144), (⟨"TypedDescentModel", "meet", "(I)Z"⟩, 144), (⟨"TypedDescentModel", "takesFrom", "(II)Z"⟩, 144), (⟨"TypedDescentModel", "make", "(I)Z"⟩, 144), (⟨"TypedDescentModel", "push", "(I)V"⟩, 144), (⟨"TypedDescentModel", "addCell", "(I)V"⟩, 144), (⟨"TypedDescentModel", "group", "(I)Z"⟩, 144), (⟨"TypedDescentModel", "callNow", "(II)I"⟩, 144), (⟨"TypedDescentModel", "enterBody", "(IIII)V"⟩, 144)]
theorem lw_r17 : ∀ q ∈ lw_privs_17, lw_okq q := List.forall_mem_cons.mpr ⟨lw_p256, List.forall_mem_cons.mpr ⟨lw_p257, List.forall_mem_cons.mpr ⟨lw_p258, List.forall_mem_cons.mpr ⟨lw_p259, List.forall_mem_cons.mpr ⟨lw_p260, List.forall_mem_cons.mpr ⟨lw_p261, List.forall_mem_cons.mpr ⟨lw_p262, List.forall_mem_cons.mpr ⟨lw_p263, List.forall_mem_cons.mpr ⟨lw_p264, List.forall_mem_cons.mpr ⟨lw_p265, List.forall_mem_cons.mpr ⟨lw_p266, List.forall_mem_cons.mpr ⟨lw_p267, List.forall_mem_cons.mpr ⟨lw_p268, List.forall_mem_cons.mpr ⟨lw_p269, List.forall_mem_cons.mpr ⟨lw_p270, List.forall_mem_cons.mpr ⟨lw_p271, fun _ h => absurd h List.not_mem_nil⟩⟩⟩⟩⟩⟩⟩⟩⟩⟩⟩⟩⟩⟩⟩⟩
theorem lw_p272 : lw_okq (⟨"TypedDescentModel", "plain", "(I)V"⟩, 144) := ⟨⟨by decide +kernel, by decide +kernel⟩, List.mem_of_getElem? (i := 1768) (by decide +kernel), List.mem_of_getElem? (i := 2775) (by decide +kernel), List.mem_of_getElem? (i := 2776) (by decide +kernel)⟩
theorem lw_p273 : lw_okq (⟨"TypedDescentModel", "nextCommand", "(I)I"⟩, 144) := ⟨⟨by decide +kernel, by decide +kernel⟩, List.mem_of_getElem? (i := 1768) (by decide +kernel), List.mem_of_getElem? (i := 2779) (by decide +kernel), List.mem_of_getElem? (i := 2780) (by decide +kernel)⟩
theorem lw_p274 : lw_okq (⟨"TypedDescentModel", "runBlocks", "(I)I"⟩, 144) := ⟨⟨by decide +kernel, by decide +kernel⟩, List.mem_of_getElem? (i := 1768) (by decide +kernel), List.mem_of_getElem? (i := 2783) (by decide +kernel), List.mem_of_getElem? (i := 2784) (by decide +kernel)⟩
theorem lw_p275 : lw_okq (⟨"TypedDescentModel", "valueOf", "(I)I"⟩, 144) := ⟨⟨by decide +kernel, by decide +kernel⟩, List.mem_of_getElem? (i := 1768) (by decide +kernel), List.mem_of_getElem? (i := 2787) (by decide +kernel), List.mem_of_getElem? (i := 2788) (by decide +kernel)⟩
theorem lw_p276 : lw_okq (⟨"TypedDescentModel", "insOf", "(I)I"⟩, 144) := ⟨⟨by decide +kernel, by decide +kernel⟩, List.mem_of_getElem? (i := 1768) (by decide +kernel), List.mem_of_getElem? (i := 2792) (by decide +kernel), List.mem_of_getElem? (i := 2793) (by decide +kernel)⟩
def lw_privs_18 : List (MethodName × Nat) := [(⟨"TypedDescentModel", "plain", "(I)V"⟩, 144), (⟨"TypedDescentModel", "nextCommand", "(I)I"⟩, 144), (⟨"TypedDescentModel", "runBlocks", "(I)I"⟩, 144), (⟨"TypedDescentModel", "valueOf", "(I)I"⟩, 144), (⟨"TypedDescentModel", "insOf", "(I)I"⟩, 144)]
theorem lw_r18 : ∀ q ∈ lw_privs_18, lw_okq q := List.forall_mem_cons.mpr ⟨lw_p272, List.forall_mem_cons.mpr ⟨lw_p273, List.forall_mem_cons.mpr ⟨lw_p274, List.forall_mem_cons.mpr ⟨lw_p275, List.forall_mem_cons.mpr ⟨lw_p276, fun _ h => absurd h List.not_mem_nil⟩⟩⟩⟩⟩
def lw_privs : List (MethodName × Nat) := lw_privs_1 ++ (lw_privs_2 ++ (lw_privs_3 ++ (lw_privs_4 ++ (lw_privs_5 ++ (lw_privs_6 ++ (lw_privs_7 ++ (lw_privs_8 ++ (lw_privs_9 ++ (lw_privs_10 ++ (lw_privs_11 ++ (lw_privs_12 ++ (lw_privs_13 ++ (lw_privs_14 ++ (lw_privs_15 ++ (lw_privs_16 ++ (lw_privs_17 ++ (lw_privs_18)))))))))))))))))
def lw_tbl : List Cond := k2_sels lw_privs ++ tables_1
theorem lw_privs_ok : ∀ q ∈ lw_privs, lw_okq q := by
  show ∀ q ∈ lw_privs_1 ++ (lw_privs_2 ++ (lw_privs_3 ++ (lw_privs_4 ++ (lw_privs_5 ++ (lw_privs_6 ++ (lw_privs_7 ++ (lw_privs_8 ++ (lw_privs_9 ++ (lw_privs_10 ++ (lw_privs_11 ++ (lw_privs_12 ++ (lw_privs_13 ++ (lw_privs_14 ++ (lw_privs_15 ++ (lw_privs_16 ++ (lw_privs_17 ++ (lw_privs_18))))))))))))))))), lw_okq q
  exact List.forall_mem_append.mpr ⟨lw_r1, List.forall_mem_append.mpr ⟨lw_r2, List.forall_mem_append.mpr ⟨lw_r3, List.forall_mem_append.mpr ⟨lw_r4, List.forall_mem_append.mpr ⟨lw_r5, List.forall_mem_append.mpr ⟨lw_r6, List.forall_mem_append.mpr ⟨lw_r7, List.forall_mem_append.mpr ⟨lw_r8, List.forall_mem_append.mpr ⟨lw_r9, List.forall_mem_append.mpr ⟨lw_r10, List.forall_mem_append.mpr ⟨lw_r11, List.forall_mem_append.mpr ⟨lw_r12, List.forall_mem_append.mpr ⟨lw_r13, List.forall_mem_append.mpr ⟨lw_r14, List.forall_mem_append.mpr ⟨lw_r15, List.forall_mem_append.mpr ⟨lw_r16, List.forall_mem_append.mpr ⟨lw_r17, lw_r18⟩⟩⟩⟩⟩⟩⟩⟩⟩⟩⟩⟩⟩⟩⟩⟩⟩
end
section
/-! THE INTERPRETER: a machine over closed data (references are places in a list of cells), whose plain steps are sound for W. -/
def xv (ρ : Nat → Nat) : Value → Value
  | .ref i => .ref (ρ i)
  | v => v
abbrev x_E : Type := (Nat × vp_A) ⊕ (Nat × List Value)
def xe (ρ : Nat → Nat) (cA : Nat → ClassId) : x_E → va_E
  | .inl (t, a) => .inl (cA t, a)
  | .inr (c, fs) => .inr (c, fs.map (xv ρ))
def xw (ρ : Nat → Nat) (cA : Nat → ClassId) (hp : List x_E) : va_W := hp.mapIdx (fun i c => (ρ i, xe ρ cA c))
def xq (ρ : Nat → Nat) (q : Nat × Value) : Nat × Value := (q.1, xv ρ q.2)
def x_tys (cA : Nat → ClassId) : List (ClassId × FieldType) := [(cA 0, .int), (cA 1, .long), (cA 2, .byte), (cA 3, .char), (cA 4, .boolean)]
def xty (q : vw_C) (k : Nat) : FieldType := (parseFieldDescriptor (q.2.1 k).2.2.1).getD .int
abbrev x_R : Type := Option (Nat × List (Nat × Value) × List Value × List x_E)
def xK (a b : Nat) (r : x_R) : x_R := if a = b then r else none
def xTg (pc : Nat) (off : Int) : Option Nat := match (pc : Int) + off with
  | .ofNat t => some t
  | .negSucc _ => none
def xLd : List (Nat × Value) → Nat → Option Value
  | [], _ => none
  | q :: r, i => if q.1 = i then some q.2 else xLd r i
def xS1 (lv : List (Nat × Value)) (i : Nat) (v : Value) : List (Nat × Value) := (i, v) :: lv.filter (fun q => !(q.1 == i) && !(q.1 + 1 == i && q.2.category == 2))
def xS2 (lv : List (Nat × Value)) (i : Nat) (v : Value) : List (Nat × Value) := (i, v) :: lv.filter (fun q => !(q.1 == i) && (!(q.1 == i + 1) && !(q.1 + 1 == i && q.2.category == 2)))
def xI2 (f : Int32 → Int32 → Int32) : List Value → Option (List Value)
  | .int y :: .int x :: r => some (.int (f x y) :: r)
  | _ => none
def xI2z (f : Int32 → Int32 → Int32) : List Value → Option (List Value)
  | .int y :: .int x :: r => if y = 0 then none else some (.int (f x y) :: r)
  | _ => none
def xL2 (f : Int64 → Int64 → Int64) : List Value → Option (List Value)
  | .long y :: .long x :: r => some (.long (f x y) :: r)
  | _ => none
def xLI (f : Int64 → Int32 → Int64) : List Value → Option (List Value)
  | .int y :: .long x :: r => some (.long (f x y) :: r)
  | _ => none
def xLL (f : Int64 → Int64 → Int32) : List Value → Option (List Value)
  | .long y :: .long x :: r => some (.int (f x y) :: r)
  | _ => none
def xII (f : Int32 → Int32) : List Value → Option (List Value)
  | .int x :: r => some (.int (f x) :: r)
  | _ => none
def xIL (f : Int32 → Int64) : List Value → Option (List Value)
  | .int x :: r => some (.long (f x) :: r)
  | _ => none
def xLi (f : Int64 → Int32) : List Value → Option (List Value)
  | .long x :: r => some (.int (f x) :: r)
  | _ => none
def xLIv (i : Nat) (lv : List (Nat × Value)) : Option Value := match xLd lv i with
  | some (.int x) => some (.int x)
  | _ => none
def xLLv (i : Nat) (lv : List (Nat × Value)) : Option Value := match xLd lv i with
  | some (.long x) => some (.long x)
  | _ => none
def xLAv (i : Nat) (lv : List (Nat × Value)) : Option Value := match xLd lv i with
  | some (.ref x) => some (.ref x)
  | some .null => some .null
  | _ => none
def xCn (c : ClassFile.Cond) (x y : Int32) : Bool := match c with
  | .eq => decide (x = y)
  | .ne => !decide (x = y)
  | .lt => decide (x < y)
  | .ge => decide (y ≤ x)
  | .gt => decide (y < x)
  | .le => decide (x ≤ y)
def xGet (fl : Nat → Option (Nat × Nat)) (idx : Nat) (hp : List x_E) : List Value → Option (List Value)
  | .ref i :: r => match fl idx with
    | none => none
    | some (ci, k) => match hp[i]? with
      | some (.inr (c, fs)) => if c = ci then (match fs[k]? with
        | some v => some (v :: r)
        | none => none) else none
      | _ => none
  | _ => none
def xPut (cl : List vw_C) (ini : Bool) (fl : Nat → Option (Nat × Nat)) (idx : Nat) (hp : List x_E) : List Value → Option (List Value × List x_E)
  | v :: .ref i :: r => match fl idx with
    | none => none
    | some (ci, k) => match hp[i]?, cl[ci]? with
      | some (.inr (c, fs)), some q => if c = ci ∧ k < fs.length ∧ narrow (xty q k) v = v ∧ fits (xty q k) v = true ∧ ((q.2.1 k).2.2.2 = false ∨ ini = true) then some (r, hp.set i (.inr (c, fs.set k v))) else none
      | _, _ => none
  | _ => none
def xAld (t : Nat) (hp : List x_E) : List Value → Option (List Value)
  | .int i :: .ref a :: r => match hp[a]? with
    | some (.inl (t', n, .inl f)) => if t' = t ∧ ¬ (i < 0 ∨ n ≤ i.toNatClampNeg) then some (.int (f i.toNatClampNeg) :: r) else none
    | _ => none
  | _ => none
def xAldL (hp : List x_E) : List Value → Option (List Value)
  | .int i :: .ref a :: r => match hp[a]? with
    | some (.inl (t', n, .inr (.inl f))) => if t' = 1 ∧ ¬ (i < 0 ∨ n ≤ i.toNatClampNeg) then some (.long (f i.toNatClampNeg) :: r) else none
    | _ => none
  | _ => none
def xAst (t : Nat) (g : Int32 → Int32) (hp : List x_E) : List Value → Option (List Value × List x_E)
  | .int x :: .int i :: .ref a :: r => match hp[a]? with
    | some (.inl (t', n, .inl f)) => if t' = t ∧ ¬ (i < 0 ∨ n ≤ i.toNatClampNeg) then some (r, hp.set a (.inl (t', n, .inl (upd f i.toNatClampNeg (g x))))) else none
    | _ => none
  | _ => none
def xAstL (hp : List x_E) : List Value → Option (List Value × List x_E)
  | .long x :: .int i :: .ref a :: r => match hp[a]? with
    | some (.inl (t', n, .inr (.inl f))) => if t' = 1 ∧ ¬ (i < 0 ∨ n ≤ i.toNatClampNeg) then some (r, hp.set a (.inl (t', n, .inr (.inl (vp_updL f i.toNatClampNeg x))))) else none
    | _ => none
  | _ => none
def xAlen (hp : List x_E) : List Value → Option (List Value)
  | .ref a :: r => match hp[a]? with
    | some (.inl (t, x)) => if t < 5 then some (.int (Int32.ofNat x.1) :: r) else none
    | _ => none
  | _ => none
def xDup : List Value → Option (List Value)
  | v :: r => if v.category = 1 then some (v :: v :: r) else none
  | _ => none
def xPop : List Value → Option (List Value)
  | v :: r => if v.category = 1 then some r else none
  | _ => none
def xDupX1 : List Value → Option (List Value)
  | v :: w :: r => if v.category = 1 ∧ w.category = 1 then some (v :: w :: v :: r) else none
  | _ => none
def xDupX2 : List Value → Option (List Value)
  | v :: w :: u :: r => if v.category = 1 ∧ w.category = 1 ∧ u.category = 1 then some (v :: w :: u :: v :: r) else none
  | _ => none
def xDup2 : List Value → Option (List Value)
  | v :: w :: r => if v.category = 1 ∧ w.category = 1 then some (v :: w :: v :: w :: r) else none
  | _ => none
def xPop2 : List Value → Option (List Value)
  | v :: r => if v.category = 2 then some r else none
  | _ => none

def xPopI : List Value → Option (Int32 × List Value)
  | .int x :: r => some (x, r)
  | _ => none
def xPopL : List Value → Option (Int64 × List Value)
  | .long x :: r => some (x, r)
  | _ => none
def xPopA : List Value → Option (Value × List Value)
  | .ref x :: r => some (.ref x, r)
  | .null :: r => some (.null, r)
  | _ => none

def xLIn (i : Nat) (lv : List (Nat × Value)) : Option Int32 := match xLd lv i with
  | some (.int x) => some x
  | _ => none

def xTab (d lo hi : Int) (offs : Array Int) (x : Int32) : Option Int := if x.toInt < lo ∨ hi < x.toInt then some d else offs[(x.toInt - lo).toNat]?

def xs1 (cl : List vw_C) (ini : Bool) (nL : Nat) (fl : Nat → Option (Nat × Nat)) (kc : Nat → Option Int32) (kl : Nat → Option Int64) (i : Instr) (len pc : Nat) (lv : List (Nat × Value)) (st : List Value) (hp : List x_E) : x_R :=
  match i with
  | .iadd => xK len 1 ((xI2 (fun x y => x + y) st).map fun t => (pc + 1, lv, t, hp))
  | .isub => xK len 1 ((xI2 (fun x y => x - y) st).map fun t => (pc + 1, lv, t, hp))
  | .imul => xK len 1 ((xI2 (fun x y => x * y) st).map fun t => (pc + 1, lv, t, hp))
  | .iand => xK len 1 ((xI2 (fun x y => x &&& y) st).map fun t => (pc + 1, lv, t, hp))
  | .ior => xK len 1 ((xI2 (fun x y => x ||| y) st).map fun t => (pc + 1, lv, t, hp))
  | .ixor => xK len 1 ((xI2 (fun x y => x ^^^ y) st).map fun t => (pc + 1, lv, t, hp))
  | .ishl => xK len 1 ((xI2 (fun x y => x <<< (y &&& 31)) st).map fun t => (pc + 1, lv, t, hp))
  | .ishr => xK len 1 ((xI2 (fun x y => x >>> (y &&& 31)) st).map fun t => (pc + 1, lv, t, hp))
  | .iushr => xK len 1 ((xI2 (fun x y => (x.toUInt32 >>> (y.toUInt32 &&& Int32.toUInt32 31)).toInt32) st).map fun t => (pc + 1, lv, t, hp))
  | .idiv => xK len 1 ((xI2z (fun x y => x / y) st).map fun t => (pc + 1, lv, t, hp))
  | .irem => xK len 1 ((xI2z (fun x y => x - x / y * y) st).map fun t => (pc + 1, lv, t, hp))
  | .ladd => xK len 1 ((xL2 (fun x y => x + y) st).map fun t => (pc + 1, lv, t, hp))
  | .lsub => xK len 1 ((xL2 (fun x y => x - y) st).map fun t => (pc + 1, lv, t, hp))
  | .lmul => xK len 1 ((xL2 (fun x y => x * y) st).map fun t => (pc + 1, lv, t, hp))
  | .land => xK len 1 ((xL2 (fun x y => x &&& y) st).map fun t => (pc + 1, lv, t, hp))
  | .lor => xK len 1 ((xL2 (fun x y => x ||| y) st).map fun t => (pc + 1, lv, t, hp))
  | .lxor => xK len 1 ((xL2 (fun x y => x ^^^ y) st).map fun t => (pc + 1, lv, t, hp))
  | .lshl => xK len 1 ((xLI (fun x y => x <<< (y.toInt64 &&& 63)) st).map fun t => (pc + 1, lv, t, hp))
  | .lshr => xK len 1 ((xLI (fun x y => x >>> (y.toInt64 &&& 63)) st).map fun t => (pc + 1, lv, t, hp))
  | .lushr => xK len 1 ((xLI (fun x y => (x.toUInt64 >>> (y.toInt64.toUInt64 &&& Int64.toUInt64 63)).toInt64) st).map fun t => (pc + 1, lv, t, hp))
  | .lcmp => xK len 1 ((xLL lg_cmp st).map fun t => (pc + 1, lv, t, hp))
  | .ineg => xK len 1 ((xII (fun x => -x) st).map fun t => (pc + 1, lv, t, hp))
  | .i2b => xK len 1 ((xII (fun x => x.toInt8.toInt32) st).map fun t => (pc + 1, lv, t, hp))
  | .i2s => xK len 1 ((xII (fun x => x.toInt16.toInt32) st).map fun t => (pc + 1, lv, t, hp))
  | .i2c => xK len 1 ((xII (fun x => (x.toUInt32 % 65536).toInt32) st).map fun t => (pc + 1, lv, t, hp))
  | .i2l => xK len 1 ((xIL Int32.toInt64 st).map fun t => (pc + 1, lv, t, hp))
  | .l2i => xK len 1 ((xLi Int64.toInt32 st).map fun t => (pc + 1, lv, t, hp))
  | .iconst n => xK len 1 (some (pc + 1, lv, .int (Int32.ofInt n) :: st, hp))
  | .bipush n => xK len 2 (some (pc + 2, lv, .int (Int8.ofInt n).toInt32 :: st, hp))
  | .sipush n => xK len 3 (some (pc + 3, lv, .int (Int16.ofInt n).toInt32 :: st, hp))
  | .lconst n => xK len 1 (some (pc + 1, lv, .long (Int64.ofNat (n : Nat)) :: st, hp))
  | .aconst_null => xK len 1 (some (pc + 1, lv, .null :: st, hp))
  | .ldc idx => xK len 2 ((kc idx).map fun v => (pc + 2, lv, .int v :: st, hp))
  | .ldc_w idx => xK len 3 ((kc idx).map fun v => (pc + 3, lv, .int v :: st, hp))
  | .ldc2_w idx => xK len 3 ((kl idx).map fun v => (pc + 3, lv, .long v :: st, hp))
  | .iload i => xK len 2 ((xLIv i lv).map fun v => (pc + 2, lv, v :: st, hp))
  | .iload_n i => xK len 1 ((xLIv i.val lv).map fun v => (pc + 1, lv, v :: st, hp))
  | .lload i => xK len 2 ((xLLv i lv).map fun v => (pc + 2, lv, v :: st, hp))
  | .lload_n i => xK len 1 ((xLLv i.val lv).map fun v => (pc + 1, lv, v :: st, hp))
  | .aload i => xK len 2 ((xLAv i lv).map fun v => (pc + 2, lv, v :: st, hp))
  | .aload_n i => xK len 1 ((xLAv i.val lv).map fun v => (pc + 1, lv, v :: st, hp))
  | .istore i => xK len 2 ((xPopI st).bind fun q => if i < nL then some (pc + 2, xS1 lv i (.int q.1), q.2, hp) else none)
  | .istore_n i => xK len 1 ((xPopI st).bind fun q => if i.val < nL then some (pc + 1, xS1 lv (i.val) (.int q.1), q.2, hp) else none)
  | .lstore i => xK len 2 ((xPopL st).bind fun q => if i + 1 < nL then some (pc + 2, xS2 lv i (.long q.1), q.2, hp) else none)
  | .lstore_n i => xK len 1 ((xPopL st).bind fun q => if i.val + 1 < nL then some (pc + 1, xS2 lv (i.val) (.long q.1), q.2, hp) else none)
  | .astore i => xK len 2 ((xPopA st).bind fun q => if i < nL then some (pc + 2, xS1 lv i q.1, q.2, hp) else none)
  | .astore_n i => xK len 1 ((xPopA st).bind fun q => if i.val < nL then some (pc + 1, xS1 lv (i.val) q.1, q.2, hp) else none)
  | .iinc i n => xK len 3 ((xLIn i lv).bind fun x => if i < nL then some (pc + 3, xS1 lv i (.int (x + Int32.ofInt n)), st, hp) else none)
  | .ifCond cn off => xK len 3 ((xPopI st).bind fun q => (xTg pc off).map fun t => (if xCn cn q.1 0 then t else pc + 3, lv, q.2, hp))
  | .if_icmp cn off => xK len 3 ((xPopI st).bind fun q => (xPopI q.2).bind fun q2 => (xTg pc off).map fun t => (if xCn cn q2.1 q.1 then t else pc + 3, lv, q2.2, hp))
  | .goto off => xK len 3 ((xTg pc off).map fun t => (t, lv, st, hp))
  | .ifnull off => xK len 3 ((xPopA st).bind fun q => (xTg pc off).map fun t => (if q.1 = .null then t else pc + 3, lv, q.2, hp))
  | .ifnonnull off => xK len 3 ((xPopA st).bind fun q => (xTg pc off).map fun t => (if q.1 = .null then pc + 3 else t, lv, q.2, hp))
  | .tableswitch d lo hi offs => (xPopI st).bind fun q => (xTab d lo hi offs q.1).bind fun off => (xTg pc off).map fun t => (t, lv, q.2, hp)
  | .lookupswitch d ps => if (ps.toList.zip (ps.toList.drop 1)).all (fun (a, next) => a.1 < next.1) = true then (xPopI st).bind fun q => (xTg pc (Op.lookupswitch.offset ps.toList d q.1.toInt)).map fun t => (t, lv, q.2, hp) else none
  | .dup => xK len 1 ((xDup st).map fun t => (pc + 1, lv, t, hp))
  | .pop => xK len 1 ((xPop st).map fun t => (pc + 1, lv, t, hp))
  | .dup_x1 => xK len 1 ((xDupX1 st).map fun t => (pc + 1, lv, t, hp))
  | .dup_x2 => xK len 1 ((xDupX2 st).map fun t => (pc + 1, lv, t, hp))
  | .dup2 => xK len 1 ((xDup2 st).map fun t => (pc + 1, lv, t, hp))
  | .pop2 => xK len 1 ((xPop2 st).map fun t => (pc + 1, lv, t, hp))
  | .getfield idx => xK len 3 ((xGet fl idx hp st).map fun t => (pc + 3, lv, t, hp))
  | .putfield idx => xK len 3 ((xPut cl ini fl idx hp st).map fun t => (pc + 3, lv, t.1, t.2))
  | .iaload => xK len 1 ((xAld 0 hp st).map fun t => (pc + 1, lv, t, hp))
  | .caload => xK len 1 ((xAld 3 hp st).map fun t => (pc + 1, lv, t, hp))
  | .baload => xK len 1 (((xAld 2 hp st).or (xAld 4 hp st)).map fun t => (pc + 1, lv, t, hp))
  | .laload => xK len 1 ((xAldL hp st).map fun t => (pc + 1, lv, t, hp))
  | .iastore => xK len 1 ((xAst 0 (fun x => x) hp st).map fun t => (pc + 1, lv, t.1, t.2))
  | .castore => xK len 1 ((xAst 3 (vp_nar .char) hp st).map fun t => (pc + 1, lv, t.1, t.2))
  | .bastore => xK len 1 (((xAst 2 (vp_nar .byte) hp st).or (xAst 4 (vp_nar .boolean) hp st)).map fun t => (pc + 1, lv, t.1, t.2))
  | .lastore => xK len 1 ((xAstL hp st).map fun t => (pc + 1, lv, t.1, t.2))
  | .arraylength => xK len 1 ((xAlen hp st).map fun t => (pc + 1, lv, t, hp))
  | _ => none

theorem xv_cat (ρ : Nat → Nat) (v : Value) : (xv ρ v).category = v.category := by cases v <;> rfl
theorem xK_eq {a b : Nat} {r : x_R} {z : Nat × List (Nat × Value) × List Value × List x_E} (h : xK a b r = some z) : a = b ∧ r = some z := by
  unfold xK at h
  split at h
  · rename_i e; exact ⟨e, h⟩
  · cases h
theorem xTg_eq {pc t : Nat} {off : Int} (h : xTg pc off = some t) : (pc : Int) + off = (t : Int) := by
  unfold xTg at h
  split at h
  · rename_i e; cases h; exact e
  · cases h
theorem xLd_mem {lv : List (Nat × Value)} {i : Nat} {v : Value} (h : xLd lv i = some v) : (i, v) ∈ lv := by
  induction lv with
  | nil => cases h
  | cons q r ih =>
    unfold xLd at h
    split at h
    · rename_i e; cases h; subst e; exact List.mem_cons_self
    · exact List.mem_cons_of_mem _ (ih h)
theorem xat {ρ : Nat → Nat} {ls : Array Slot} {nL : Nat} {lv : List (Nat × Value)} (hl : lv_has ls nL (lv.map (xq ρ))) {i : Nat} {v : Value} (hm : (i, v) ∈ lv) : ls[i]? = some (.val (xv ρ v)) := hl.2.2 (i, xv ρ v) (List.mem_map.mpr ⟨(i, v), hm, rfl⟩)
theorem xS1_map (ρ : Nat → Nat) (lv : List (Nat × Value)) (i : Nat) (v : Value) : (xS1 lv i v).map (xq ρ) = (i, xv ρ v) :: (lv.map (xq ρ)).filter (fun q => !(q.1 == i) && !(q.1 + 1 == i && q.2.category == 2)) := by
  simp only [xS1, List.map_cons, List.filter_map, Function.comp_def, xq, xv_cat]
theorem xS2_map (ρ : Nat → Nat) (lv : List (Nat × Value)) (i : Nat) (v : Value) : (xS2 lv i v).map (xq ρ) = (i, xv ρ v) :: (lv.map (xq ρ)).filter (fun q => !(q.1 == i) && (!(q.1 == i + 1) && !(q.1 + 1 == i && q.2.category == 2))) := by
  simp only [xS2, List.map_cons, List.filter_map, Function.comp_def, xq, xv_cat]
theorem xw_get {ρ : Nat → Nat} {cA : Nat → ClassId} {hp : List x_E} {i : Nat} : (xw ρ cA hp)[i]? = (hp[i]?).map (fun c => (ρ i, xe ρ cA c)) := by
  simp [xw, List.getElem?_mapIdx]
theorem xw_len {ρ : Nat → Nat} {cA : Nat → ClassId} {hp : List x_E} : (xw ρ cA hp).length = hp.length := by simp [xw]
theorem xw_set {ρ : Nat → Nat} {cA : Nat → ClassId} {hp : List x_E} {i : Nat} (h : i < hp.length) {x : x_E} : (xw ρ cA hp).set i (ρ i, xe ρ cA x) = xw ρ cA (hp.set i x) := by
  apply List.ext_getElem?
  intro j
  rw [List.getElem?_set, xw_get, xw_get, List.getElem?_set, xw_len]
  by_cases e : i = j
  · subst e; simp [h]
  · simp [e]
theorem xsetA {ρ : Nat → Nat} {cA : Nat → ClassId} {hp : List x_E} {i t : Nat} (h : i < hp.length) {x : vp_A} : (xw ρ cA hp).set i (ρ i, .inl (cA t, x)) = xw ρ cA (hp.set i (.inl (t, x))) := xw_set (x := .inl (t, x)) h
theorem xor {α : Type} {a b : Option α} {t : α} (h : a.or b = some t) : a = some t ∨ b = some t := by
  cases a with
  | none => exact Or.inr h
  | some x => exact Or.inl h
theorem xnar {ρ : Nat → Nat} {ty : FieldType} {v : Value} (h : narrow ty v = v) : narrow ty (xv ρ v) = xv ρ v := by
  cases v with
  | ref i => cases ty <;> rfl
  | _ => exact h
theorem xfit {ρ : Nat → Nat} {ty : FieldType} {v : Value} (h : fits ty v = true) : fits ty (xv ρ v) = true := by
  cases v with
  | ref i => cases ty <;> first | rfl | exact h
  | _ => exact h
theorem xtys5 (cA : Nat → ClassId) {t : Nat} (h : t < 5) : ∃ ty, (x_tys cA)[t]? = some (cA t, ty) := by
  match t, h with
  | 0, _ => exact ⟨_, rfl⟩
  | 1, _ => exact ⟨_, rfl⟩
  | 2, _ => exact ⟨_, rfl⟩
  | 3, _ => exact ⟨_, rfl⟩
  | 4, _ => exact ⟨_, rfl⟩

theorem xI2_inv {f : Int32 → Int32 → Int32} {st t : List Value} (h : xI2 f st = some t) : ∃ x y r, st = .int y :: .int x :: r ∧ t = .int (f x y) :: r := by
  unfold xI2 at h
  split at h
  · cases h; exact ⟨_, _, _, rfl, rfl⟩
  · cases h

theorem xI2z_inv {f : Int32 → Int32 → Int32} {st t : List Value} (h : xI2z f st = some t) : ∃ x y r, ¬ y = 0 ∧ st = .int y :: .int x :: r ∧ t = .int (f x y) :: r := by
  unfold xI2z at h
  split at h
  · split at h
    · cases h
    · rename_i hz; cases h; exact ⟨_, _, _, hz, rfl, rfl⟩
  · cases h

theorem xL2_inv {f : Int64 → Int64 → Int64} {st t : List Value} (h : xL2 f st = some t) : ∃ x y r, st = .long y :: .long x :: r ∧ t = .long (f x y) :: r := by
  unfold xL2 at h
  split at h
  · cases h; exact ⟨_, _, _, rfl, rfl⟩
  · cases h

theorem xLI_inv {f : Int64 → Int32 → Int64} {st t : List Value} (h : xLI f st = some t) : ∃ x y r, st = .int y :: .long x :: r ∧ t = .long (f x y) :: r := by
  unfold xLI at h
  split at h
  · cases h; exact ⟨_, _, _, rfl, rfl⟩
  · cases h

theorem xLL_inv {f : Int64 → Int64 → Int32} {st t : List Value} (h : xLL f st = some t) : ∃ x y r, st = .long y :: .long x :: r ∧ t = .int (f x y) :: r := by
  unfold xLL at h
  split at h
  · cases h; exact ⟨_, _, _, rfl, rfl⟩
  · cases h

theorem xII_inv {f : Int32 → Int32} {st t : List Value} (h : xII f st = some t) : ∃ x r, st = .int x :: r ∧ t = .int (f x) :: r := by
  unfold xII at h
  split at h
  · cases h; exact ⟨_, _, rfl, rfl⟩
  · cases h

theorem xIL_inv {f : Int32 → Int64} {st t : List Value} (h : xIL f st = some t) : ∃ x r, st = .int x :: r ∧ t = .long (f x) :: r := by
  unfold xIL at h
  split at h
  · cases h; exact ⟨_, _, rfl, rfl⟩
  · cases h

theorem xLi_inv {f : Int64 → Int32} {st t : List Value} (h : xLi f st = some t) : ∃ x r, st = .long x :: r ∧ t = .int (f x) :: r := by
  unfold xLi at h
  split at h
  · cases h; exact ⟨_, _, rfl, rfl⟩
  · cases h

theorem xPopI_inv {st : List Value} {t : Int32 × List Value} (h : xPopI st = some t) : ∃ x r, st = .int x :: r ∧ t = (x, r) := by
  unfold xPopI at h
  split at h
  · cases h; exact ⟨_, _, rfl, rfl⟩
  · cases h

theorem xPopL_inv {st : List Value} {t : Int64 × List Value} (h : xPopL st = some t) : ∃ x r, st = .long x :: r ∧ t = (x, r) := by
  unfold xPopL at h
  split at h
  · cases h; exact ⟨_, _, rfl, rfl⟩
  · cases h

theorem xPopA_inv {st : List Value} {t : Value × List Value} (h : xPopA st = some t) : (∃ x r, st = .ref x :: r ∧ t = (.ref x, r)) ∨ ∃ r, st = .null :: r ∧ t = (.null, r) := by
  unfold xPopA at h
  split at h
  · cases h; exact Or.inl ⟨_, _, rfl, rfl⟩
  · cases h; exact Or.inr ⟨_, rfl, rfl⟩
  · cases h

theorem xLIv_inv {i : Nat} {lv : List (Nat × Value)} {t : Value} (h : xLIv i lv = some t) : ∃ x, t = .int x ∧ (i, .int x) ∈ lv := by
  unfold xLIv at h
  split at h
  · rename_i e; cases h; exact ⟨_, rfl, xLd_mem e⟩
  · cases h

theorem xLLv_inv {i : Nat} {lv : List (Nat × Value)} {t : Value} (h : xLLv i lv = some t) : ∃ x, t = .long x ∧ (i, .long x) ∈ lv := by
  unfold xLLv at h
  split at h
  · rename_i e; cases h; exact ⟨_, rfl, xLd_mem e⟩
  · cases h

theorem xLIn_inv {i : Nat} {lv : List (Nat × Value)} {t : Int32} (h : xLIn i lv = some t) : (i, .int t) ∈ lv := by
  unfold xLIn at h
  split at h
  · rename_i e; cases h; exact xLd_mem e
  · cases h

theorem xLAv_inv {i : Nat} {lv : List (Nat × Value)} {t : Value} (h : xLAv i lv = some t) : (∃ x, t = .ref x ∧ (i, .ref x) ∈ lv) ∨ (t = .null ∧ (i, .null) ∈ lv) := by
  unfold xLAv at h
  split at h
  · rename_i e; cases h; exact Or.inl ⟨_, rfl, xLd_mem e⟩
  · rename_i e; cases h; exact Or.inr ⟨rfl, xLd_mem e⟩
  · cases h

theorem xDup_inv {st t : List Value} (h : xDup st = some t) : ∃ v r, v.category = 1 ∧ st = v :: r ∧ t = v :: v :: r := by
  unfold xDup at h
  split at h
  · split at h
    · rename_i c1; cases h; exact ⟨_, _, c1, rfl, rfl⟩
    · cases h
  · cases h

theorem xPop_inv {st t : List Value} (h : xPop st = some t) : ∃ v r, v.category = 1 ∧ st = v :: r ∧ t = r := by
  unfold xPop at h
  split at h
  · split at h
    · rename_i c1; cases h; exact ⟨_, _, c1, rfl, rfl⟩
    · cases h
  · cases h

theorem xDupX1_inv {st t : List Value} (h : xDupX1 st = some t) : ∃ v w r, v.category = 1 ∧ w.category = 1 ∧ st = v :: w :: r ∧ t = v :: w :: v :: r := by
  unfold xDupX1 at h
  split at h
  · split at h
    · rename_i c1; cases h; exact ⟨_, _, _, c1.1, c1.2, rfl, rfl⟩
    · cases h
  · cases h

theorem xDupX2_inv {st t : List Value} (h : xDupX2 st = some t) : ∃ v w u r, v.category = 1 ∧ w.category = 1 ∧ u.category = 1 ∧ st = v :: w :: u :: r ∧ t = v :: w :: u :: v :: r := by
  unfold xDupX2 at h
  split at h
  · split at h
    · rename_i c1; cases h; exact ⟨_, _, _, _, c1.1, c1.2.1, c1.2.2, rfl, rfl⟩
    · cases h
  · cases h

theorem xDup2_inv {st t : List Value} (h : xDup2 st = some t) : ∃ v w r, v.category = 1 ∧ w.category = 1 ∧ st = v :: w :: r ∧ t = v :: w :: v :: w :: r := by
  unfold xDup2 at h
  split at h
  · split at h
    · rename_i c1; cases h; exact ⟨_, _, _, c1.1, c1.2, rfl, rfl⟩
    · cases h
  · cases h

theorem xPop2_inv {st t : List Value} (h : xPop2 st = some t) : ∃ v r, v.category = 2 ∧ st = v :: r ∧ t = r := by
  unfold xPop2 at h
  split at h
  · split at h
    · rename_i c1; cases h; exact ⟨_, _, c1, rfl, rfl⟩
    · cases h
  · cases h

theorem xGet_inv {fl : Nat → Option (Nat × Nat)} {idx : Nat} {hp : List x_E} {st t : List Value} (h : xGet fl idx hp st = some t) : ∃ i r ci k fs v, st = .ref i :: r ∧ fl idx = some (ci, k) ∧ hp[i]? = some (.inr (ci, fs)) ∧ fs[k]? = some v ∧ t = v :: r := by
  unfold xGet at h
  split at h
  · split at h
    · cases h
    · rename_i hf
      split at h
      · rename_i hi
        split at h
        · rename_i hc
          split at h
          · rename_i hv
            cases h
            subst hc
            exact ⟨_, _, _, _, _, _, rfl, hf, hi, hv, rfl⟩
          · cases h
        · cases h
      · cases h
  · cases h

theorem xPut_inv {cl : List vw_C} {ini : Bool} {fl : Nat → Option (Nat × Nat)} {idx : Nat} {hp : List x_E} {st : List Value} {t : List Value × List x_E} (h : xPut cl ini fl idx hp st = some t) : ∃ v i r ci k fs q, st = v :: .ref i :: r ∧ fl idx = some (ci, k) ∧ hp[i]? = some (.inr (ci, fs)) ∧ cl[ci]? = some q ∧ k < fs.length ∧ narrow (xty q k) v = v ∧ fits (xty q k) v = true ∧ ((q.2.1 k).2.2.2 = false ∨ ini = true) ∧ t = (r, hp.set i (.inr (ci, fs.set k v))) := by
  unfold xPut at h
  split at h
  · split at h
    · cases h
    · rename_i hf
      split at h
      · rename_i hi hc
        split at h
        · rename_i hq
          cases h
          obtain ⟨rfl, h1, h2, h3, h4⟩ := hq
          exact ⟨_, _, _, _, _, _, _, rfl, hf, hi, hc, h1, h2, h3, h4, rfl⟩
        · cases h
      · cases h
  · cases h

theorem xAld_inv {t0 : Nat} {hp : List x_E} {st t : List Value} (h : xAld t0 hp st = some t) : ∃ i a r n f, st = .int i :: .ref a :: r ∧ hp[a]? = some (.inl (t0, n, .inl f)) ∧ vp_in i n ∧ t = .int (f i.toNatClampNeg) :: r := by
  unfold xAld at h
  split at h
  · split at h
    · rename_i ha
      split at h
      · rename_i hq
        cases h
        obtain ⟨rfl, h1⟩ := hq
        exact ⟨_, _, _, _, _, rfl, ha, h1, rfl⟩
      · cases h
    · cases h
  · cases h

theorem xAldL_inv {hp : List x_E} {st t : List Value} (h : xAldL hp st = some t) : ∃ i a r n f, st = .int i :: .ref a :: r ∧ hp[a]? = some (.inl (1, n, .inr (.inl f))) ∧ vp_in i n ∧ t = .long (f i.toNatClampNeg) :: r := by
  unfold xAldL at h
  split at h
  · split at h
    · rename_i ha
      split at h
      · rename_i hq
        cases h
        obtain ⟨rfl, h1⟩ := hq
        exact ⟨_, _, _, _, _, rfl, ha, h1, rfl⟩
      · cases h
    · cases h
  · cases h

theorem xAst_inv {t0 : Nat} {g : Int32 → Int32} {hp : List x_E} {st : List Value} {t : List Value × List x_E} (h : xAst t0 g hp st = some t) : ∃ x i a r n f, st = .int x :: .int i :: .ref a :: r ∧ hp[a]? = some (.inl (t0, n, .inl f)) ∧ vp_in i n ∧ t = (r, hp.set a (.inl (t0, n, .inl (upd f i.toNatClampNeg (g x))))) := by
  unfold xAst at h
  split at h
  · split at h
    · rename_i ha
      split at h
      · rename_i hq
        cases h
        obtain ⟨rfl, h1⟩ := hq
        exact ⟨_, _, _, _, _, _, rfl, ha, h1, rfl⟩
      · cases h
    · cases h
  · cases h

theorem xAstL_inv {hp : List x_E} {st : List Value} {t : List Value × List x_E} (h : xAstL hp st = some t) : ∃ x i a r n f, st = .long x :: .int i :: .ref a :: r ∧ hp[a]? = some (.inl (1, n, .inr (.inl f))) ∧ vp_in i n ∧ t = (r, hp.set a (.inl (1, n, .inr (.inl (vp_updL f i.toNatClampNeg x))))) := by
  unfold xAstL at h
  split at h
  · split at h
    · rename_i ha
      split at h
      · rename_i hq
        cases h
        obtain ⟨rfl, h1⟩ := hq
        exact ⟨_, _, _, _, _, _, rfl, ha, h1, rfl⟩
      · cases h
    · cases h
  · cases h

theorem xAlen_inv {hp : List x_E} {st t : List Value} (h : xAlen hp st = some t) : ∃ a r t0 y, st = .ref a :: r ∧ hp[a]? = some (.inl (t0, y)) ∧ t0 < 5 ∧ t = .int (Int32.ofNat y.1) :: r := by
  unfold xAlen at h
  split at h
  · split at h
    · rename_i ha
      split at h
      · rename_i hq
        cases h
        exact ⟨_, _, _, _, rfl, ha, hq, rfl⟩
      · cases h
    · cases h
  · cases h

/-- what the tables say of the links of an owner, and of the classes -/
def xFok (own : String) (fl : Nat → Option (Nat × Nat)) (cl : List vw_C) (Ts : List Cond) : Prop := ∀ (idx ci k : Nat), fl idx = some (ci, k) → ∃ q : vw_C, cl[ci]? = some q ∧ k < q.2.2 ∧ Cond.fieldLink own idx (q.2.1 k).1 (q.2.1 k).2.1 (q.2.1 k).2.2.1 ∈ Ts ∧ (q.2.1 k).1 = own
def xCok (cl : List vw_C) (Ts : List Cond) : Prop := ∀ (ci : Nat) (q : vw_C), cl[ci]? = some q → (∀ w ∈ u_ws q.1 q.2.1 q.2.2, w ∈ Ts) ∧ (∀ k, k < q.2.2 → parseFieldDescriptor (q.2.1 k).2.2.1 = some (xty q k)) ∧ (∀ a, a < q.2.2 → ∀ b, b < q.2.2 → a ≠ b → (q.2.1 a).2.1 ≠ (q.2.1 b).2.1)
section XS
variable {p : Program} {l : Launch} {e : Env} {R : Room} {s : State} {m : MethodId} {args : Array Value} {below : List Frame} {meth : Method} {c : Code} {H : Heap} {locs : List Loc} {cells slots : Nat} {Q : State → Prop}
set_option maxHeartbeats 4000000 in
set_option maxRecDepth 20000 in
/-- a plain step is sound -/
theorem xs1_ok {cc : ByteArray} {own : String} {Ts : List Cond} {cl : List vw_C} {D : va_G} {cA : Nat → ClassId} {A : Nat → Prop} {H0 : Heap} {ρ : Nat → Nat} {ini : Bool} {nL : Nat} {fl : Nat → Option (Nat × Nat)} {kc : Nat → Option Int32} {kl : Nat → Option Int64} {i : Instr} {len pc : Nat} {lv : List (Nat × Value)} {st : List Value} {hp : List x_E} {pc' : Nat} {lv' : List (Nat × Value)} {st' : List Value} {hp' : List x_E} {ls : Array Slot}
    (hx : p.tables.exec = Jvm.exec) (hb : c.code = cc) (hts : ∀ w ∈ Ts, w.before args s = true) (hown : s.vm.findClass own = some m.cls) (hK : va_K D cl (x_tys cA) s) (hini : ini = true → meth.name = "<init>") (hcl : xCok cl Ts) (hfl : xFok own fl cl Ts) (hkc : ∀ idx v, kc idx = some v → (Cond.constant own idx v).before args s = true) (hkl : ∀ idx v, kl idx = some v → (Cond.constantLong own idx v).before args s = true)
    (hw : va_P D cl (xw ρ cA hp) H ∧ va_D A (xw ρ cA hp) ∧ va_S A H0 H locs) (hl : lv_has ls nL (lv.map (xq ρ))) (hdg : decode cc pc = .ok (i, len)) (h : xs1 cl ini nL fl kc kl i len pc lv st hp = some (pc', lv', st', hp'))
    (kk : ∀ (H1 : Heap) (locs1 : List Loc) (ls1 : Array Slot), (va_P D cl (xw ρ cA hp') H1 ∧ va_D A (xw ρ cA hp') ∧ va_S A H0 H1 locs1) → lv_has ls1 nL (lv'.map (xq ρ)) → W p l e R s m args below meth c H1 locs1 cells slots Q (F0 m pc' ls1 (st'.map (xv ρ)))) : W p l e R s m args below meth c H locs cells slots Q (F0 m pc ls (st.map (xv ρ))) := by
  cases i with
  | iadd =>
    obtain ⟨rfl, h⟩ := xK_eq h
    obtain ⟨t, ht, he⟩ := Option.map_eq_some_iff.mp h
    obtain ⟨x, y, r, rfl, rfl⟩ := xI2_inv ht
    cases he
    exact lv_iadd hx hb hdg (kk H locs ls hw hl)
  | isub =>
    obtain ⟨rfl, h⟩ := xK_eq h
    obtain ⟨t, ht, he⟩ := Option.map_eq_some_iff.mp h
    obtain ⟨x, y, r, rfl, rfl⟩ := xI2_inv ht
    cases he
    exact lv_isub hx hb hdg (kk H locs ls hw hl)
  | imul =>
    obtain ⟨rfl, h⟩ := xK_eq h
    obtain ⟨t, ht, he⟩ := Option.map_eq_some_iff.mp h
    obtain ⟨x, y, r, rfl, rfl⟩ := xI2_inv ht
    cases he
    exact lv_imul hx hb hdg (kk H locs ls hw hl)
  | iand =>
    obtain ⟨rfl, h⟩ := xK_eq h
    obtain ⟨t, ht, he⟩ := Option.map_eq_some_iff.mp h
    obtain ⟨x, y, r, rfl, rfl⟩ := xI2_inv ht
    cases he
    exact lv_iand hx hb hdg (kk H locs ls hw hl)
  | ior =>
    obtain ⟨rfl, h⟩ := xK_eq h
    obtain ⟨t, ht, he⟩ := Option.map_eq_some_iff.mp h
    obtain ⟨x, y, r, rfl, rfl⟩ := xI2_inv ht
    cases he
    exact lv_ior hx hb hdg (kk H locs ls hw hl)
  | ixor =>
    obtain ⟨rfl, h⟩ := xK_eq h
    obtain ⟨t, ht, he⟩ := Option.map_eq_some_iff.mp h
    obtain ⟨x, y, r, rfl, rfl⟩ := xI2_inv ht
    cases he
    exact lv_ixor hx hb hdg (kk H locs ls hw hl)
  | ishl =>
    obtain ⟨rfl, h⟩ := xK_eq h
    obtain ⟨t, ht, he⟩ := Option.map_eq_some_iff.mp h
    obtain ⟨x, y, r, rfl, rfl⟩ := xI2_inv ht
    cases he
    exact lv_ishl hx hb hdg (kk H locs ls hw hl)
  | ishr =>
    obtain ⟨rfl, h⟩ := xK_eq h
    obtain ⟨t, ht, he⟩ := Option.map_eq_some_iff.mp h
    obtain ⟨x, y, r, rfl, rfl⟩ := xI2_inv ht
    cases he
    exact lv_ishr hx hb hdg (kk H locs ls hw hl)
  | iushr =>
    obtain ⟨rfl, h⟩ := xK_eq h
    obtain ⟨t, ht, he⟩ := Option.map_eq_some_iff.mp h
    obtain ⟨x, y, r, rfl, rfl⟩ := xI2_inv ht
    cases he
    exact lv_iushr hx hb hdg rfl (kk H locs ls hw hl)
  | idiv =>
    obtain ⟨rfl, h⟩ := xK_eq h
    obtain ⟨t, ht, he⟩ := Option.map_eq_some_iff.mp h
    obtain ⟨x, y, r, hz, rfl, rfl⟩ := xI2z_inv ht
    cases he
    exact lv_idiv hx hb hdg hz (kk H locs ls hw hl)
  | irem =>
    obtain ⟨rfl, h⟩ := xK_eq h
    obtain ⟨t, ht, he⟩ := Option.map_eq_some_iff.mp h
    obtain ⟨x, y, r, hz, rfl, rfl⟩ := xI2z_inv ht
    cases he
    exact lv_irem hx hb hdg hz (kk H locs ls hw hl)
  | ladd =>
    obtain ⟨rfl, h⟩ := xK_eq h
    obtain ⟨t, ht, he⟩ := Option.map_eq_some_iff.mp h
    obtain ⟨x, y, r, rfl, rfl⟩ := xL2_inv ht
    cases he
    exact lv_ladd hx hb hdg (kk H locs ls hw hl)
  | lsub =>
    obtain ⟨rfl, h⟩ := xK_eq h
    obtain ⟨t, ht, he⟩ := Option.map_eq_some_iff.mp h
    obtain ⟨x, y, r, rfl, rfl⟩ := xL2_inv ht
    cases he
    exact lv_lsub hx hb hdg (kk H locs ls hw hl)
  | lmul =>
    obtain ⟨rfl, h⟩ := xK_eq h
    obtain ⟨t, ht, he⟩ := Option.map_eq_some_iff.mp h
    obtain ⟨x, y, r, rfl, rfl⟩ := xL2_inv ht
    cases he
    exact lv_lmul hx hb hdg (kk H locs ls hw hl)
  | land =>
    obtain ⟨rfl, h⟩ := xK_eq h
    obtain ⟨t, ht, he⟩ := Option.map_eq_some_iff.mp h
    obtain ⟨x, y, r, rfl, rfl⟩ := xL2_inv ht
    cases he
    exact lv_land hx hb hdg (kk H locs ls hw hl)
  | lor =>
    obtain ⟨rfl, h⟩ := xK_eq h
    obtain ⟨t, ht, he⟩ := Option.map_eq_some_iff.mp h
    obtain ⟨x, y, r, rfl, rfl⟩ := xL2_inv ht
    cases he
    exact lv_lor hx hb hdg (kk H locs ls hw hl)
  | lxor =>
    obtain ⟨rfl, h⟩ := xK_eq h
    obtain ⟨t, ht, he⟩ := Option.map_eq_some_iff.mp h
    obtain ⟨x, y, r, rfl, rfl⟩ := xL2_inv ht
    cases he
    exact lv_lxor hx hb hdg (kk H locs ls hw hl)
  | lshl =>
    obtain ⟨rfl, h⟩ := xK_eq h
    obtain ⟨t, ht, he⟩ := Option.map_eq_some_iff.mp h
    obtain ⟨x, y, r, rfl, rfl⟩ := xLI_inv ht
    cases he
    exact lv_lshl hx hb hdg rfl (kk H locs ls hw hl)
  | lshr =>
    obtain ⟨rfl, h⟩ := xK_eq h
    obtain ⟨t, ht, he⟩ := Option.map_eq_some_iff.mp h
    obtain ⟨x, y, r, rfl, rfl⟩ := xLI_inv ht
    cases he
    exact lv_lshr hx hb hdg rfl (kk H locs ls hw hl)
  | lushr =>
    obtain ⟨rfl, h⟩ := xK_eq h
    obtain ⟨t, ht, he⟩ := Option.map_eq_some_iff.mp h
    obtain ⟨x, y, r, rfl, rfl⟩ := xLI_inv ht
    cases he
    exact lv_lushr hx hb hdg rfl (kk H locs ls hw hl)
  | lcmp =>
    obtain ⟨rfl, h⟩ := xK_eq h
    obtain ⟨t, ht, he⟩ := Option.map_eq_some_iff.mp h
    obtain ⟨x, y, r, rfl, rfl⟩ := xLL_inv ht
    cases he
    exact W.lcmp hx hb hdg (kk H locs ls hw hl)
  | ineg =>
    obtain ⟨rfl, h⟩ := xK_eq h
    obtain ⟨t, ht, he⟩ := Option.map_eq_some_iff.mp h
    obtain ⟨x, r, rfl, rfl⟩ := xII_inv ht
    cases he
    exact lv_ineg hx hb hdg (kk H locs ls hw hl)
  | i2b =>
    obtain ⟨rfl, h⟩ := xK_eq h
    obtain ⟨t, ht, he⟩ := Option.map_eq_some_iff.mp h
    obtain ⟨x, r, rfl, rfl⟩ := xII_inv ht
    cases he
    exact lv_i2b hx hb hdg rfl (kk H locs ls hw hl)
  | i2s =>
    obtain ⟨rfl, h⟩ := xK_eq h
    obtain ⟨t, ht, he⟩ := Option.map_eq_some_iff.mp h
    obtain ⟨x, r, rfl, rfl⟩ := xII_inv ht
    cases he
    exact lv_i2s hx hb hdg rfl (kk H locs ls hw hl)
  | i2c =>
    obtain ⟨rfl, h⟩ := xK_eq h
    obtain ⟨t, ht, he⟩ := Option.map_eq_some_iff.mp h
    obtain ⟨x, r, rfl, rfl⟩ := xII_inv ht
    cases he
    exact lv_i2c hx hb hdg rfl (kk H locs ls hw hl)
  | i2l =>
    obtain ⟨rfl, h⟩ := xK_eq h
    obtain ⟨t, ht, he⟩ := Option.map_eq_some_iff.mp h
    obtain ⟨x, r, rfl, rfl⟩ := xIL_inv ht
    cases he
    exact lv_i2l hx hb hdg rfl (kk H locs ls hw hl)
  | l2i =>
    obtain ⟨rfl, h⟩ := xK_eq h
    obtain ⟨t, ht, he⟩ := Option.map_eq_some_iff.mp h
    obtain ⟨x, r, rfl, rfl⟩ := xLi_inv ht
    cases he
    exact lv_l2i hx hb hdg rfl (kk H locs ls hw hl)
  | iconst n =>
    obtain ⟨rfl, h⟩ := xK_eq h
    cases h
    exact lv_iconst hx hb hdg rfl (kk H locs ls hw hl)
  | bipush n =>
    obtain ⟨rfl, h⟩ := xK_eq h
    cases h
    exact lv_bipush hx hb hdg rfl (kk H locs ls hw hl)
  | sipush n =>
    obtain ⟨rfl, h⟩ := xK_eq h
    cases h
    exact lv_sipush hx hb hdg rfl (kk H locs ls hw hl)
  | lconst n =>
    obtain ⟨rfl, h⟩ := xK_eq h
    cases h
    exact lv_lconst hx hb hdg rfl (kk H locs ls hw hl)
  | aconst_null =>
    obtain ⟨rfl, h⟩ := xK_eq h
    cases h
    exact lv_null hx hb hdg (kk H locs ls hw hl)
  | ldc idx =>
    obtain ⟨rfl, h⟩ := xK_eq h
    obtain ⟨t, ht, he⟩ := Option.map_eq_some_iff.mp h
    cases he
    exact lv_ldc hx hb hown (hkc _ _ ht) hdg (kk H locs ls hw hl)
  | ldc_w idx =>
    obtain ⟨rfl, h⟩ := xK_eq h
    obtain ⟨t, ht, he⟩ := Option.map_eq_some_iff.mp h
    cases he
    exact lv_ldcw hx hb hown (hkc _ _ ht) hdg (kk H locs ls hw hl)
  | ldc2_w idx =>
    obtain ⟨rfl, h⟩ := xK_eq h
    obtain ⟨t, ht, he⟩ := Option.map_eq_some_iff.mp h
    cases he
    exact lv_ldc2 hx hb hown (hkl _ _ ht) hdg (kk H locs ls hw hl)
  | iload i =>
    obtain ⟨rfl, h⟩ := xK_eq h
    obtain ⟨t, ht, he⟩ := Option.map_eq_some_iff.mp h
    obtain ⟨x, rfl, hm⟩ := xLIv_inv ht
    cases he
    exact lv_iload hx hb hdg (xat hl hm) (kk H locs ls hw hl)
  | iload_n i =>
    obtain ⟨rfl, h⟩ := xK_eq h
    obtain ⟨t, ht, he⟩ := Option.map_eq_some_iff.mp h
    obtain ⟨x, rfl, hm⟩ := xLIv_inv ht
    cases he
    exact lv_iload_n hx hb hdg rfl (xat hl hm) (kk H locs ls hw hl)
  | lload i =>
    obtain ⟨rfl, h⟩ := xK_eq h
    obtain ⟨t, ht, he⟩ := Option.map_eq_some_iff.mp h
    obtain ⟨x, rfl, hm⟩ := xLLv_inv ht
    cases he
    exact lv_lload hx hb hdg (xat hl hm) (kk H locs ls hw hl)
  | lload_n i =>
    obtain ⟨rfl, h⟩ := xK_eq h
    obtain ⟨t, ht, he⟩ := Option.map_eq_some_iff.mp h
    obtain ⟨x, rfl, hm⟩ := xLLv_inv ht
    cases he
    exact lv_lload_n hx hb hdg rfl (xat hl hm) (kk H locs ls hw hl)
  | aload i =>
    obtain ⟨rfl, h⟩ := xK_eq h
    obtain ⟨t, ht, he⟩ := Option.map_eq_some_iff.mp h
    rcases xLAv_inv ht with ⟨x, rfl, hm⟩ | ⟨rfl, hm⟩
    · cases he
      exact lv_aload hx hb hdg (xat hl hm) (kk H locs ls hw hl)
    · cases he
      exact lv_aloadN hx hb hdg (xat hl hm) (kk H locs ls hw hl)
  | aload_n i =>
    obtain ⟨rfl, h⟩ := xK_eq h
    obtain ⟨t, ht, he⟩ := Option.map_eq_some_iff.mp h
    rcases xLAv_inv ht with ⟨x, rfl, hm⟩ | ⟨rfl, hm⟩
    · cases he
      exact lv_aload_n hx hb hdg rfl (xat hl hm) (kk H locs ls hw hl)
    · cases he
      exact lv_aload_nN hx hb hdg rfl (xat hl hm) (kk H locs ls hw hl)
  | istore i =>
    obtain ⟨rfl, h⟩ := xK_eq h
    obtain ⟨q, hq, h⟩ := Option.bind_eq_some_iff.mp h
    obtain ⟨x, r, rfl, rfl⟩ := xPopI_inv hq
    split at h
    · rename_i hlt
      cases h
      exact lv_istore hx hb hdg hl hlt (xS1_map ρ lv _ (.int x)).symm (fun ls' hl' => kk H locs ls' hw hl')
    · cases h
  | istore_n i =>
    obtain ⟨rfl, h⟩ := xK_eq h
    obtain ⟨q, hq, h⟩ := Option.bind_eq_some_iff.mp h
    obtain ⟨x, r, rfl, rfl⟩ := xPopI_inv hq
    split at h
    · rename_i hlt
      cases h
      exact lv_istore_n hx hb hdg rfl hl hlt (xS1_map ρ lv _ (.int x)).symm (fun ls' hl' => kk H locs ls' hw hl')
    · cases h
  | lstore i =>
    obtain ⟨rfl, h⟩ := xK_eq h
    obtain ⟨q, hq, h⟩ := Option.bind_eq_some_iff.mp h
    obtain ⟨x, r, rfl, rfl⟩ := xPopL_inv hq
    split at h
    · rename_i hlt
      cases h
      exact lv_lstore hx hb hdg hl hlt (xS2_map ρ lv _ (.long x)).symm (fun ls' hl' => kk H locs ls' hw hl')
    · cases h
  | lstore_n i =>
    obtain ⟨rfl, h⟩ := xK_eq h
    obtain ⟨q, hq, h⟩ := Option.bind_eq_some_iff.mp h
    obtain ⟨x, r, rfl, rfl⟩ := xPopL_inv hq
    split at h
    · rename_i hlt
      cases h
      exact lv_lstore_n hx hb hdg rfl hl hlt (xS2_map ρ lv _ (.long x)).symm (fun ls' hl' => kk H locs ls' hw hl')
    · cases h
  | astore i =>
    obtain ⟨rfl, h⟩ := xK_eq h
    obtain ⟨q, hq, h⟩ := Option.bind_eq_some_iff.mp h
    split at h
    · rename_i hlt
      rcases xPopA_inv hq with ⟨x, r, rfl, rfl⟩ | ⟨r, rfl, rfl⟩
      · cases h
        exact lv_astore hx hb hdg hl hlt (xS1_map ρ lv _ (.ref x)).symm (fun ls' hl' => kk H locs ls' hw hl')
      · cases h
        exact lv_astoreN hx hb hdg hl hlt (xS1_map ρ lv _ .null).symm (fun ls' hl' => kk H locs ls' hw hl')
    · cases h
  | astore_n i =>
    obtain ⟨rfl, h⟩ := xK_eq h
    obtain ⟨q, hq, h⟩ := Option.bind_eq_some_iff.mp h
    split at h
    · rename_i hlt
      rcases xPopA_inv hq with ⟨x, r, rfl, rfl⟩ | ⟨r, rfl, rfl⟩
      · cases h
        exact lv_astore_n hx hb hdg rfl hl hlt (xS1_map ρ lv _ (.ref x)).symm (fun ls' hl' => kk H locs ls' hw hl')
      · cases h
        exact lv_astore_nN hx hb hdg rfl hl hlt (xS1_map ρ lv _ .null).symm (fun ls' hl' => kk H locs ls' hw hl')
    · cases h
  | iinc i n =>
    obtain ⟨rfl, h⟩ := xK_eq h
    obtain ⟨x, hq, h⟩ := Option.bind_eq_some_iff.mp h
    have hm := xLIn_inv hq
    split at h
    · rename_i hlt
      cases h
      obtain ⟨k, hk⟩ := List.getElem?_of_mem (List.mem_map.mpr ⟨_, hm, rfl⟩ : xq ρ (i, .int x) ∈ lv.map (xq ρ))
      exact lv_iinc hx hb hdg hl (k := k) hk rfl hlt (xS1_map ρ lv _ (.int (x + Int32.ofInt n))).symm (fun ls' hl' => kk H locs ls' hw hl')
    · cases h
  | ifCond cn off =>
    obtain ⟨rfl, h⟩ := xK_eq h
    obtain ⟨q, hq, h⟩ := Option.bind_eq_some_iff.mp h
    obtain ⟨x, r, rfl, rfl⟩ := xPopI_inv hq
    obtain ⟨t, ht, he⟩ := Option.map_eq_some_iff.mp h
    have htg := xTg_eq ht
    cases he
    cases cn with
    | eq => exact lv_if_eq hx hb hdg htg (fun hc => by have K := kk H locs ls hw hl; rw [if_pos (by simp [xCn, hc])] at K; exact K) (fun hc => by have K := kk H locs ls hw hl; rw [if_neg (by simp [xCn, hc])] at K; exact K)
    | ne => exact lv_if_ne hx hb hdg htg (fun hc => by have K := kk H locs ls hw hl; rw [if_pos (by simp [xCn, hc])] at K; exact K) (fun hc => by have K := kk H locs ls hw hl; rw [if_neg (by simp [xCn, hc])] at K; exact K)
    | lt => exact lv_if_lt hx hb hdg htg (fun hc => by have K := kk H locs ls hw hl; rw [if_pos (by simp [xCn, hc])] at K; exact K) (fun hc => by have K := kk H locs ls hw hl; rw [if_neg (by simp [xCn, hc])] at K; exact K)
    | ge => exact lv_if_ge hx hb hdg htg (fun hc => by have K := kk H locs ls hw hl; rw [if_pos (by simp [xCn, hc])] at K; exact K) (fun hc => by have K := kk H locs ls hw hl; rw [if_neg (by simp [xCn, hc])] at K; exact K)
    | gt => exact lv_if_gt hx hb hdg htg (fun hc => by have K := kk H locs ls hw hl; rw [if_pos (by simp [xCn, hc])] at K; exact K) (fun hc => by have K := kk H locs ls hw hl; rw [if_neg (by simp [xCn, hc])] at K; exact K)
    | le => exact lv_if_le hx hb hdg htg (fun hc => by have K := kk H locs ls hw hl; rw [if_pos (by simp [xCn, hc])] at K; exact K) (fun hc => by have K := kk H locs ls hw hl; rw [if_neg (by simp [xCn, hc])] at K; exact K)
  | if_icmp cn off =>
    obtain ⟨rfl, h⟩ := xK_eq h
    obtain ⟨q, hq, h⟩ := Option.bind_eq_some_iff.mp h
    obtain ⟨y, r, rfl, rfl⟩ := xPopI_inv hq
    obtain ⟨q2, hq2, h⟩ := Option.bind_eq_some_iff.mp h
    obtain ⟨x, r2, rfl, rfl⟩ := xPopI_inv hq2
    obtain ⟨t, ht, he⟩ := Option.map_eq_some_iff.mp h
    have htg := xTg_eq ht
    cases he
    cases cn with
    | eq => exact lv_icmp_eq hx hb hdg htg (fun hc => by have K := kk H locs ls hw hl; rw [if_pos (by simp [xCn, hc])] at K; exact K) (fun hc => by have K := kk H locs ls hw hl; rw [if_neg (by simp [xCn, hc])] at K; exact K)
    | ne => exact lv_icmp_ne hx hb hdg htg (fun hc => by have K := kk H locs ls hw hl; rw [if_pos (by simp [xCn, hc])] at K; exact K) (fun hc => by have K := kk H locs ls hw hl; rw [if_neg (by simp [xCn, hc])] at K; exact K)
    | lt => exact lv_icmp_lt hx hb hdg htg (fun hc => by have K := kk H locs ls hw hl; rw [if_pos (by simp [xCn, hc])] at K; exact K) (fun hc => by have K := kk H locs ls hw hl; rw [if_neg (by simp [xCn, hc])] at K; exact K)
    | ge => exact lv_icmp_ge hx hb hdg htg (fun hc => by have K := kk H locs ls hw hl; rw [if_pos (by simp [xCn, hc])] at K; exact K) (fun hc => by have K := kk H locs ls hw hl; rw [if_neg (by simp [xCn, hc])] at K; exact K)
    | gt => exact lv_icmp_gt hx hb hdg htg (fun hc => by have K := kk H locs ls hw hl; rw [if_pos (by simp [xCn, hc])] at K; exact K) (fun hc => by have K := kk H locs ls hw hl; rw [if_neg (by simp [xCn, hc])] at K; exact K)
    | le => exact lv_icmp_le hx hb hdg htg (fun hc => by have K := kk H locs ls hw hl; rw [if_pos (by simp [xCn, hc])] at K; exact K) (fun hc => by have K := kk H locs ls hw hl; rw [if_neg (by simp [xCn, hc])] at K; exact K)
  | goto off =>
    obtain ⟨rfl, h⟩ := xK_eq h
    obtain ⟨t, ht, he⟩ := Option.map_eq_some_iff.mp h
    cases he
    exact lv_goto hx hb hdg (xTg_eq ht) (kk H locs ls hw hl)
  | ifnull off =>
    obtain ⟨rfl, h⟩ := xK_eq h
    obtain ⟨q, hq, h⟩ := Option.bind_eq_some_iff.mp h
    obtain ⟨t, ht, he⟩ := Option.map_eq_some_iff.mp h
    rcases xPopA_inv hq with ⟨x, r, rfl, rfl⟩ | ⟨r, rfl, rfl⟩
    · cases he
      exact lv_ifnull hx hb hdg (by have K := kk H locs ls hw hl; rw [if_neg (by simp)] at K; exact K)
    · cases he
      exact lv_ifnullN hx hb hdg (xTg_eq ht) (by have K := kk H locs ls hw hl; rw [if_pos rfl] at K; exact K)
  | ifnonnull off =>
    obtain ⟨rfl, h⟩ := xK_eq h
    obtain ⟨q, hq, h⟩ := Option.bind_eq_some_iff.mp h
    obtain ⟨t, ht, he⟩ := Option.map_eq_some_iff.mp h
    rcases xPopA_inv hq with ⟨x, r, rfl, rfl⟩ | ⟨r, rfl, rfl⟩
    · cases he
      exact lv_ifnonnull hx hb hdg (xTg_eq ht) (by have K := kk H locs ls hw hl; rw [if_neg (by simp)] at K; exact K)
    · cases he
      exact lv_ifnonnullN hx hb hdg (by have K := kk H locs ls hw hl; rw [if_pos rfl] at K; exact K)
  | tableswitch d lo hi offs =>
    obtain ⟨q, hq, h⟩ := Option.bind_eq_some_iff.mp h
    obtain ⟨x, r, rfl, rfl⟩ := xPopI_inv hq
    obtain ⟨off, ho, h⟩ := Option.bind_eq_some_iff.mp h
    obtain ⟨t, ht, he⟩ := Option.map_eq_some_iff.mp h
    have htg := xTg_eq ht
    cases he
    unfold xTab at ho
    split at ho
    · rename_i hc
      cases ho
      exact lv_tableOut hx hb hdg hc htg (kk H locs ls hw hl)
    · rename_i hc
      exact lv_tableIn hx hb hdg (fun z => hc (Or.inl z)) (fun z => hc (Or.inr z)) ho htg (kk H locs ls hw hl)
  | lookupswitch d ps =>
    dsimp only [xs1] at h
    split at h
    · rename_i hp'
      obtain ⟨q, hq, h⟩ := Option.bind_eq_some_iff.mp h
      obtain ⟨x, r, rfl, rfl⟩ := xPopI_inv hq
      obtain ⟨t, ht, he⟩ := Option.map_eq_some_iff.mp h
      have htg := xTg_eq ht
      cases he
      exact lv_lookup hx hb hdg hp' rfl htg (kk H locs ls hw hl)
    · cases h
  | dup =>
    obtain ⟨rfl, h⟩ := xK_eq h
    obtain ⟨t, ht, he⟩ := Option.map_eq_some_iff.mp h
    obtain ⟨v, r, c1, rfl, rfl⟩ := xDup_inv ht
    cases he
    exact lv_dup hx hb hdg ((xv_cat ρ v).trans c1) (kk H locs ls hw hl)
  | pop =>
    obtain ⟨rfl, h⟩ := xK_eq h
    obtain ⟨t, ht, he⟩ := Option.map_eq_some_iff.mp h
    obtain ⟨v, r, c1, rfl, rfl⟩ := xPop_inv ht
    cases he
    exact lv_pop hx hb hdg ((xv_cat ρ v).trans c1) (kk H locs ls hw hl)
  | dup_x1 =>
    obtain ⟨rfl, h⟩ := xK_eq h
    obtain ⟨t, ht, he⟩ := Option.map_eq_some_iff.mp h
    obtain ⟨v, w, r, c1, c2, rfl, rfl⟩ := xDupX1_inv ht
    cases he
    exact lv_dup_x1 hx hb hdg ((xv_cat ρ v).trans c1) ((xv_cat ρ w).trans c2) (kk H locs ls hw hl)
  | dup_x2 =>
    obtain ⟨rfl, h⟩ := xK_eq h
    obtain ⟨t, ht, he⟩ := Option.map_eq_some_iff.mp h
    obtain ⟨v, w, u, r, c1, c2, c3, rfl, rfl⟩ := xDupX2_inv ht
    cases he
    exact lv_dup_x2 hx hb hdg ((xv_cat ρ v).trans c1) ((xv_cat ρ w).trans c2) ((xv_cat ρ u).trans c3) (kk H locs ls hw hl)
  | dup2 =>
    obtain ⟨rfl, h⟩ := xK_eq h
    obtain ⟨t, ht, he⟩ := Option.map_eq_some_iff.mp h
    obtain ⟨v, w, r, c1, c2, rfl, rfl⟩ := xDup2_inv ht
    cases he
    exact lv_dup2_11 hx hb hdg ((xv_cat ρ v).trans c1) ((xv_cat ρ w).trans c2) (kk H locs ls hw hl)
  | pop2 =>
    obtain ⟨rfl, h⟩ := xK_eq h
    obtain ⟨t, ht, he⟩ := Option.map_eq_some_iff.mp h
    obtain ⟨v, r, c1, rfl, rfl⟩ := xPop2_inv ht
    cases he
    exact lv_pop2_2 hx hb hdg ((xv_cat ρ v).trans c1) (kk H locs ls hw hl)
  | getfield idx =>
    obtain ⟨rfl, h⟩ := xK_eq h
    obtain ⟨t, ht, he⟩ := Option.map_eq_some_iff.mp h
    obtain ⟨i, r, ci, k, fs, v, rfl, hf, hi, hv, rfl⟩ := xGet_inv ht
    cases he
    obtain ⟨⟨C, T, N⟩, hc, hk, hlk, hd⟩ := hfl idx ci k hf
    obtain ⟨hin, -, -⟩ := hcl ci _ hc
    exact va_get (v := xv ρ v) hx hb hts hin hown hK hw.1 i (by rw [xw_get, hi]; rfl) hc k hk (hts _ hlk) (fun _ z => z) (by rw [List.getElem?_map, hv]; rfl) hdg (kk H locs ls hw hl)
  | putfield idx =>
    obtain ⟨rfl, h⟩ := xK_eq h
    obtain ⟨t, ht, he⟩ := Option.map_eq_some_iff.mp h
    obtain ⟨v, i, r, ci, k, fs, ⟨C, T, N⟩, rfl, hf, hi, hc, hlen, hn, hft, hfin, rfl⟩ := xPut_inv ht
    cases he
    obtain ⟨q', hc', hk, hlk, hd⟩ := hfl idx ci k hf
    rw [hc] at hc'
    cases hc'
    obtain ⟨hin, hty, hnm⟩ := hcl ci _ hc
    have hi' : (xw ρ cA hp)[i]? = some (ρ i, .inr (ci, fs.map (xv ρ))) := by rw [xw_get, hi]; rfl
    have hlt : i < hp.length := (List.getElem?_eq_some_iff.mp hi).1
    have hset : (xw ρ cA hp).set i (ρ i, .inr (ci, (fs.map (xv ρ)).set k (xv ρ v))) = xw ρ cA (hp.set i (.inr (ci, fs.set k v))) := by
      rw [← xw_set hlt]
      show _ = (xw ρ cA hp).set i (ρ i, .inr (ci, (fs.set k v).map (xv ρ)))
      rw [List.map_set]
    by_cases hF : (T k).2.2.2 = false
    · refine va_put (v := xv ρ v) hx hb hts hin (xty (C, T, N)) hty hnm hown hK hw.1 hw.2.1 hw.2.2 i hi' hc k hk (hts _ hlk) (fun _ z => z) hF (hty k hk) (xnar hn) (xfit hft) (by rw [List.length_map]; exact hlen) hdg (fun H1 locs1 a1 a2 a3 => ?_)
      rw [hset] at a1 a2
      exact kk H1 locs1 ls ⟨a1, a2, a3⟩ hl
    · have hini' : ini = true := hfin.resolve_left hF
      refine va_putF (v := xv ρ v) hx hb hts hin (xty (C, T, N)) hty hnm hown hK hw.1 hw.2.1 hw.2.2 i hi' hc k hk (hts _ hlk) (fun _ z => z) (by simpa using hF) (hini hini') hd (hty k hk) (xnar hn) (xfit hft) (by rw [List.length_map]; exact hlen) hdg (fun H1 locs1 a1 a2 a3 => ?_)
      rw [hset] at a1 a2
      exact kk H1 locs1 ls ⟨a1, a2, a3⟩ hl
  | iaload =>
    obtain ⟨rfl, h⟩ := xK_eq h
    obtain ⟨t, ht, he⟩ := Option.map_eq_some_iff.mp h
    obtain ⟨i, a, r, n, f, rfl, ha, hb2, rfl⟩ := xAld_inv ht
    cases he
    exact va_iald hx hb hK hw.1 a 0 (by rw [xw_get, ha]; rfl) rfl hb2 hdg (kk H locs ls hw hl)
  | caload =>
    obtain ⟨rfl, h⟩ := xK_eq h
    obtain ⟨t, ht, he⟩ := Option.map_eq_some_iff.mp h
    obtain ⟨i, a, r, n, f, rfl, ha, hb2, rfl⟩ := xAld_inv ht
    cases he
    exact va_cald hx hb hK hw.1 a 3 (by rw [xw_get, ha]; rfl) rfl hb2 hdg (kk H locs ls hw hl)
  | baload =>
    obtain ⟨rfl, h⟩ := xK_eq h
    obtain ⟨t, ht, he⟩ := Option.map_eq_some_iff.mp h
    rcases xor ht with ht | ht
    · obtain ⟨i, a, r, n, f, rfl, ha, hb2, rfl⟩ := xAld_inv ht
      cases he
      exact va_bald hx hb hK hw.1 a 2 (by rw [xw_get, ha]; rfl) rfl hb2 hdg (kk H locs ls hw hl)
    · obtain ⟨i, a, r, n, f, rfl, ha, hb2, rfl⟩ := xAld_inv ht
      cases he
      exact va_zald hx hb hK hw.1 a 4 (by rw [xw_get, ha]; rfl) rfl hb2 hdg (kk H locs ls hw hl)
  | laload =>
    obtain ⟨rfl, h⟩ := xK_eq h
    obtain ⟨t, ht, he⟩ := Option.map_eq_some_iff.mp h
    obtain ⟨i, a, r, n, f, rfl, ha, hb2, rfl⟩ := xAldL_inv ht
    cases he
    exact va_lald hx hb hK hw.1 a 1 (by rw [xw_get, ha]; rfl) rfl hb2 hdg (kk H locs ls hw hl)
  | iastore =>
    obtain ⟨rfl, h⟩ := xK_eq h
    obtain ⟨t, ht, he⟩ := Option.map_eq_some_iff.mp h
    obtain ⟨x, i, a, r, n, f, rfl, ha, hb2, rfl⟩ := xAst_inv ht
    cases he
    have hlt : a < hp.length := (List.getElem?_eq_some_iff.mp ha).1
    refine va_iast hx hb hK hw.1 hw.2.1 hw.2.2 a 0 (by rw [xw_get, ha]; rfl) rfl hb2 hdg (fun H1 locs1 a1 a2 a3 => ?_)
    rw [xsetA hlt] at a1 a2
    exact kk H1 locs1 ls ⟨a1, a2, a3⟩ hl
  | castore =>
    obtain ⟨rfl, h⟩ := xK_eq h
    obtain ⟨t, ht, he⟩ := Option.map_eq_some_iff.mp h
    obtain ⟨x, i, a, r, n, f, rfl, ha, hb2, rfl⟩ := xAst_inv ht
    cases he
    have hlt : a < hp.length := (List.getElem?_eq_some_iff.mp ha).1
    refine va_cast hx hb hK hw.1 hw.2.1 hw.2.2 a 3 (by rw [xw_get, ha]; rfl) rfl hb2 hdg (fun H1 locs1 a1 a2 a3 => ?_)
    rw [xsetA hlt] at a1 a2
    exact kk H1 locs1 ls ⟨a1, a2, a3⟩ hl
  | bastore =>
    obtain ⟨rfl, h⟩ := xK_eq h
    obtain ⟨t, ht, he⟩ := Option.map_eq_some_iff.mp h
    rcases xor ht with ht | ht
    ·
      obtain ⟨x, i, a, r, n, f, rfl, ha, hb2, rfl⟩ := xAst_inv ht
      cases he
      have hlt : a < hp.length := (List.getElem?_eq_some_iff.mp ha).1
      refine va_bast hx hb hK hw.1 hw.2.1 hw.2.2 a 2 (by rw [xw_get, ha]; rfl) rfl hb2 hdg (fun H1 locs1 a1 a2 a3 => ?_)
      rw [xsetA hlt] at a1 a2
      exact kk H1 locs1 ls ⟨a1, a2, a3⟩ hl
    ·
      obtain ⟨x, i, a, r, n, f, rfl, ha, hb2, rfl⟩ := xAst_inv ht
      cases he
      have hlt : a < hp.length := (List.getElem?_eq_some_iff.mp ha).1
      refine va_zast hx hb hK hw.1 hw.2.1 hw.2.2 a 4 (by rw [xw_get, ha]; rfl) rfl hb2 hdg (fun H1 locs1 a1 a2 a3 => ?_)
      rw [xsetA hlt] at a1 a2
      exact kk H1 locs1 ls ⟨a1, a2, a3⟩ hl
  | lastore =>
    obtain ⟨rfl, h⟩ := xK_eq h
    obtain ⟨t, ht, he⟩ := Option.map_eq_some_iff.mp h
    obtain ⟨x, i, a, r, n, f, rfl, ha, hb2, rfl⟩ := xAstL_inv ht
    cases he
    have hlt : a < hp.length := (List.getElem?_eq_some_iff.mp ha).1
    refine va_last hx hb hK hw.1 hw.2.1 hw.2.2 a 1 (by rw [xw_get, ha]; rfl) rfl hb2 hdg (fun H1 locs1 a1 a2 a3 => ?_)
    rw [xsetA hlt] at a1 a2
    exact kk H1 locs1 ls ⟨a1, a2, a3⟩ hl
  | arraylength =>
    obtain ⟨rfl, h⟩ := xK_eq h
    obtain ⟨t, ht, he⟩ := Option.map_eq_some_iff.mp h
    obtain ⟨a, r, t0, y, rfl, ha, ht5, rfl⟩ := xAlen_inv ht
    cases he
    obtain ⟨ty, hty⟩ := xtys5 cA ht5
    exact va_alen hx hb hK hw.1 a t0 (by rw [xw_get, ha]; rfl) hty rfl hdg (kk H locs ls hw hl)
  | _ => cases h
end XS
end
section
/-! THE INTERPRETER: calls, makings, ends; and its soundness: a run gives a contract. -/
abbrev x_M : Type := MethodName × ByteArray × Nat × Option FieldType × Nat × Nat × Nat × Nat
abbrev xy (M : x_M) : MethodName := M.1
abbrev xb (M : x_M) : ByteArray := M.2.1
abbrev xn (M : x_M) : Nat := M.2.2.1
abbrev xr (M : x_M) : Option FieldType := M.2.2.2.1
abbrev xo (M : x_M) : Nat := M.2.2.2.2.1
abbrev xa (M : x_M) : Nat := M.2.2.2.2.2.1
abbrev xmc (M : x_M) : Nat := M.2.2.2.2.2.2.1
abbrev xms (M : x_M) : Nat := M.2.2.2.2.2.2.2
abbrev x_T : Type := (Nat → Option x_M) × (Nat → Nat → Option (Nat × Nat)) × (Nat → Nat → Option (Nat × Nat)) × (Nat → Nat → Option Nat) × (Nat → Nat → Option Int32) × (Nat → Nat → Option Int64) × List vw_C × (Nat → String)
abbrev zM (Z : x_T) : Nat → Option x_M := Z.1
abbrev zF (Z : x_T) : Nat → Nat → Option (Nat × Nat) := Z.2.1
abbrev zL (Z : x_T) : Nat → Nat → Option (Nat × Nat) := Z.2.2.1
abbrev zC (Z : x_T) : Nat → Nat → Option Nat := Z.2.2.2.1
abbrev zKc (Z : x_T) : Nat → Nat → Option Int32 := Z.2.2.2.2.1
abbrev zKl (Z : x_T) : Nat → Nat → Option Int64 := Z.2.2.2.2.2.1
abbrev zcl (Z : x_T) : List vw_C := Z.2.2.2.2.2.2.1
abbrev znm (Z : x_T) : Nat → String := Z.2.2.2.2.2.2.2
/-- texts and statics: which text an ldc names, which of a text's fields a link names, what a static holds (its value, owner, name, sort), how many texts, their lengths and bytes -/
abbrev x_Y : Type := (Nat → Nat → Option Nat) × (Nat → Nat → Option Nat) × (Nat → Nat → Option (Value × String × String × String)) × Nat × List Nat × List (List Int32) × List (String × Nat × MethodName × String)
abbrev yS (Y : x_Y) : Nat → Nat → Option Nat := Y.1
abbrev yF (Y : x_Y) : Nat → Nat → Option Nat := Y.2.1
abbrev yG (Y : x_Y) : Nat → Nat → Option (Value × String × String × String) := Y.2.2.1
abbrev yN (Y : x_Y) : Nat := Y.2.2.2.1
abbrev yl (Y : x_Y) : List Nat := Y.2.2.2.2.1
abbrev yb (Y : x_Y) : List (List Int32) := Y.2.2.2.2.2.1
/-- links to a nest mate's own members -/
abbrev yNw (Y : x_Y) : List (String × Nat × MethodName × String) := Y.2.2.2.2.2.2
/-- the text whose cell, or whose bytes' cell, a place above 1000000 is -/
def xTx (Y : x_Y) (b w : Nat) : Option Nat := if 1000000 ≤ b ∧ (b - 1000000) % 2 = w ∧ (b - 1000000) / 2 < yN Y then some ((b - 1000000) / 2) else none
def xs2 (Y : x_Y) (o : Nat) (i : Instr) (len pc : Nat) (st : List Value) : Option (Nat × List Value) := match i with
  | .ldc idx => if len = 2 then (yS Y o idx).map fun k => (pc + 2, .ref (1000000 + 2 * k) :: st) else none
  | .getstatic idx => if len = 3 then (yG Y o idx).map fun g => (pc + 3, g.1 :: st) else none
  | .getfield idx => match st with
    | .ref b :: r => if len = 3 then (match xTx Y b 0, yF Y o idx with
      | some k, some 0 => some (pc + 3, .ref (1000001 + 2 * k) :: r)
      | some _, some 1 => some (pc + 3, .int 0 :: r)
      | _, _ => none) else none
    | _ => none
  | .baload => match st with
    | .int j :: .ref b :: r => match xTx Y b 1 with
      | some k => if len = 1 ∧ ¬ (j < 0 ∨ (yl Y).getD k 0 ≤ j.toNatClampNeg) then some (pc + 1, .int (((yb Y).getD k []).getD j.toNatClampNeg 0) :: r) else none
      | none => none
    | _ => none
  | .arraylength => match st with
    | .ref b :: r => match xTx Y b 1 with
      | some k => if len = 1 then some (pc + 1, .int (Int32.ofNat ((yl Y).getD k 0)) :: r) else none
      | none => none
    | _ => none
  | _ => none
def xok (n : Nat) : Value → Bool
  | .ref i => decide (i < n) || decide (1000000 ≤ i)
  | _ => true
def xokE (n : Nat) : x_E → Bool
  | .inl _ => true
  | .inr (_, fs) => fs.all (xok n)
def xSplit (n : Nat) (st : List Value) : Option (List Value × List Value) := if n ≤ st.length then some ((st.take n).reverse, st.drop n) else none
def xKi : Instr → Option (Nat × Nat)
  | .invokevirtual i => some (0, i)
  | .invokestatic i => some (1, i)
  | .invokespecial i => some (2, i)
  | _ => none
def xReq (Z : x_T) (Y : x_Y) (M : x_M) (ki idx : Nat) (st : List Value) (hp : List x_E) : Option (x_M × List Value × List Value) :=
  match zL Z (xo M) idx with
  | none => none
  | some (kd, j) => match zM Z j with
    | none => none
    | some M' => match xSplit (xa M') st with
      | none => none
      | some (As, r) => if ki = 1 then (if kd = 1 then some (M', As, r) else none) else
        match r with
        | .ref b :: r' => if ki = 0 then (match hp[b]? with
          | some (.inr (ci, _)) => if kd = 0 ∧ ci = xo M' then some (M', .ref b :: As, r') else none
          | _ => if kd = 5 ∧ (xTx Y b 0).isSome = true then some (M', .ref b :: As, r') else none) else (if kd = 2 ∨ kd = 3 then some (M', .ref b :: As, r') else none)
        | _ => none
def xChk (M M' : x_M) (lv : List (Nat × Value)) (r avs : List Value) (hp : List x_E) (k n : Nat) : Bool :=
  lv.all (fun q => xok hp.length q.2) && r.all (xok hp.length) && decide (k + xmc M' ≤ xmc M) && decide (n + xms M' ≤ xms M) && decide ((r.map fun v => v.category).sum ≤ 8) && decide ((lg_sl avs).length ≤ xn M')
def xRet (M : x_M) (i : Instr) (len : Nat) (st : List Value) : Option (Option Value) := match i with
  | .return_ => if len = 1 ∧ xr M = none ∧ st = [] then some none else none
  | .ireturn => match st, xr M with
    | [.int v], some ty => if len = 1 ∧ narrow ty (.int v) = .int v then some (some (.int v)) else none
    | _, _ => none
  | .lreturn => match st, xr M with
    | [.long v], some ty => if len = 1 ∧ ty = .long then some (some (.long v)) else none
    | _, _ => none
  | .areturn => match st, xr M with
    | [.ref a], some ty => if len = 1 ∧ ty = .array .long then some (some (.ref a)) else none
    | _, _ => none
  | _ => none
def xAt : ArrayType → Option (Nat × ((Nat → Int32) ⊕ (Nat → Int64) ⊕ (Nat → UInt32) ⊕ (Nat → UInt64) ⊕ (Nat → Option Nat)))
  | .int => some (0, .inl fun _ => 0)
  | .long => some (1, .inr (.inl fun _ => 0))
  | .byte => some (2, .inl fun _ => 0)
  | .char => some (3, .inl fun _ => 0)
  | .boolean => some (4, .inl fun _ => 0)
  | _ => none
def xAlo (Z : x_T) (M : x_M) (i : Instr) (len : Nat) (st : List Value) : Option (x_E × Nat × List Value × Nat) := match i with
  | .new idx => if len = 3 then (match zC Z (xo M) idx with
    | none => none
    | some ci => match (zcl Z)[ci]? with
      | none => none
      | some q => some (.inr (ci, (List.range q.2.2).map fun k => defaultValue (xty q k)), q.2.2, st, 3)) else none
  | .newarray t => match st with
    | .int cnt :: r => if len = 2 ∧ ¬ cnt < 0 ∧ cnt.toNatClampNeg * componentBytes (newarray.typeOf t) ≤ 536870912 then (match xAt t with
      | none => none
      | some (tn, a0) => some (.inl (tn, cnt.toNatClampNeg, a0), cnt.toNatClampNeg, r, 2)) else none
    | _ => none
  | _ => none
def xObj (Z : x_T) (M : x_M) (ki idx : Nat) : Bool := ki == 2 && (match zL Z (xo M) idx with
  | some (kd, _) => kd == 4
  | none => false)
/-- Math.min, Math.max of ints, Math.min of longs -/
def xMth (Z : x_T) (M : x_M) (ki idx : Nat) (st : List Value) : Option (List Value) := if ki = 1 then (match zL Z (xo M) idx with
  | some (6, _) => (match st with
    | .int y :: .int x :: r => some (.int (if y < x then y else x) :: r)
    | _ => none)
  | some (7, _) => (match st with
    | .int y :: .int x :: r => some (.int (if x < y then y else x) :: r)
    | _ => none)
  | some (8, _) => (match st with
    | .long y :: .long x :: r => some (.long (if y < x then y else x) :: r)
    | _ => none)
  | _ => none) else none
def brun (Z : x_T) (Y : x_Y) : Nat → Nat → x_M → Nat → List (Nat × Value) → List Value → List x_E → Nat → Nat → Option (Option Value × List x_E)
  | 0, _, _, _, _, _, _, _, _ => none
  | f + 1, d, M, pc, lv, st, hp, k, n => match decode (xb M) pc with
    | .error _ => none
    | .ok (i, len) => match xKi i with
      | some (ki, idx) => if len = 3 then (if xObj Z M ki idx = true then (match st with
          | .ref _ :: r => if 1 ≤ d ∧ (r.map fun v => v.category).sum ≤ 8 then brun Z Y f d M (pc + 3) lv r hp k n else none
          | _ => none)
        else match xMth Z M ki idx st with
        | some st' => if 1 ≤ d ∧ (st'.map fun v => v.category).sum ≤ 8 then brun Z Y f d M (pc + 3) lv st' hp k n else none
        | none => match d with
          | 0 => none
          | d' + 1 => match xReq Z Y M ki idx st hp with
            | none => none
            | some (M', avs, r) => if xChk M M' lv r avs hp k n = true then (match brun Z Y f d' M' 0 (lv_args 0 avs) [] hp 0 0 with
              | none => none
              | some (rv, hp1) => if hp.length ≤ hp1.length then brun Z Y f (d' + 1) M (pc + 3) lv (rv.toList ++ r) hp1 (k + xmc M') (n + xms M') else none) else none) else none
      | none => match xRet M i len st with
        | some rv => some (rv, hp)
        | none => match xAlo Z M i len st with
          | some (x, sl, r, w) => if (hp.all (xokE hp.length) && lv.all (fun q => xok hp.length q.2) && r.all (xok hp.length) && decide (hp.length < 1000000) && decide (k + 1 ≤ xmc M) && decide (n + sl ≤ xms M)) = true then brun Z Y f d M (pc + w) lv (.ref hp.length :: r) (hp ++ [x]) (k + 1) (n + sl) else none
          | none => match xs2 Y (xo M) i len pc st with
            | some (pc', st') => brun Z Y f d M pc' lv st' hp k n
            | none => match xs1 (zcl Z) ((xy M).name == "<init>") (xn M) (zF Z (xo M)) (zKc Z (xo M)) (zKl Z (xo M)) i len pc lv st hp with
              | none => none
              | some (pc', lv', st', hp') => brun Z Y f d M pc' lv' st' hp' k n
/-- what the tables must say -/
def xZok (Z : x_T) (Y : x_Y) (Ts : List Cond) : Prop :=
  xCok (zcl Z) Ts ∧ (∀ o, xFok (znm Z o) (zF Z o) (zcl Z) Ts) ∧ (∀ o idx v, zKc Z o idx = some v → Cond.constant (znm Z o) idx v ∈ Ts) ∧ (∀ o idx v, zKl Z o idx = some v → Cond.constantLong (znm Z o) idx v ∈ Ts) ∧
  (∀ (o idx ci : Nat), zC Z o idx = some ci → ∃ q : vw_C, (zcl Z)[ci]? = some q ∧ Cond.classLink (znm Z o) idx q.1 ∈ Ts ∧ Cond.instantiable q.1 q.2.2 ∈ Ts ∧ Cond.initialized q.1 ∈ Ts) ∧
  (∀ j M, zM Z j = some M → Cond.code (xy M) (xb M) (xn M) (xr M) ∈ Ts ∧ Cond.initialized (xy M).cls ∈ Ts ∧ plainName (xy M).cls = true ∧ (xy M).cls = znm Z (xo M) ∧ ((xy M).cls ≠ "java/lang/invoke/MethodHandle" ∧ (xy M).cls ≠ "java/lang/invoke/VarHandle" ∧ (parseMethodDescriptor (xy M).desc).map (fun d => d.parameters.length) = some (xa M)) ∧ xn M ≤ 45) ∧
  (∀ (o idx j kd : Nat) M, zL Z o idx = some (kd, j) → zM Z j = some M → (kd = 0 → Cond.methodLink (znm Z o) idx (xy M) ∈ Ts ∧ Cond.instanceMethod (xy M) ∈ Ts ∧ Cond.selects (xy M).cls (xy M) (xy M) ∈ Ts) ∧ (kd = 1 → Cond.methodLink (znm Z o) idx (xy M) ∈ Ts ∧ Cond.static (xy M) ∈ Ts) ∧ (kd = 2 → Cond.methodLink (znm Z o) idx (xy M) ∈ Ts ∧ Cond.instanceMethod (xy M) ∈ Ts ∧ (xy M).name = "<init>" ∧ xr M = none) ∧ (kd = 3 → (∃ host, (znm Z o, idx, xy M, host) ∈ yNw Y) ∧ Cond.instanceMethod (xy M) ∈ Ts ∧ (xy M).name = "<init>" ∧ xr M = none) ∧ (kd = 5 → Cond.methodLink (znm Z o) idx (xy M) ∈ Ts ∧ Cond.instanceMethod (xy M) ∈ Ts ∧ Cond.selects (xy M).cls (xy M) (xy M) ∈ Ts ∧ (xy M).cls = "java/lang/String")) ∧
  (∀ (o idx j kd : Nat), zL Z o idx = some (kd, j) → (kd = 6 → Cond.methodLink (znm Z o) idx Lib.Math.min.name ∈ Ts ∧ Cond.static Lib.Math.min.name ∈ Ts ∧ Cond.initialized "java/lang/Math" ∈ Ts ∧ Cond.code Lib.Math.min.name Lib.Math.min.code 2 (some .int) ∈ Ts) ∧ (kd = 7 → Cond.methodLink (znm Z o) idx Lib.Math.max.name ∈ Ts ∧ Cond.static Lib.Math.max.name ∈ Ts ∧ Cond.initialized "java/lang/Math" ∈ Ts ∧ Cond.code Lib.Math.max.name Lib.Math.max.code 2 (some .int) ∈ Ts) ∧ (kd = 8 → Cond.methodLink (znm Z o) idx Lib.MathLoose.min_long.x ∈ Ts ∧ Cond.static Lib.MathLoose.min_long.x ∈ Ts ∧ Cond.initialized "java/lang/Math" ∈ Ts ∧ Cond.code Lib.MathLoose.min_long.x Lib.MathLoose.min_long.code 4 (some .long) ∈ Ts)) ∧
  (∀ (o idx j : Nat), zL Z o idx = some (4, j) → Cond.methodLink (znm Z o) idx objectInit ∈ Ts) ∧ (Cond.instanceMethod objectInit ∈ Ts ∧ Cond.code objectInit ⟨#[0xb1]⟩ 1 none ∈ Ts) ∧
  (Cond.arrayClass .int ∈ Ts ∧ Cond.arrayClass .long ∈ Ts ∧ Cond.arrayClass .byte ∈ Ts ∧ Cond.arrayClass .char ∈ Ts ∧ Cond.arrayClass .boolean ∈ Ts) ∧ (∀ w ∈ Ts, goodWord w = true) ∧ (∀ (o : Nat) (q : vw_C), (zcl Z)[o]? = some q → q.1 = znm Z o) ∧
  (∀ (o idx k : Nat), yF Y o idx = some k → (k = 0 → Cond.fieldLink (znm Z o) idx "java/lang/String" "value" "[B" ∈ Ts) ∧ (k = 1 → Cond.fieldLink (znm Z o) idx "java/lang/String" "coder" "B" ∈ Ts)) ∧
  (∀ (o idx : Nat) g, yG Y o idx = some g → Cond.fieldLink (znm Z o) idx g.2.1 g.2.2.1 g.2.2.2 ∈ Ts ∧ xok 0 g.1 = true)
/-- texts and statics as they stand, at places above 1000000, unwritten -/
def xEnv (Z : x_T) (Y : x_Y) (ρ : Nat → Nat) (A : Nat → Prop) (U : State) (H : Heap) : Prop :=
  vk_S (yN Y) (yl Y) (yb Y) (fun i => ρ (1000000 + 2 * i)) (fun i => ρ (1000001 + 2 * i)) A U H ∧ (∀ (o idx i : Nat), yS Y o idx = some i → ∃ tx, vk_R (znm Z o) idx tx (ρ (1000000 + 2 * i)) U) ∧ (∀ (o idx : Nat) g, yG Y o idx = some g → va_Z g.2.1 g.2.2.1 g.2.2.2 (xv ρ g.1) A U H) ∧ (∀ q ∈ yNw Y, va_Nw (.methodLinkNest q.1 q.2.1 q.2.2.1 q.2.2.2) U)
def xrm (d mc ms : Nat) : Room := { frames := d, cells := mc, slots := ms, locals := 64 * d }
def xPc (Z : x_T) (Y : x_Y) (D : va_G) (cl : List vw_C) (cA : Nat → ClassId) (ρ : Nat → Nat) (hp : List x_E) (avs : List Value) (sz : Nat) : Array Value → State → Prop :=
  va_Pc (avs.map (xv ρ)) (fun U => U.heap.size = sz ∧ va_P D cl (xw ρ cA hp) U.heap ∧ va_K D cl (x_tys cA) U ∧ va_D (fun _ => True) (xw ρ cA hp) ∧ xEnv Z Y ρ (va_A (xw ρ cA hp) sz) U U.heap)
def xQc (D : va_G) (cl : List vw_C) (cA : Nat → ClassId) (ρ0 : Nat → Nat) (n0 : Nat) (rv : Option Value) (hp' : List x_E) (A : Nat → Prop) : Array Value → State → Outcome → State → Prop := fun _ st oc t =>
  (∃ ρ : Nat → Nat, oc = .returned (rv.map (xv ρ)) ∧ (∀ i, i < n0 ∨ 1000000 ≤ i → ρ i = ρ0 i) ∧ va_P D cl (xw ρ cA hp') t.heap ∧ va_K D cl (x_tys cA) t ∧ va_D A (xw ρ cA hp')) ∧ va_F A st t
end
section
theorem xSplit_inv {n : Nat} {st As r : List Value} (h : xSplit n st = some (As, r)) : st = As.reverse ++ r ∧ As.length = n := by
  unfold xSplit at h
  split at h
  · rename_i hn
    cases h
    refine ⟨by rw [List.reverse_reverse, List.take_append_drop], by rw [List.length_reverse, List.length_take]; omega⟩
  · cases h
theorem xv_of {ρ ρ' : Nat → Nat} {n : Nat} (hag : ∀ i, i < n ∨ 1000000 ≤ i → ρ' i = ρ i) {v : Value} (h : xok n v = true) : xv ρ' v = xv ρ v := by
  cases v with
  | ref i =>
    simp only [xok, Bool.or_eq_true, decide_eq_true_eq] at h
    show Value.ref (ρ' i) = Value.ref (ρ i)
    rw [hag i h]
  | _ => rfl
theorem xv_ofs {ρ ρ' : Nat → Nat} {n : Nat} (hag : ∀ i, i < n ∨ 1000000 ≤ i → ρ' i = ρ i) {st : List Value} (h : st.all (xok n) = true) : st.map (xv ρ') = st.map (xv ρ) := by
  apply List.map_congr_left
  intro v hv
  exact xv_of hag (List.all_eq_true.mp h v hv)
theorem xq_ofs {ρ ρ' : Nat → Nat} {n : Nat} (hag : ∀ i, i < n ∨ 1000000 ≤ i → ρ' i = ρ i) {lv : List (Nat × Value)} (h : lv.all (fun q => xok n q.2) = true) : lv.map (xq ρ') = lv.map (xq ρ) := by
  apply List.map_congr_left
  intro q hq
  show (q.1, xv ρ' q.2) = (q.1, xv ρ q.2)
  rw [xv_of hag (List.all_eq_true.mp h q hq)]
theorem xe_of {ρ ρ' : Nat → Nat} {cA : Nat → ClassId} {n : Nat} (hag : ∀ i, i < n ∨ 1000000 ≤ i → ρ' i = ρ i) {x : x_E} (h : xokE n x = true) : xe ρ' cA x = xe ρ cA x := by
  cases x with
  | inl a => rfl
  | inr o =>
    obtain ⟨ci, fs⟩ := o
    show (Sum.inr (ci, fs.map (xv ρ')) : va_E) = Sum.inr (ci, fs.map (xv ρ))
    rw [xv_ofs hag h]
/-- the world, one cell more -/
theorem xw_push {ρ : Nat → Nat} {cA : Nat → ClassId} {hp : List x_E} {x : x_E} {q : Nat} (hal : hp.all (xokE hp.length) = true) (hlt : hp.length < 1000000) {y : va_E} (hy : ∀ ρ', xe ρ' cA x = y) : xw (fun j => if j = hp.length then q else ρ j) cA (hp ++ [x]) = xw ρ cA hp ++ [(q, y)] := by
  apply List.ext_getElem?
  intro j
  rw [xw_get]
  by_cases h : j < hp.length
  · rw [List.getElem?_append_left h, List.getElem?_append_left (by rw [xw_len]; exact h), xw_get]
    cases hj : hp[j]? with
    | none => rfl
    | some z =>
      have hz : xokE hp.length z = true := List.all_eq_true.mp hal z (List.mem_of_getElem? hj)
      simp only [Option.map_some]
      rw [if_neg (by omega), xe_of (ρ' := fun j => if j = hp.length then q else ρ j) (ρ := ρ) (n := hp.length) (fun i hi => by rw [if_neg (by omega)]) hz]
  · rw [List.getElem?_append_right (by omega), List.getElem?_append_right (by rw [xw_len]; omega), xw_len]
    by_cases e : j = hp.length
    · subst e
      simp [hy]
    · have : j - hp.length = (j - hp.length - 1) + 1 := by omega
      rw [this]
      simp
theorem xK0 {D : va_G} {cl : List vw_C} {cA : Nat → ClassId} {s : State} (hK : va_K D cl (x_tys cA) s) {t : Nat} {ty : FieldType} (ht : (x_tys cA)[t]? = some (cA t, ty)) {cB : ClassId} (hB : va_K D cl (x_tys cA ++ [(cB, ty)]) s) (hp : ∀ C, ty ≠ .object C) : cB = cA t := by
  have h1 := (hK.2 t _ ht).2
  have h2 := (hB.2 5 (cB, ty) rfl).2
  have e1 : s.vm.findClass ("[" ++ ty.toString) = some (cA t) := by
    cases ty with
    | object C => exact absurd rfl (hp C)
    | _ => exact h1
  have e2 : s.vm.findClass ("[" ++ ty.toString) = some cB := by
    cases ty with
    | object C => exact absurd rfl (hp C)
    | _ => exact h2
  exact Option.some.inj (e2.symm.trans e1)
section XC
variable {p : Program} {l : Launch} {e : Env} {R : Room} {s : State} {m : MethodId} {args : Array Value} {below : List Frame} {meth : Method} {c : Code} {H : Heap} {locs : List Loc} {cells slots : Nat} {Q : State → Prop}
variable {pc : Nat} {ls : Array Slot} {rest st0 : List Value} {a : Array Value} {A0 A1 : Nat → Prop} {H0 : Heap} {mc ms : Nat} {free : Addr → Prop}
theorem x_call {D : va_G} {cl : List vw_C} {cA : Nat → ClassId} {ρ : Nat → Nat} {n0 : Nat} {rv : Option Value} {hp' : List x_E} (hr : va_Run p l e R s m args below meth c H locs cells slots mc ms (F0 m pc ls st0) rest (xQc D cl cA ρ n0 rv hp' A1 a) free) (hS : va_S A0 H0 H locs) (hA : ∀ q, q < H.size → A1 q → A0 q) (hf : ∀ q, free q → A0 q)
    (kk : ∀ (ρ1 : Nat → Nat) (t : State) (H1 : Heap) (locs1 : List Loc), t.heap = H1 → s.vm.Alike t.vm → (∀ i, i < n0 ∨ 1000000 ≤ i → ρ1 i = ρ i) → va_P D cl (xw ρ1 cA hp') t.heap → va_K D cl (x_tys cA) t → va_D A1 (xw ρ1 cA hp') → va_S A0 H0 H1 locs1 → W p l e R s m args below meth c H1 locs1 (cells + mc) (slots + ms) Q (F0 m (pc + 3) ls ((rv.map (xv ρ1)).toList ++ rest))) : W p l e R s m args below meth c H locs cells slots Q (F0 m pc ls st0) := by
  intro T hT X
  obtain ⟨v, st₀, t, T', L, h0, X', hL, e1, e2, ⟨⟨ρ1, hv, hag, hP1, hK1, hD1⟩, hz, hk⟩, st⟩ := hr T hT X
  cases hv
  rw [h0] at hz hk
  obtain ⟨t2, a1, b1⟩ := kk ρ1 t T'.heap (locs ++ L) e1.symm (by rw [← e2]; exact X'.warmed.alike) hag hP1 hK1 hD1
    ⟨Nat.le_trans hS.1 (by rw [e1]; exact hz), fun q h1 h2 => by rw [e1, hk q (Nat.lt_of_lt_of_le h1 hS.1) (fun z => h2 (hA q (Nat.lt_of_lt_of_le h1 hS.1) z))]; exact hS.2.1 q h1 h2, fun q hq => by
      rcases List.mem_append.mp hq with h | h
      · exact hS.2.2 q h
      · exact hf _ (hL q h)⟩ T' rfl X'
  exact ⟨t2, st t2 a1, b1⟩
end XC
/-- the contract of a run -/
def xMet (Z : x_T) (Y : x_Y) (Ts : List Cond) (l : Launch) (D : va_G) (cA : Nat → ClassId) (d : Nat) (M : x_M) (hp : List x_E) (avs : List Value) (rv : Option Value) (hp' : List x_E) : Prop :=
  ∀ (ρ : Nat → Nat) (sz : Nat), Met l (xy M) (Cond.code (xy M) (xb M) (xn M) (xr M) :: Ts) (xrm d (xmc M) (xms M)) (xPc Z Y D (zcl Z) cA ρ hp avs sz) (xQc D (zcl Z) cA ρ hp.length rv hp' (va_A (xw ρ cA hp) sz)) (xmc M) (xms M) (va_A (xw ρ cA hp) sz)
/-- the walk of a run -/
def xWst (Z : x_T) (Y : x_Y) (Ts : List Cond) (l : Launch) (D : va_G) (cA : Nat → ClassId) (f : Nat) : Prop :=
  ∀ (d : Nat) (M : x_M) (j : Nat) (pc : Nat) (lv : List (Nat × Value)) (st : List Value) (hp : List x_E) (k n : Nat) (rv : Option Value) (hp' : List x_E), zM Z j = some M → brun Z Y f d M pc lv st hp k n = some (rv, hp') →
  ∀ (p : Program) (e : Env) (s : State) (m : MethodId) (args : Array Value) (below : List Frame) (meth : Method) (c : Code) (H : Heap) (locs : List Loc) (ls : Array Slot) (ρ0 ρ : Nat → Nat) (n0 : Nat) (A : Nat → Prop),
  p.tables.exec = Jvm.exec → c.code = xb M → c.maxLocals = xn M → meth.sig.returnType = xr M → meth.locks = false → meth.name = (xy M).name → (∀ w ∈ Ts, w.before args s = true) → s.vm.findClass (xy M).cls = some m.cls → va_K D (zcl Z) (x_tys cA) s → (∀ q, s.heap.size ≤ q → A q) →
  (va_P D (zcl Z) (xw ρ cA hp) H ∧ va_D A (xw ρ cA hp) ∧ va_S A s.heap H locs) → lv_has ls (xn M) (lv.map (xq ρ)) → (∀ i, i < n0 ∨ 1000000 ≤ i → ρ i = ρ0 i) → n0 ≤ hp.length → k ≤ xmc M → n ≤ xms M → xEnv Z Y ρ0 A s s.heap →
  W p l e (xrm d (xmc M) (xms M)) s m args below meth c H locs k n (MQ below (xQc D (zcl Z) cA ρ0 n0 rv hp' A) args s (xmc M) (xms M) A) (F0 m pc ls (st.map (xv ρ)))
set_option maxHeartbeats 4000000 in
set_option maxRecDepth 20000 in
theorem xMet_of {Z : x_T} {Y : x_Y} {Ts : List Cond} {l : Launch} {D : va_G} {cA : Nat → ClassId} {f : Nat} (hZ : xZok Z Y Ts) (hW : xWst Z Y Ts l D cA f) {d : Nat} {M : x_M} {j : Nat} {hp : List x_E} {avs : List Value} {rv : Option Value} {hp' : List x_E} (hj : zM Z j = some M) (h : brun Z Y f d M 0 (lv_args 0 avs) [] hp 0 0 = some (rv, hp')) (hlen : (lg_sl avs).length ≤ xn M) : xMet Z Y Ts l D cA d M hp avs rv hp' := by
  intro ρ sz
  obtain ⟨-, -, -, -, -, hM, -⟩ := hZ
  obtain ⟨hc1, hc2, hc3, hc4, hc5, hc6⟩ := hM j M hj
  refine Met.ofW (cc := xb M) (maxL := xn M) (ret := xr M) hc3 rfl ?_
  intro p e s m args below meth c s₁ B hml hv
  obtain ⟨rfl, hsz, hP, hK, hD0, hE⟩ := hv
  have hts0 := atoms_spec (ws := Cond.code (xy M) (xb M) (xn M) (xr M) :: Ts) B.pre
  have hown : s.vm.findClass (xy M).cls = some m.cls := findClass_of_methodNamed B.named
  subst hsz
  have hsl : ∀ vs : List Value, lg_sl (vs.map (xv ρ)) = (lg_sl vs).map (fun q => match q with | .val v => Slot.val (xv ρ v) | q => q) := by
    intro vs
    induction vs with
    | nil => rfl
    | cons v vs ih =>
      simp only [lg_sl, List.map_cons, List.flatMap_cons, List.map_append] at ih ⊢
      rw [ih, xv_cat]
      congr 1
      by_cases hc : v.category = 2
      · simp [hc]
      · simp [hc]
  have hargs : ∀ (vs : List Value) (i : Nat), lv_args i (vs.map (xv ρ)) = (lv_args i vs).map (xq ρ) := by
    intro vs
    induction vs with
    | nil => intro i; rfl
    | cons v vs ih =>
      intro i
      simp only [List.map_cons, lv_args, xv_cat]
      rw [ih]
      rfl
  have hl := lv_entry (avs.map (xv ρ)) (n := xn M) (by rw [hsl, List.length_map]; exact hlen)
  rw [hargs] at hl
  rw [lg_entry_eq]
  exact hW d M j 0 (lv_args 0 avs) [] hp 0 0 rv hp' hj h p e s m _ below meth c s.heap [] _ ρ ρ hp.length (va_A (xw ρ cA hp) s.heap.size) B.exec B.bytes hml B.returns B.notSynchronized (name_of_methodNamed B.named B.method).1 (fun w hw => hts0 w (List.mem_cons_of_mem _ hw)) hown hK (fun q h => Or.inr h) ⟨hP, hD0.self, va_S.rf⟩ hl (fun _ _ => rfl) (Nat.le_refl _) (Nat.zero_le _) (Nat.zero_le _) hE

theorem xEnv_go {Z : x_T} {Y : x_Y} (hG : ∀ (o idx : Nat) g, yG Y o idx = some g → xok 0 g.1 = true) {ρ0 ρ : Nat → Nat} {A A1 : Nat → Prop} {s U : State} {H : Heap} {locs : List Loc} (h : xEnv Z Y ρ0 A s s.heap) (hS : va_S A s.heap H locs) (hA : ∀ q, A1 q → A q) (hag : ∀ i, 1000000 ≤ i → ρ i = ρ0 i) (hW : s.WarmedH U.vm) (hU : U.heap = H) : xEnv Z Y ρ A1 U U.heap := by
  obtain ⟨h1, h2, h3, h4⟩ := h
  have e1 : (fun i => ρ (1000000 + 2 * i)) = (fun i => ρ0 (1000000 + 2 * i)) := funext fun i => hag _ (by omega)
  have e2 : (fun i => ρ (1000001 + 2 * i)) = (fun i => ρ0 (1000001 + 2 * i)) := funext fun i => hag _ (by omega)
  refine ⟨?_, ?_, ?_, fun q hq => (h4 q hq).warmM hW⟩
  · rw [e1, e2, hU]
    exact ((h1.kept hS.2.1).narrow hA).moved hW.alike
  · intro o idx i hi
    obtain ⟨tx, hr⟩ := h2 o idx i hi
    exact ⟨tx, by rw [hag _ (by omega)]; exact hr.warm hW⟩
  · intro o idx g hg
    have e3 : xv ρ g.1 = xv ρ0 g.1 := xv_of (n := 0) (fun i hi => hag i (by omega)) (hG o idx g hg)
    rw [e3, hU]
    exact (((h3 o idx g hg).kept hS.2.1).narrow hA).moved hW.alike
end
section
theorem xKi_inv {i : Instr} {ki idx : Nat} (h : xKi i = some (ki, idx)) : (i = .invokevirtual idx ∧ ki = 0) ∨ (i = .invokestatic idx ∧ ki = 1) ∨ (i = .invokespecial idx ∧ ki = 2) := by
  unfold xKi at h
  split at h
  · cases h; exact Or.inl ⟨rfl, rfl⟩
  · cases h; exact Or.inr (Or.inl ⟨rfl, rfl⟩)
  · cases h; exact Or.inr (Or.inr ⟨rfl, rfl⟩)
  · cases h
theorem xReq_inv {Z : x_T} {Y : x_Y} {M M' : x_M} {ki idx : Nat} {st avs r : List Value} {hp : List x_E} (h : xReq Z Y M ki idx st hp = some (M', avs, r)) : ∃ kd j As, zL Z (xo M) idx = some (kd, j) ∧ zM Z j = some M' ∧ As.length = xa M' ∧
    ((ki = 1 ∧ kd = 1 ∧ avs = As ∧ st = As.reverse ++ r) ∨ (ki = 0 ∧ kd = 0 ∧ ∃ b fs, hp[b]? = some (.inr (xo M', fs)) ∧ avs = .ref b :: As ∧ st = As.reverse ++ .ref b :: r) ∨ (ki ≠ 0 ∧ ki ≠ 1 ∧ (kd = 2 ∨ kd = 3) ∧ ∃ b, avs = .ref b :: As ∧ st = As.reverse ++ .ref b :: r) ∨ (ki = 0 ∧ kd = 5 ∧ ∃ b i, xTx Y b 0 = some i ∧ avs = .ref b :: As ∧ st = As.reverse ++ .ref b :: r)) := by
  unfold xReq at h
  split at h
  · cases h
  · rename_i kd j hl
    split at h
    · cases h
    · rename_i M1 hm
      split at h
      · cases h
      · rename_i As r1 hs
        obtain ⟨e1, e2⟩ := xSplit_inv hs
        split at h
        · rename_i hk
          split at h
          · rename_i hkd
            cases h
            exact ⟨kd, j, _, hl, hm, e2, Or.inl ⟨hk, hkd, rfl, e1⟩⟩
          · cases h
        · rename_i hk
          split at h
          · rename_i b r2
            split at h
            · rename_i hk0
              split at h
              · rename_i ci fs hb
                split at h
                · rename_i hc
                  cases h
                  obtain ⟨h1, rfl⟩ := hc
                  exact ⟨kd, j, As, hl, hm, e2, Or.inr (Or.inl ⟨hk0, h1, b, fs, hb, rfl, e1⟩)⟩
                · cases h
              · split at h
                · rename_i hc
                  cases h
                  obtain ⟨h1, h2⟩ := hc
                  obtain ⟨i, hi⟩ := Option.isSome_iff_exists.mp h2
                  exact ⟨kd, j, As, hl, hm, e2, Or.inr (Or.inr (Or.inr ⟨hk0, h1, b, i, hi, rfl, e1⟩))⟩
                · cases h
            · rename_i hk0
              split at h
              · rename_i hc
                cases h
                exact ⟨kd, j, As, hl, hm, e2, Or.inr (Or.inr (Or.inl ⟨hk0, hk, hc, b, rfl, e1⟩))⟩
              · cases h
          · cases h
theorem xBlind {Z : x_T} {Y : x_Y} {D : va_G} {cl : List vw_C} {cA : Nat → ClassId} {ρ : Nat → Nat} {hp : List x_E} {avs : List Value} {sz : Nat} : FrameBlind (xPc Z Y D cl cA ρ hp avs sz) := fun a U g mk q => by
  obtain ⟨q0, q1, qP, qK, qD, qE1, qE2, qE3, qE4⟩ := q
  refine ⟨q0, q1, qP, va_K.moved (u := U) (U := U.calling g mk a) (Vm.Alike.refl U.vm) qK, qD, qE1.moved (U := U.calling g mk a) (Vm.Alike.refl U.vm), fun o idx i hi => ?_, fun o idx g' hg => (qE3 o idx g' hg).moved (U := U.calling g mk a) (Vm.Alike.refl U.vm), fun q' hq' => va_Nw.same (u := U) (U := U.calling g mk a) rfl rfl (qE4 q' hq')⟩
  obtain ⟨tx, hr⟩ := qE2 o idx i hi
  exact ⟨tx, vk_R.same (u := U) (U := U.calling g mk a) rfl hr⟩
theorem xGoodIn {Ts : List Cond} (hG : ∀ w ∈ Ts, goodWord w = true) {w0 : Cond} (h0 : w0 ∈ Ts) : GoodIn Ts (w0 :: Ts) := fun w hw => by
  rcases List.mem_cons.mp hw with rfl | h
  · exact ⟨h0, good_of_word (hG _ h0)⟩
  · exact ⟨h, good_of_word (hG _ h)⟩
section XR
variable {p : Program} {l : Launch} {e : Env} {s : State} {m : MethodId} {args : Array Value} {below : List Frame} {meth : Method} {c : Code} {H : Heap} {locs : List Loc}
set_option maxHeartbeats 4000000 in
theorem x_run {Z : x_T} {Y : x_Y} {Ts : List Cond} {D : va_G} {cA : Nat → ClassId} (hZ : xZok Z Y Ts) {M M' : x_M} {ki idx pc d' k n : Nat} {i : Instr} {lv : List (Nat × Value)} {st avs r : List Value} {hp hp1 : List x_E} {rv1 : Option Value} {ls : Array Slot} {ρ : Nat → Nat} {A : Nat → Prop} (hki : xKi i = some (ki, idx)) (hd : decode (xb M) pc = .ok (i, 3)) (hreq : xReq Z Y M ki idx st hp = some (M', avs, r)) (hchk : xChk M M' lv r avs hp k n = true)
    (hMet : ∀ j', zM Z j' = some M' → xMet Z Y Ts l D cA d' M' hp avs rv1 hp1) (hx : p.tables.exec = Jvm.exec) (hb : c.code = xb M) (hml : c.maxLocals = xn M) (hts : ∀ w ∈ Ts, w.before args s = true) (hown : s.vm.findClass (znm Z (xo M)) = some m.cls) (hK : va_K D (zcl Z) (x_tys cA) s) (hP : va_P D (zcl Z) (xw ρ cA hp) H) (hD : va_D A (xw ρ cA hp)) {ρ0 : Nat → Nat} (hS : va_S A s.heap H locs) (hE : xEnv Z Y ρ0 A s s.heap) (hFc : ∀ q, va_A (xw ρ cA hp) H.size q → A q) (hag : ∀ i, 1000000 ≤ i → ρ i = ρ0 i) (hl : lv_has ls (xn M) (lv.map (xq ρ))) :
    va_Run p l e (xrm (d' + 1) (xmc M) (xms M)) s m args below meth c H locs k n (xmc M') (xms M') (F0 m pc ls (st.map (xv ρ))) (r.map (xv ρ)) (xQc D (zcl Z) cA ρ hp.length rv1 hp1 (va_A (xw ρ cA hp) H.size) (avs.map (xv ρ)).toArray) (va_A (xw ρ cA hp) H.size) := by
  obtain ⟨hC, hF, hKc, hKl, hNew, hM, hL, hMt, hO, hOb, hArr, hGood, hNm, hyF, hyG⟩ := hZ
  obtain ⟨kd, j, As, hz, hj, hAs, hcase⟩ := xReq_inv hreq
  obtain ⟨c1, c2, c3, c4, c5, c6⟩ := hM j M' hj
  obtain ⟨L0, L1, L2, L3, L5⟩ := hL _ idx j kd M' hz hj
  simp only [xChk, Bool.and_eq_true, decide_eq_true_eq] at hchk
  obtain ⟨⟨⟨⟨⟨q1, q2⟩, q3⟩, q4⟩, q5⟩, q6⟩ := hchk
  have hG : GoodIn Ts (Cond.code (xy M') (xb M') (xn M') (xr M') :: Ts) := xGoodIn hGood c1
  have hR : (xrm d' (xmc M') (xms M')).frames + 1 ≤ (xrm (d' + 1) (xmc M) (xms M)).frames ∧ 8 + (xn M' + 11) + (xrm d' (xmc M') (xms M')).locals ≤ (xrm (d' + 1) (xmc M) (xms M)).locals := ⟨Nat.le_refl _, by show 8 + (xn M' + 11) + 64 * d' ≤ 64 * (d' + 1); omega⟩
  have hf : k + xmc M' ≤ (xrm (d' + 1) (xmc M) (xms M)).cells ∧ n + xms M' ≤ (xrm (d' + 1) (xmc M) (xms M)).slots := ⟨q3, q4⟩
  have hcat : ((r.map (xv ρ)).map fun v => v.category).sum ≤ 8 := by
    have : ((r.map (xv ρ)).map fun v => v.category) = r.map fun v => v.category := by
      rw [List.map_map]
      exact List.map_congr_left (fun v _ => xv_cat ρ v)
    rw [this]
    exact q5
  have hpre : ∀ U : State, U.heap = H → s.WarmedH U.vm → xPc Z Y D (zcl Z) cA ρ hp avs H.size (avs.map (xv ρ)).toArray U := fun U hU hW => ⟨rfl, by rw [hU], by rw [hU]; exact hP, va_K.moved hW.alike hK, hD.weaken (fun _ _ _ _ => trivial), xEnv_go (fun o idx g hg => (hyG o idx g hg).2) hE hS hFc hag hW hU⟩
  have S : CallFix p m c (xb M) (xn M) s args Ts (znm Z (xo M)) := ⟨hx, hb, hml, hown, hts⟩
  have hn' : (As.map (xv ρ)).length = xa M' := by rw [List.length_map]; exact hAs
  rcases xKi_inv hki with ⟨rfl, rfl⟩ | ⟨rfl, rfl⟩ | ⟨rfl, rfl⟩
  · rcases hcase with ⟨h, _⟩ | ⟨_, rfl, b, fs, hbp, rfl, rfl⟩ | ⟨h, _⟩ | ⟨_, rfl, b, ib, hbp, rfl, rfl⟩
    · cases h
    · obtain ⟨l1, l2, l3⟩ := L0 rfl
      have he : (xw ρ cA hp)[b]? = some (ρ b, .inr (xo M', fs.map (xv ρ))) := by rw [xw_get, hbp]; rfl
      obtain ⟨q, hq, -⟩ := hP b _ he
      have hrec := va_recv hK hP hq he
      rw [hNm _ _ hq, ← c4] at hrec
      exact va_runV (C := (xy M').cls) (b := ρ b) (As := As.map (xv ρ)) S (hMet j hj ρ H.size) ⟨callB_of (xa M') hts hG rfl rfl rfl (hts _ c2) (hts _ l1) c5 hR, hts _ l2, hts _ l3⟩ ⟨xBlind, hrec, hpre⟩ rfl hn' hl.1 (by simp [xv]) (lv_room hcat) hd hf
    · exact absurd rfl h
    · obtain ⟨l1, l2, l3, l4⟩ := L5 rfl
      unfold xTx at hbp
      split at hbp
      · rename_i hbq
        cases hbp
        have hrec := vk_recv hE.1 hbq.2.2 hS
        have eb : ρ0 (1000000 + 2 * ((b - 1000000) / 2)) = ρ b := by
          rw [hag b hbq.1]
          congr 1
          omega
        rw [eb, ← l4] at hrec
        exact va_runV (C := (xy M').cls) (b := ρ b) (As := As.map (xv ρ)) S (hMet j hj ρ H.size) ⟨callB_of (xa M') hts hG rfl rfl rfl (hts _ c2) (hts _ l1) c5 hR, hts _ l2, hts _ l3⟩ ⟨xBlind, hrec, hpre⟩ rfl hn' hl.1 (by simp [xv]) (lv_room hcat) hd hf
      · cases hbp
  · rcases hcase with ⟨_, rfl, rfl, rfl⟩ | ⟨h, _⟩ | ⟨_, h, _⟩ | ⟨h, _⟩
    · obtain ⟨l1, l2⟩ := L1 rfl
      exact va_runS (As := avs.map (xv ρ)) S (hMet j hj ρ H.size) ⟨callB_of (xa M') hts hG rfl rfl rfl (hts _ c2) (hts _ l1) c5 hR, hts _ l2⟩ ⟨xBlind, hpre⟩ rfl hn' hl.1 (by simp) (lv_room hcat) hd hf
    · cases h
    · exact absurd rfl h
    · cases h
  · rcases hcase with ⟨h, _⟩ | ⟨h, _⟩ | ⟨_, _, hkd, b, rfl, rfl⟩ | ⟨h, _⟩
    · cases h
    · cases h
    · rcases hkd with rfl | rfl
      · obtain ⟨l1, l2, l3, l4⟩ := L2 rfl
        have hMet' := hMet j hj ρ H.size
        have hG' := hG
        rw [l4] at hMet' hG'
        exact va_runI (b := ρ b) (As := As.map (xv ρ)) S hMet' ⟨callB_of (xa M') hts hG' rfl rfl rfl (hts _ c2) (hts _ l1) c5 hR, l3, hts _ l2⟩ ⟨xBlind, hpre⟩ rfl hn' hl.1 (by simp [xv]) (lv_room hcat) hd hf
      · obtain ⟨⟨host, l1⟩, l2, l3, l4⟩ := L3 rfl
        have hMet' := hMet j hj ρ H.size
        have hG' := hG
        rw [l4] at hMet' hG'
        exact va_runIN (b := ρ b) (As := As.map (xv ρ)) S hMet' ⟨va_cnB (xa M') hts hG' rfl rfl rfl (hE.2.2.2 _ l1) (hts _ c2) c5 hR, l3, hts _ l2⟩ ⟨xBlind, hpre⟩ rfl hn' hl.1 (by simp [xv]) (lv_room hcat) hd hf
    · cases h
end XR
end
section
set_option maxHeartbeats 4000000 in
set_option maxRecDepth 20000 in
/-- a plain step leaves the number of cells -/
theorem xs1_len {cl : List vw_C} {ini : Bool} {nL : Nat} {fl : Nat → Option (Nat × Nat)} {kc : Nat → Option Int32} {kl : Nat → Option Int64} {i : Instr} {len pc : Nat} {lv : List (Nat × Value)} {st : List Value} {hp : List x_E} {pc' : Nat} {lv' : List (Nat × Value)} {st' : List Value} {hp' : List x_E} (h : xs1 cl ini nL fl kc kl i len pc lv st hp = some (pc', lv', st', hp')) : hp.length = hp'.length := by
  have hput : ∀ (idx : Nat) {t : List Value × List x_E}, xPut cl ini fl idx hp st = some t → hp.length = t.2.length := by
    intro idx t ht
    obtain ⟨v, i, r, ci, k, fs, q, -, -, -, -, -, -, -, -, rfl⟩ := xPut_inv ht
    simp
  have hast : ∀ (t0 : Nat) (g : Int32 → Int32) {t : List Value × List x_E}, xAst t0 g hp st = some t → hp.length = t.2.length := by
    intro t0 g t ht
    obtain ⟨x, i, a, r, n, f, -, -, -, rfl⟩ := xAst_inv ht
    simp
  have hastL : ∀ {t : List Value × List x_E}, xAstL hp st = some t → hp.length = t.2.length := by
    intro t ht
    obtain ⟨x, i, a, r, n, f, -, -, -, rfl⟩ := xAstL_inv ht
    simp
  cases i with
  | putfield idx =>
    obtain ⟨rfl, h⟩ := xK_eq h
    obtain ⟨t, ht, he⟩ := Option.map_eq_some_iff.mp h
    cases he
    exact hput idx ht
  | iastore =>
    obtain ⟨rfl, h⟩ := xK_eq h
    obtain ⟨t, ht, he⟩ := Option.map_eq_some_iff.mp h
    cases he
    exact hast _ _ ht
  | castore =>
    obtain ⟨rfl, h⟩ := xK_eq h
    obtain ⟨t, ht, he⟩ := Option.map_eq_some_iff.mp h
    cases he
    exact hast _ _ ht
  | bastore =>
    obtain ⟨rfl, h⟩ := xK_eq h
    obtain ⟨t, ht, he⟩ := Option.map_eq_some_iff.mp h
    cases he
    rcases xor ht with ht | ht
    · exact hast _ _ ht
    · exact hast _ _ ht
  | lastore =>
    obtain ⟨rfl, h⟩ := xK_eq h
    obtain ⟨t, ht, he⟩ := Option.map_eq_some_iff.mp h
    cases he
    exact hastL ht
  | tableswitch d lo hi offs =>
    obtain ⟨q, hq, h⟩ := Option.bind_eq_some_iff.mp h
    obtain ⟨off, ho, h⟩ := Option.bind_eq_some_iff.mp h
    obtain ⟨t, ht, he⟩ := Option.map_eq_some_iff.mp h
    cases he
    rfl
  | lookupswitch d ps =>
    dsimp only [xs1] at h
    split at h
    · obtain ⟨q, hq, h⟩ := Option.bind_eq_some_iff.mp h
      obtain ⟨t, ht, he⟩ := Option.map_eq_some_iff.mp h
      cases he
      rfl
    · cases h
  | if_icmp cn off =>
    obtain ⟨rfl, h⟩ := xK_eq h
    obtain ⟨q, hq, h⟩ := Option.bind_eq_some_iff.mp h
    obtain ⟨q2, hq2, h⟩ := Option.bind_eq_some_iff.mp h
    obtain ⟨t, ht, he⟩ := Option.map_eq_some_iff.mp h
    cases he
    rfl
  | _ => first
    | (cases h; done)
    | (obtain ⟨-, h⟩ := xK_eq h; cases h; rfl)
    | (obtain ⟨-, h⟩ := xK_eq h; obtain ⟨t, ht, he⟩ := Option.map_eq_some_iff.mp h; cases he; rfl)
    | (obtain ⟨-, h⟩ := xK_eq h; obtain ⟨q, hq, h⟩ := Option.bind_eq_some_iff.mp h; obtain ⟨t, ht, he⟩ := Option.map_eq_some_iff.mp h; cases he; rfl)
    | (obtain ⟨-, h⟩ := xK_eq h; obtain ⟨q, hq, h⟩ := Option.bind_eq_some_iff.mp h; split at h; · cases h; rfl
       · cases h)
end
section
theorem xTx_inv {Y : x_Y} {b w k : Nat} (h : xTx Y b w = some k) (hw : w < 2) : b = 1000000 + 2 * k + w ∧ k < yN Y := by
  unfold xTx at h
  split at h
  · rename_i hc
    cases h
    exact ⟨by omega, hc.2.2⟩
  · cases h
section XS2
variable {p : Program} {l : Launch} {e : Env} {R : Room} {s : State} {m : MethodId} {args : Array Value} {below : List Frame} {meth : Method} {c : Code} {H : Heap} {locs : List Loc} {cells slots : Nat} {Q : State → Prop}
set_option maxHeartbeats 4000000 in
theorem xs2_ok {Z : x_T} {Y : x_Y} {Ts : List Cond} {cc : ByteArray} {o : Nat} {i : Instr} {len pc pc' : Nat} {st st' : List Value} {ls : Array Slot} {ρ0 ρ : Nat → Nat} {A : Nat → Prop} (hx : p.tables.exec = Jvm.exec) (hb : c.code = cc) (hts : ∀ w ∈ Ts, w.before args s = true) (hown : s.vm.findClass (znm Z o) = some m.cls)
    (hyF : ∀ (o idx k : Nat), yF Y o idx = some k → (k = 0 → Cond.fieldLink (znm Z o) idx "java/lang/String" "value" "[B" ∈ Ts) ∧ (k = 1 → Cond.fieldLink (znm Z o) idx "java/lang/String" "coder" "B" ∈ Ts)) (hyG : ∀ (o idx : Nat) g, yG Y o idx = some g → Cond.fieldLink (znm Z o) idx g.2.1 g.2.2.1 g.2.2.2 ∈ Ts ∧ xok 0 g.1 = true)
    (hE : xEnv Z Y ρ0 A s s.heap) (hag : ∀ i, 1000000 ≤ i → ρ i = ρ0 i) (hS : va_S A s.heap H locs) (hdg : decode cc pc = .ok (i, len)) (h : xs2 Y o i len pc st = some (pc', st'))
    (kk : W p l e R s m args below meth c H locs cells slots Q (F0 m pc' ls (st'.map (xv ρ)))) : W p l e R s m args below meth c H locs cells slots Q (F0 m pc ls (st.map (xv ρ))) := by
  obtain ⟨hE1, hE2, hE3, -⟩ := hE
  have a1 : ∀ k : Nat, ρ0 (1000000 + 2 * k) = ρ (1000000 + 2 * k) := fun k => (hag _ (by omega)).symm
  have a2 : ∀ k : Nat, ρ0 (1000001 + 2 * k) = ρ (1000001 + 2 * k) := fun k => (hag _ (by omega)).symm
  have a3 : ∀ k : Nat, 1000000 + 2 * k + 1 = 1000001 + 2 * k := fun k => by omega
  unfold xs2 at h
  split at h
  · rename_i idx
    split at h
    · rename_i hlen
      subst hlen
      obtain ⟨k, hk, he⟩ := Option.map_eq_some_iff.mp h
      cases he
      obtain ⟨tx, hr⟩ := hE2 o idx k hk
      rw [a1] at hr
      exact va_ldcS hx hb hown hr hdg kk
    · cases h
  · rename_i idx
    split at h
    · rename_i hlen
      subst hlen
      obtain ⟨g, hg, he⟩ := Option.map_eq_some_iff.mp h
      cases he
      have e3 : xv ρ g.1 = xv ρ0 g.1 := xv_of (n := 0) (fun i hi => hag i (by omega)) (hyG o idx g hg).2
      have hz := hE3 o idx g hg
      rw [← e3] at hz
      exact va_gets hx hb hz hS hown (hts _ (hyG o idx g hg).1) (fun _ z => z) hdg kk
    · cases h
  · rename_i idx
    split at h
    · split at h
      · rename_i hlen
        subst hlen
        split at h
        · rename_i hk hf
          cases h
          obtain ⟨e0, hk2⟩ := xTx_inv hk (by omega)
          subst e0
          have hv : va_OF "java/lang/String" "value" "[B" (.ref (ρ0 (1000001 + 2 * _))) (ρ0 (1000000 + 2 * _)) A s s.heap := (hE1.1 _ hk2).2.2.1
          rw [a1, a2] at hv
          exact vk_getf hx hb hv hS hown (hts _ ((hyF o idx 0 hf).1 rfl)) (fun _ z => z) hdg kk
        · rename_i hk hf
          cases h
          obtain ⟨e0, hk2⟩ := xTx_inv hk (by omega)
          subst e0
          have hv : va_OF "java/lang/String" "coder" "B" (.int 0) (ρ0 (1000000 + 2 * _)) A s s.heap := (hE1.1 _ hk2).2.1
          rw [a1] at hv
          exact vk_getf hx hb hv hS hown (hts _ ((hyF o idx 1 hf).2 rfl)) (fun _ z => z) hdg kk
        · cases h
      · cases h
    · cases h
  · split at h
    · split at h
      · rename_i hk
        split at h
        · rename_i hc
          obtain ⟨rfl, hc⟩ := hc
          cases h
          obtain ⟨e0, hk2⟩ := xTx_inv hk (by omega)
          rw [a3] at e0
          subst e0
          have hv : va_T .byte (ρ0 (1000001 + 2 * _)) _ _ A s s.heap := (hE1.1 _ hk2).2.2.2
          rw [a2] at hv
          exact va_tb hx hb hv hS hc rfl hdg kk
        · cases h
      · cases h
    · cases h
  · split at h
    · split at h
      · rename_i hk
        split at h
        · rename_i hc
          subst hc
          cases h
          obtain ⟨e0, hk2⟩ := xTx_inv hk (by omega)
          rw [a3] at e0
          subst e0
          have hv : va_T .byte (ρ0 (1000001 + 2 * _)) _ _ A s s.heap := (hE1.1 _ hk2).2.2.2
          rw [a2] at hv
          exact va_tlen hx hb hv hS rfl hdg kk
        · cases h
      · cases h
    · cases h
  · cases h
end XS2
end
section
theorem xRet_inv {M : x_M} {i : Instr} {len : Nat} {st : List Value} {rv : Option Value} (h : xRet M i len st = some rv) : (i = .return_ ∧ len = 1 ∧ xr M = none ∧ st = [] ∧ rv = none) ∨ (i = .ireturn ∧ len = 1 ∧ ∃ v ty, xr M = some ty ∧ narrow ty (.int v) = .int v ∧ st = [.int v] ∧ rv = some (.int v)) ∨ (i = .lreturn ∧ len = 1 ∧ ∃ v, xr M = some .long ∧ st = [.long v] ∧ rv = some (.long v)) ∨ (i = .areturn ∧ len = 1 ∧ ∃ a, xr M = some (.array .long) ∧ st = [.ref a] ∧ rv = some (.ref a)) := by
  unfold xRet at h
  split at h
  · split at h
    · rename_i hc
      cases h
      exact Or.inl ⟨rfl, hc.1, hc.2.1, hc.2.2, rfl⟩
    · cases h
  · split at h
    · rename_i hr
      split at h
      · rename_i hc
        cases h
        exact Or.inr (Or.inl ⟨rfl, hc.1, _, _, hr, hc.2, rfl, rfl⟩)
      · cases h
    · cases h
  · split at h
    · rename_i hr
      split at h
      · rename_i hc
        cases h
        obtain ⟨h1, rfl⟩ := hc
        exact Or.inr (Or.inr (Or.inl ⟨rfl, h1, _, hr, rfl, rfl⟩))
      · cases h
    · cases h
  · split at h
    · rename_i hr
      split at h
      · rename_i hc
        cases h
        obtain ⟨h1, rfl⟩ := hc
        exact Or.inr (Or.inr (Or.inr ⟨rfl, h1, _, hr, rfl, rfl⟩))
      · cases h
    · cases h
  · cases h
theorem xAlo_inv {Z : x_T} {M : x_M} {i : Instr} {len : Nat} {st r : List Value} {x : x_E} {sl w : Nat} (h : xAlo Z M i len st = some (x, sl, r, w)) : (∃ idx ci q, i = .new idx ∧ len = 3 ∧ zC Z (xo M) idx = some ci ∧ (zcl Z)[ci]? = some q ∧ x = .inr (ci, (List.range q.2.2).map fun k => defaultValue (xty q k)) ∧ sl = q.2.2 ∧ r = st ∧ w = 3) ∨
    (∃ t cnt tn a0, i = .newarray t ∧ len = 2 ∧ st = .int cnt :: r ∧ ¬ cnt < 0 ∧ cnt.toNatClampNeg * componentBytes (newarray.typeOf t) ≤ 536870912 ∧ xAt t = some (tn, a0) ∧ x = .inl (tn, cnt.toNatClampNeg, a0) ∧ sl = cnt.toNatClampNeg ∧ w = 2) := by
  unfold xAlo at h
  split at h
  · split at h
    · rename_i hlen
      split at h
      · cases h
      · rename_i hc
        split at h
        · cases h
        · rename_i hq
          cases h
          exact Or.inl ⟨_, _, _, rfl, hlen, hc, hq, rfl, rfl, rfl, rfl⟩
    · cases h
  · split at h
    · split at h
      · rename_i hc
        split at h
        · cases h
        · rename_i ht
          cases h
          exact Or.inr ⟨_, _, _, _, rfl, hc.1, rfl, hc.2.1, hc.2.2, ht, rfl, rfl, rfl⟩
      · cases h
    · cases h
  · cases h
theorem xAt_inv {t : ArrayType} {tn : Nat} {a0 : (Nat → Int32) ⊕ (Nat → Int64) ⊕ (Nat → UInt32) ⊕ (Nat → UInt64) ⊕ (Nat → Option Nat)} (h : xAt t = some (tn, a0)) (cA : Nat → ClassId) : (x_tys cA)[tn]? = some (cA tn, newarray.typeOf t) ∧ (∀ C, newarray.typeOf t ≠ .object C) ∧ (∀ (N : Nat) (cB : ClassId), vp_cell cB (N, a0) = arrV cB N (fun _ => defaultValue (newarray.typeOf t))) := by
  cases t <;> first | (cases h; done) | (cases h; exact ⟨rfl, fun C z => (by cases z), fun N cB => rfl⟩)
set_option maxHeartbeats 8000000 in
set_option maxRecDepth 20000 in
/-- THE INTERPRETER IS SOUND -/
theorem xWst_all {Z : x_T} {Y : x_Y} {Ts : List Cond} (hZ : xZok Z Y Ts) (l : Launch) (D : va_G) (cA : Nat → ClassId) : ∀ f, xWst Z Y Ts l D cA f := by
  intro f
  induction f with
  | zero =>
    intro d M j pc lv st hp k n rv hp' hj h
    cases h
  | succ f ih =>
    intro d M j pc lv st hp k n rv hp' hj h p e s m args below meth c H locs ls ρ0 ρ n0 A hx hb hml hr hlocks hnm hts hown hK hA hw hl hag hn0 hk hn hE
    obtain ⟨hC, hF, hKc, hKl, hNew, hM, hL, hMt, hO, hOb, hArr, hGood, hNm, hyF, hyG⟩ := id hZ
    have hagM : ∀ i, 1000000 ≤ i → ρ i = ρ0 i := fun i hi => hag i (Or.inr hi)
    obtain ⟨hc1, hc2, hc3, hc4, hc5, hc6⟩ := hM j M hj
    have hown' : s.vm.findClass (znm Z (xo M)) = some m.cls := by rw [← hc4]; exact hown
    unfold brun at h
    cases hd : decode (xb M) pc with
    | error z => rw [hd] at h; cases h
    | ok z =>
      obtain ⟨i, len⟩ := z
      rw [hd] at h
      dsimp only at h
      cases hki : xKi i with
      | some z =>
        obtain ⟨ki, idx⟩ := z
        rw [hki] at h
        dsimp only at h
        split at h
        · rename_i hlen
          subst hlen
          split at h
          · rename_i hobj
            split at h
            · rename_i b r
              split at h
              · rename_i hchk
                simp only [xObj, Bool.and_eq_true, beq_iff_eq] at hobj
                obtain ⟨rfl, hobj⟩ := hobj
                have hi : i = .invokespecial idx := by
                  rcases xKi_inv hki with ⟨_, z⟩ | ⟨_, z⟩ | ⟨z, _⟩
                  · cases z
                  · cases z
                  · exact z
                subst hi
                cases hz : zL Z (xo M) idx with
                | none => rw [hz] at hobj; cases hobj
                | some z =>
                  obtain ⟨kd, j2⟩ := z
                  rw [hz] at hobj
                  have : kd = 4 := by simpa using hobj
                  subst this
                  have hcat : ((r.map (xv ρ)).map fun v => v.category).sum ≤ 8 := by
                    have : ((r.map (xv ρ)).map fun v => v.category) = r.map fun v => v.category := by
                      rw [List.map_map]
                      exact List.map_congr_left (fun v _ => xv_cat ρ v)
                    rw [this]
                    exact hchk.2
                  refine W.objInit (a := ρ b) (rest := r.map (xv ρ)) hx hb hown' (hts _ (hO _ _ _ hz)) (hts _ hOb.1) (hts _ hOb.2) rfl (hl.1.trans hml.symm) rfl hd hchk.1 ?_ ?_
                  · have := lv_room (m := m) (pc := pc) (ls := ls) (rest := r.map (xv ρ)) hcat
                    show _ ≤ 64 * d
                    have h1 := hchk.1
                    have h2 : 2 * (F0 m pc ls ((Value.ref b :: r).map (xv ρ))).monitorRoom + ((r.map (xv ρ)).map fun v => v.category).sum ≤ 8 := lv_room hcat
                    omega
                  · exact ih d M j (pc + 3) lv r hp k n rv hp' hj h p e s m args below meth c H locs ls ρ0 ρ n0 A hx hb hml hr hlocks hnm hts hown hK hA hw hl hag hn0 hk hn hE
              · cases h
            · cases h
          · cases hmt : xMth Z M ki idx st with
            | some st' =>
              rw [hmt] at h
              dsimp only at h
              split at h
              · rename_i hchk
                obtain ⟨hd1, hcat⟩ := hchk
                have go := ih d M j (pc + 3) lv st' hp k n rv hp' hj h p e s m args below meth c H locs ls ρ0 ρ n0 A hx hb hml hr hlocks hnm hts hown hK hA hw hl hag hn0 hk hn hE
                have hmap : ∀ r : List Value, ((r.map (xv ρ)).map fun v => v.category) = r.map fun v => v.category := fun r => by
                  rw [List.map_map]
                  exact List.map_congr_left (fun v _ => xv_cat ρ v)
                have hml' : c.maxLocals = ls.size := hml.trans hl.1.symm
                unfold xMth at hmt
                split at hmt
                · rename_i hki1
                  subst hki1
                  have hi : i = .invokestatic idx := by
                    rcases xKi_inv hki with ⟨_, z⟩ | ⟨z, _⟩ | ⟨_, z⟩
                    · cases z
                    · exact z
                    · cases z
                  subst hi
                  split at hmt
                  · rename_i hz
                    obtain ⟨m1, m2, m3, m4⟩ := (hMt _ _ _ _ hz).1 rfl
                    split at hmt
                    · cases hmt
                      simp only [List.map_cons, List.sum_cons] at hcat
                      exact va_mmin hx hb hml' hown' (hts _ m1) (hts _ m2) (hts _ m3) (hts _ m4) hd1 (by rw [hmap]; show _ ≤ 64 * d; omega) hk hn hd go
                    · cases hmt
                  · rename_i hz
                    obtain ⟨m1, m2, m3, m4⟩ := (hMt _ _ _ _ hz).2.1 rfl
                    split at hmt
                    · cases hmt
                      simp only [List.map_cons, List.sum_cons] at hcat
                      exact va_mmax hx hb hml' hown' (hts _ m1) (hts _ m2) (hts _ m3) (hts _ m4) hd1 (by rw [hmap]; show _ ≤ 64 * d; omega) hk hn hd go
                    · cases hmt
                  · rename_i hz
                    obtain ⟨m1, m2, m3, m4⟩ := (hMt _ _ _ _ hz).2.2 rfl
                    split at hmt
                    · cases hmt
                      simp only [List.map_cons, List.sum_cons] at hcat
                      exact va_mmin_long hx hb hml' hown' (hts _ m1) (hts _ m2) (hts _ m3) (hts _ m4) hd1 (by rw [hmap]; show _ ≤ 64 * d; omega) hk hn hd go
                    · cases hmt
                  · cases hmt
                · cases hmt
              · cases h
            | none =>
              rw [hmt] at h
              dsimp only at h
              split at h
              · cases h
              · rename_i d'
                split at h
                · cases h
                · rename_i M' avs r hreq
                  split at h
                  · rename_i hchk
                    split at h
                    · cases h
                    · rename_i rv1 hp1 hrun
                      split at h
                      · rename_i hle
                        have hchk2 := hchk
                        simp only [xChk, Bool.and_eq_true, decide_eq_true_eq] at hchk2
                        obtain ⟨⟨⟨⟨⟨q1, q2⟩, q3⟩, q4⟩, q5⟩, q6⟩ := hchk2
                        have hMet : ∀ j', zM Z j' = some M' → xMet Z Y Ts l D cA d' M' hp avs rv1 hp1 := fun j' hj' => xMet_of hZ ih hj' hrun q6
                        have hFc := va_free (wc := xw ρ cA hp) hw.2.1 hw.2.2 hA (List.range (xw ρ cA hp).length) (by
                          apply List.ext_getElem?
                          intro q
                          rw [List.getElem?_map, List.getElem?_map]
                          by_cases hq : q < (xw ρ cA hp).length
                          · rw [List.getElem?_range hq]
                            simp [hq]
                          · rw [List.getElem?_eq_none (by simpa using hq), List.getElem?_eq_none (by simpa using hq)]
                            rfl)
                        refine x_call (x_run hZ hki hd hreq hchk hMet hx hb hml hts hown' hK hw.1 hw.2.1 hw.2.2 hE hFc hagM hl) hw.2.2 (fun q _ z => hFc q z) hFc (fun ρ1 t H1 locs1 ht hvm hag1 hP1 hK1 hD1 hS1 => ?_)
                        have hl1 : lv_has ls (xn M) (lv.map (xq ρ1)) := by rw [xq_ofs hag1 q1]; exact hl
                        have := ih (d' + 1) M j (pc + 3) lv (rv1.toList ++ r) hp1 (k + xmc M') (n + xms M') rv hp' hj h p e s m args below meth c H1 locs1 ls ρ0 ρ1 n0 A hx hb hml hr hlocks hnm hts hown hK hA ⟨by rw [← ht]; exact hP1, hD1.weaken (fun _ q _ z => hFc q.1 z), hS1⟩ hl1 (fun i hi => (hag1 i (by omega)).trans (hag i hi)) (by omega) q3 q4 hE
                        rw [List.map_append, xv_ofs hag1 q2] at this
                        have e0 : rv1.toList.map (xv ρ1) = (rv1.map (xv ρ1)).toList := by cases rv1 <;> rfl
                        rw [e0] at this
                        exact this
                      · cases h
                  · cases h
        · cases h
      | none =>
        rw [hki] at h
        dsimp only at h
        cases hret : xRet M i len st with
        | some z =>
          rw [hret] at h
          cases h
          refine W.widen (k := xmc M) (n := xms M) hk hn ?_
          have post : ∀ t : State, t.heap = H → s.WarmedH t.vm → xQc D (zcl Z) cA ρ0 n0 rv hp A args s (.returned (rv.map (xv ρ))) t := fun t ht hW => ⟨⟨ρ, rfl, hag, by rw [ht]; exact hw.1, va_K.moved hW.alike hK, hw.2.1⟩, hw.2.2.F ht⟩
          rcases xRet_inv hret with ⟨rfl, rfl, h1, rfl, rfl⟩ | ⟨rfl, rfl, v, ty, h1, h2, rfl, rfl⟩ | ⟨rfl, rfl, v, h1, rfl, rfl⟩ | ⟨rfl, rfl, v, h1, rfl, rfl⟩
          · exact W.vret hx hb (hr.trans h1) post hw.2.2.2.2 hd hlocks
          · exact W.zret hx hb (hr.trans h1) h2 post hw.2.2.2.2 hd hlocks
          · exact W.lret hx hb (hr.trans h1) post hw.2.2.2.2 hd hlocks
          · exact W.aret hx hb (hr.trans h1) (Or.inr ⟨_, rfl⟩) (Or.inr ⟨_, rfl⟩) post hw.2.2.2.2 hd hlocks
        | none =>
          rw [hret] at h
          dsimp only at h
          cases hal : xAlo Z M i len st with
          | some z =>
            obtain ⟨x, sl, r, w⟩ := z
            rw [hal] at h
            dsimp only at h
            split at h
            · rename_i hchk
              simp only [Bool.and_eq_true, decide_eq_true_eq] at hchk
              obtain ⟨⟨⟨⟨⟨q1, q2⟩, q3⟩, q4⟩, q5⟩, q6⟩ := hchk
              have hagN : ∀ (q i : Nat), i < hp.length ∨ 1000000 ≤ i → (fun j => if j = hp.length then q else ρ j) i = ρ i := fun q i hi => by
                show (if i = hp.length then q else ρ i) = ρ i
                rw [if_neg (by omega)]
              have go : ∀ (q : Nat) (y : va_E) (H1 : Heap), (∀ ρ', xe ρ' cA x = y) → va_P D (zcl Z) (xw ρ cA hp ++ [(q, y)]) H1 → va_D A (xw ρ cA hp ++ [(q, y)]) → va_S A s.heap H1 locs → W p l e (xrm d (xmc M) (xms M)) s m args below meth c H1 locs (k + 1) (n + sl) (MQ below (xQc D (zcl Z) cA ρ0 n0 rv hp' A) args s (xmc M) (xms M) A) (F0 m (pc + w) ls (.ref q :: r.map (xv ρ))) := by
                intro q y H1 hy hP1 hD1 hS1
                rw [← xw_push (q := q) q1 q4 hy] at hP1 hD1
                have hl1 : lv_has ls (xn M) (lv.map (xq (fun j => if j = hp.length then q else ρ j))) := by rw [xq_ofs (hagN q) q2]; exact hl
                have := ih d M j (pc + w) lv (.ref hp.length :: r) (hp ++ [x]) (k + 1) (n + sl) rv hp' hj h p e s m args below meth c H1 locs ls ρ0 _ n0 A hx hb hml hr hlocks hnm hts hown hK hA ⟨hP1, hD1, hS1⟩ hl1 (fun i hi => (hagN q i (by omega)).trans (hag i hi)) (by rw [List.length_append]; omega) q5 q6 hE
                rw [List.map_cons, xv_ofs (hagN q) q3] at this
                have e0 : xv (fun j => if j = hp.length then q else ρ j) (.ref hp.length) = .ref q := by simp [xv]
                rw [e0] at this
                exact this
              rcases xAlo_inv hal with ⟨idx, ci, q, rfl, rfl, hz, hq, rfl, rfl, rfl, rfl⟩ | ⟨t, cnt, tn, a0, rfl, rfl, rfl, h1, h2, h3, rfl, rfl, rfl⟩
              · obtain ⟨q', hq', n1, n2, n3⟩ := hNew _ _ _ hz
                rw [hq] at hq'
                cases hq'
                obtain ⟨hin, hty, hnmf⟩ := hC ci q hq
                refine va_new (fs := (List.range q.2.2).map fun k => defaultValue (xty q k)) hx hb hts hin (xty q) hty hown' (hts _ n1) (hts _ n2) (hts _ n3) hK hw.1 hw.2.1 hw.2.2 hA hq (fun jj hjj => ?_) q5 q6 hd (fun qq H1 hP1 hD1 hS1 => go qq _ H1 (fun ρ' => ?_) hP1 hD1 hS1)
                · simp [vp_V, hjj]
                · show (Sum.inr (ci, ((List.range q.2.2).map fun k => defaultValue (xty q k)).map (xv ρ')) : va_E) = _
                  rw [List.map_map]
                  congr 2
                  apply List.map_congr_left
                  intro k0 _
                  show xv ρ' (defaultValue (xty q k0)) = defaultValue (xty q k0)
                  cases xty q k0 <;> rfl
              · obtain ⟨g1, g2, g3⟩ := xAt_inv h3 cA
                have harr : (Cond.arrayClass (newarray.typeOf t)).before args s = true := by
                  cases t <;> first | (cases h3; done) | exact hts _ hArr.1 | exact hts _ hArr.2.1 | exact hts _ hArr.2.2.1 | exact hts _ hArr.2.2.2.1 | exact hts _ hArr.2.2.2.2
                refine va_newa (a0 := (cnt.toNatClampNeg, a0)) hx hb harr rfl hK hw.1 hw.2.1 hw.2.2 hA (g3 _) h1 rfl h2 q5 q6 hd (fun qq cB H1 hK1 hP1 hD1 hS1 => ?_)
                have := xK0 hK g1 hK1 g2
                subst this
                exact go qq _ H1 (fun ρ' => rfl) hP1 hD1 hS1
            · cases h
          | none =>
            rw [hal] at h
            dsimp only at h
            cases hs2 : xs2 Y (xo M) i len pc st with
            | some z =>
              obtain ⟨pc', st'⟩ := z
              rw [hs2] at h
              dsimp only at h
              refine xs2_ok hx hb hts hown' hyF hyG hE hagM hw.2.2 hd hs2 ?_
              exact ih d M j pc' lv st' hp k n rv hp' hj h p e s m args below meth c H locs ls ρ0 ρ n0 A hx hb hml hr hlocks hnm hts hown hK hA hw hl hag hn0 hk hn hE
            | none =>
              rw [hs2] at h
              dsimp only at h
              split at h
              · cases h
              · rename_i pc' lv' st' hp2 hstep
                exact xs1_ok hx hb hts hown' hK (fun hi => by rw [hnm]; simpa using hi) hC (hF _) (fun idx v hv => hts _ (hKc _ _ _ hv)) (fun idx v hv => hts _ (hKl _ _ _ hv)) hw hl hd hstep (fun H1 locs1 ls1 hw1 hl1 => ih d M j pc' lv' st' hp2 k n rv hp' hj h p e s m args below meth c H1 locs1 ls1 ρ0 ρ n0 A hx hb hml hr hlocks hnm hts hown hK hA hw1 hl1 hag (xs1_len hstep ▸ hn0) hk hn hE)
end
section
/-! THE SAME INTERPRETER, MADE TO BE COUNTED OUT: values are brought to their least form at each step. -/
def xs1F (i : Instr) : (cl : List vw_C) → (ini : Bool) → (nL : Nat) → (fl : Nat → Option (Nat × Nat)) → (kc : Nat → Option Int32) → (kl : Nat → Option Int64) → (len pc : Nat) → (lv : List (Nat × Value)) → (st : List Value) → (hp : List x_E) → x_R := match i with
  | .iadd => fun cl ini nL fl kc kl len pc lv st hp => xK len 1 ((xI2 (fun x y => x + y) st).map fun t => (pc + 1, lv, t, hp))
  | .isub => fun cl ini nL fl kc kl len pc lv st hp => xK len 1 ((xI2 (fun x y => x - y) st).map fun t => (pc + 1, lv, t, hp))
  | .imul => fun cl ini nL fl kc kl len pc lv st hp => xK len 1 ((xI2 (fun x y => x * y) st).map fun t => (pc + 1, lv, t, hp))
  | .iand => fun cl ini nL fl kc kl len pc lv st hp => xK len 1 ((xI2 (fun x y => x &&& y) st).map fun t => (pc + 1, lv, t, hp))
  | .ior => fun cl ini nL fl kc kl len pc lv st hp => xK len 1 ((xI2 (fun x y => x ||| y) st).map fun t => (pc + 1, lv, t, hp))
  | .ixor => fun cl ini nL fl kc kl len pc lv st hp => xK len 1 ((xI2 (fun x y => x ^^^ y) st).map fun t => (pc + 1, lv, t, hp))
  | .ishl => fun cl ini nL fl kc kl len pc lv st hp => xK len 1 ((xI2 (fun x y => x <<< (y &&& 31)) st).map fun t => (pc + 1, lv, t, hp))
  | .ishr => fun cl ini nL fl kc kl len pc lv st hp => xK len 1 ((xI2 (fun x y => x >>> (y &&& 31)) st).map fun t => (pc + 1, lv, t, hp))
  | .iushr => fun cl ini nL fl kc kl len pc lv st hp => xK len 1 ((xI2 (fun x y => (x.toUInt32 >>> (y.toUInt32 &&& Int32.toUInt32 31)).toInt32) st).map fun t => (pc + 1, lv, t, hp))
  | .idiv => fun cl ini nL fl kc kl len pc lv st hp => xK len 1 ((xI2z (fun x y => x / y) st).map fun t => (pc + 1, lv, t, hp))
  | .irem => fun cl ini nL fl kc kl len pc lv st hp => xK len 1 ((xI2z (fun x y => x - x / y * y) st).map fun t => (pc + 1, lv, t, hp))
  | .ladd => fun cl ini nL fl kc kl len pc lv st hp => xK len 1 ((xL2 (fun x y => x + y) st).map fun t => (pc + 1, lv, t, hp))
  | .lsub => fun cl ini nL fl kc kl len pc lv st hp => xK len 1 ((xL2 (fun x y => x - y) st).map fun t => (pc + 1, lv, t, hp))
  | .lmul => fun cl ini nL fl kc kl len pc lv st hp => xK len 1 ((xL2 (fun x y => x * y) st).map fun t => (pc + 1, lv, t, hp))
  | .land => fun cl ini nL fl kc kl len pc lv st hp => xK len 1 ((xL2 (fun x y => x &&& y) st).map fun t => (pc + 1, lv, t, hp))
  | .lor => fun cl ini nL fl kc kl len pc lv st hp => xK len 1 ((xL2 (fun x y => x ||| y) st).map fun t => (pc + 1, lv, t, hp))
  | .lxor => fun cl ini nL fl kc kl len pc lv st hp => xK len 1 ((xL2 (fun x y => x ^^^ y) st).map fun t => (pc + 1, lv, t, hp))
  | .lshl => fun cl ini nL fl kc kl len pc lv st hp => xK len 1 ((xLI (fun x y => x <<< (y.toInt64 &&& 63)) st).map fun t => (pc + 1, lv, t, hp))
  | .lshr => fun cl ini nL fl kc kl len pc lv st hp => xK len 1 ((xLI (fun x y => x >>> (y.toInt64 &&& 63)) st).map fun t => (pc + 1, lv, t, hp))
  | .lushr => fun cl ini nL fl kc kl len pc lv st hp => xK len 1 ((xLI (fun x y => (x.toUInt64 >>> (y.toInt64.toUInt64 &&& Int64.toUInt64 63)).toInt64) st).map fun t => (pc + 1, lv, t, hp))
  | .lcmp => fun cl ini nL fl kc kl len pc lv st hp => xK len 1 ((xLL lg_cmp st).map fun t => (pc + 1, lv, t, hp))
  | .ineg => fun cl ini nL fl kc kl len pc lv st hp => xK len 1 ((xII (fun x => -x) st).map fun t => (pc + 1, lv, t, hp))
  | .i2b => fun cl ini nL fl kc kl len pc lv st hp => xK len 1 ((xII (fun x => x.toInt8.toInt32) st).map fun t => (pc + 1, lv, t, hp))
  | .i2s => fun cl ini nL fl kc kl len pc lv st hp => xK len 1 ((xII (fun x => x.toInt16.toInt32) st).map fun t => (pc + 1, lv, t, hp))
  | .i2c => fun cl ini nL fl kc kl len pc lv st hp => xK len 1 ((xII (fun x => (x.toUInt32 % 65536).toInt32) st).map fun t => (pc + 1, lv, t, hp))
  | .i2l => fun cl ini nL fl kc kl len pc lv st hp => xK len 1 ((xIL Int32.toInt64 st).map fun t => (pc + 1, lv, t, hp))
  | .l2i => fun cl ini nL fl kc kl len pc lv st hp => xK len 1 ((xLi Int64.toInt32 st).map fun t => (pc + 1, lv, t, hp))
  | .iconst n => fun cl ini nL fl kc kl len pc lv st hp => xK len 1 (some (pc + 1, lv, .int (Int32.ofInt n) :: st, hp))
  | .bipush n => fun cl ini nL fl kc kl len pc lv st hp => xK len 2 (some (pc + 2, lv, .int (Int8.ofInt n).toInt32 :: st, hp))
  | .sipush n => fun cl ini nL fl kc kl len pc lv st hp => xK len 3 (some (pc + 3, lv, .int (Int16.ofInt n).toInt32 :: st, hp))
  | .lconst n => fun cl ini nL fl kc kl len pc lv st hp => xK len 1 (some (pc + 1, lv, .long (Int64.ofNat (n : Nat)) :: st, hp))
  | .aconst_null => fun cl ini nL fl kc kl len pc lv st hp => xK len 1 (some (pc + 1, lv, .null :: st, hp))
  | .ldc idx => fun cl ini nL fl kc kl len pc lv st hp => xK len 2 ((kc idx).map fun v => (pc + 2, lv, .int v :: st, hp))
  | .ldc_w idx => fun cl ini nL fl kc kl len pc lv st hp => xK len 3 ((kc idx).map fun v => (pc + 3, lv, .int v :: st, hp))
  | .ldc2_w idx => fun cl ini nL fl kc kl len pc lv st hp => xK len 3 ((kl idx).map fun v => (pc + 3, lv, .long v :: st, hp))
  | .iload i => fun cl ini nL fl kc kl len pc lv st hp => xK len 2 ((xLIv i lv).map fun v => (pc + 2, lv, v :: st, hp))
  | .iload_n i => fun cl ini nL fl kc kl len pc lv st hp => xK len 1 ((xLIv i.val lv).map fun v => (pc + 1, lv, v :: st, hp))
  | .lload i => fun cl ini nL fl kc kl len pc lv st hp => xK len 2 ((xLLv i lv).map fun v => (pc + 2, lv, v :: st, hp))
  | .lload_n i => fun cl ini nL fl kc kl len pc lv st hp => xK len 1 ((xLLv i.val lv).map fun v => (pc + 1, lv, v :: st, hp))
  | .aload i => fun cl ini nL fl kc kl len pc lv st hp => xK len 2 ((xLAv i lv).map fun v => (pc + 2, lv, v :: st, hp))
  | .aload_n i => fun cl ini nL fl kc kl len pc lv st hp => xK len 1 ((xLAv i.val lv).map fun v => (pc + 1, lv, v :: st, hp))
  | .istore i => fun cl ini nL fl kc kl len pc lv st hp => xK len 2 ((xPopI st).bind fun q => if i < nL then some (pc + 2, xS1 lv i (.int q.1), q.2, hp) else none)
  | .istore_n i => fun cl ini nL fl kc kl len pc lv st hp => xK len 1 ((xPopI st).bind fun q => if i.val < nL then some (pc + 1, xS1 lv (i.val) (.int q.1), q.2, hp) else none)
  | .lstore i => fun cl ini nL fl kc kl len pc lv st hp => xK len 2 ((xPopL st).bind fun q => if i + 1 < nL then some (pc + 2, xS2 lv i (.long q.1), q.2, hp) else none)
  | .lstore_n i => fun cl ini nL fl kc kl len pc lv st hp => xK len 1 ((xPopL st).bind fun q => if i.val + 1 < nL then some (pc + 1, xS2 lv (i.val) (.long q.1), q.2, hp) else none)
  | .astore i => fun cl ini nL fl kc kl len pc lv st hp => xK len 2 ((xPopA st).bind fun q => if i < nL then some (pc + 2, xS1 lv i q.1, q.2, hp) else none)
  | .astore_n i => fun cl ini nL fl kc kl len pc lv st hp => xK len 1 ((xPopA st).bind fun q => if i.val < nL then some (pc + 1, xS1 lv (i.val) q.1, q.2, hp) else none)
  | .iinc i n => fun cl ini nL fl kc kl len pc lv st hp => xK len 3 ((xLIn i lv).bind fun x => if i < nL then some (pc + 3, xS1 lv i (.int (x + Int32.ofInt n)), st, hp) else none)
  | .ifCond cn off => fun cl ini nL fl kc kl len pc lv st hp => xK len 3 ((xPopI st).bind fun q => (xTg pc off).map fun t => (if xCn cn q.1 0 then t else pc + 3, lv, q.2, hp))
  | .if_icmp cn off => fun cl ini nL fl kc kl len pc lv st hp => xK len 3 ((xPopI st).bind fun q => (xPopI q.2).bind fun q2 => (xTg pc off).map fun t => (if xCn cn q2.1 q.1 then t else pc + 3, lv, q2.2, hp))
  | .goto off => fun cl ini nL fl kc kl len pc lv st hp => xK len 3 ((xTg pc off).map fun t => (t, lv, st, hp))
  | .ifnull off => fun cl ini nL fl kc kl len pc lv st hp => xK len 3 ((xPopA st).bind fun q => (xTg pc off).map fun t => (if q.1 = .null then t else pc + 3, lv, q.2, hp))
  | .ifnonnull off => fun cl ini nL fl kc kl len pc lv st hp => xK len 3 ((xPopA st).bind fun q => (xTg pc off).map fun t => (if q.1 = .null then pc + 3 else t, lv, q.2, hp))
  | .tableswitch d lo hi offs => fun cl ini nL fl kc kl len pc lv st hp => (xPopI st).bind fun q => (xTab d lo hi offs q.1).bind fun off => (xTg pc off).map fun t => (t, lv, q.2, hp)
  | .lookupswitch d ps => fun cl ini nL fl kc kl len pc lv st hp => if (ps.toList.zip (ps.toList.drop 1)).all (fun (a, next) => a.1 < next.1) = true then (xPopI st).bind fun q => (xTg pc (Op.lookupswitch.offset ps.toList d q.1.toInt)).map fun t => (t, lv, q.2, hp) else none
  | .dup => fun cl ini nL fl kc kl len pc lv st hp => xK len 1 ((xDup st).map fun t => (pc + 1, lv, t, hp))
  | .pop => fun cl ini nL fl kc kl len pc lv st hp => xK len 1 ((xPop st).map fun t => (pc + 1, lv, t, hp))
  | .dup_x1 => fun cl ini nL fl kc kl len pc lv st hp => xK len 1 ((xDupX1 st).map fun t => (pc + 1, lv, t, hp))
  | .dup_x2 => fun cl ini nL fl kc kl len pc lv st hp => xK len 1 ((xDupX2 st).map fun t => (pc + 1, lv, t, hp))
  | .dup2 => fun cl ini nL fl kc kl len pc lv st hp => xK len 1 ((xDup2 st).map fun t => (pc + 1, lv, t, hp))
  | .pop2 => fun cl ini nL fl kc kl len pc lv st hp => xK len 1 ((xPop2 st).map fun t => (pc + 1, lv, t, hp))
  | .getfield idx => fun cl ini nL fl kc kl len pc lv st hp => xK len 3 ((xGet fl idx hp st).map fun t => (pc + 3, lv, t, hp))
  | .putfield idx => fun cl ini nL fl kc kl len pc lv st hp => xK len 3 ((xPut cl ini fl idx hp st).map fun t => (pc + 3, lv, t.1, t.2))
  | .iaload => fun cl ini nL fl kc kl len pc lv st hp => xK len 1 ((xAld 0 hp st).map fun t => (pc + 1, lv, t, hp))
  | .caload => fun cl ini nL fl kc kl len pc lv st hp => xK len 1 ((xAld 3 hp st).map fun t => (pc + 1, lv, t, hp))
  | .baload => fun cl ini nL fl kc kl len pc lv st hp => xK len 1 (((xAld 2 hp st).or (xAld 4 hp st)).map fun t => (pc + 1, lv, t, hp))
  | .laload => fun cl ini nL fl kc kl len pc lv st hp => xK len 1 ((xAldL hp st).map fun t => (pc + 1, lv, t, hp))
  | .iastore => fun cl ini nL fl kc kl len pc lv st hp => xK len 1 ((xAst 0 (fun x => x) hp st).map fun t => (pc + 1, lv, t.1, t.2))
  | .castore => fun cl ini nL fl kc kl len pc lv st hp => xK len 1 ((xAst 3 (vp_nar .char) hp st).map fun t => (pc + 1, lv, t.1, t.2))
  | .bastore => fun cl ini nL fl kc kl len pc lv st hp => xK len 1 (((xAst 2 (vp_nar .byte) hp st).or (xAst 4 (vp_nar .boolean) hp st)).map fun t => (pc + 1, lv, t.1, t.2))
  | .lastore => fun cl ini nL fl kc kl len pc lv st hp => xK len 1 ((xAstL hp st).map fun t => (pc + 1, lv, t.1, t.2))
  | .arraylength => fun cl ini nL fl kc kl len pc lv st hp => xK len 1 ((xAlen hp st).map fun t => (pc + 1, lv, t, hp))
  | _ => fun cl ini nL fl kc kl len pc lv st hp => none
theorem xs1F_eq (cl : List vw_C) (ini : Bool) (nL : Nat) (fl : Nat → Option (Nat × Nat)) (kc : Nat → Option Int32) (kl : Nat → Option Int64) (i : Instr) (len pc : Nat) (lv : List (Nat × Value)) (st : List Value) (hp : List x_E) : xs1F i cl ini nL fl kc kl len pc lv st hp = xs1 cl ini nL fl kc kl i len pc lv st hp := by
  cases i <;> rfl
def fN {α : Type} (n : Nat) (k : Nat → α) : α := match n with
  | 0 => k 0
  | m + 1 => k (m + 1)
theorem fN_eq {α : Type} (n : Nat) (k : Nat → α) : fN n k = k n := by cases n <;> rfl
def fI {α : Type} (x : Int32) (k : Int32 → α) : α := fN x.toBitVec.toNat fun n => k (Int32.ofNat n)
theorem fI_eq {α : Type} (x : Int32) (k : Int32 → α) : fI x k = k x := by
  unfold fI
  rw [fN_eq]
  congr 1
  apply Int32.toBitVec_inj.mp
  simp
def fL {α : Type} (x : Int64) (k : Int64 → α) : α := fN x.toBitVec.toNat fun n => k (Int64.ofNat n)
theorem fL_eq {α : Type} (x : Int64) (k : Int64 → α) : fL x k = k x := by
  unfold fL
  rw [fN_eq]
  congr 1
  apply Int64.toBitVec_inj.mp
  simp
def fV {α : Type} (v : Value) (k : Value → α) : α := match v with
  | .int x => fI x fun y => k (.int y)
  | .long x => fL x fun y => k (.long y)
  | .ref i => fN i fun j => k (.ref j)
  | v => k v
theorem fV_eq {α : Type} (v : Value) (k : Value → α) : fV v k = k v := by
  cases v with
  | int x => exact fI_eq x (fun y => k (.int y))
  | long x => exact fL_eq x (fun y => k (.long y))
  | ref i => exact fN_eq i (fun j => k (.ref j))
  | _ => rfl
def fS {α : Type} (st : List Value) (k : List Value → α) : α := match st with
  | [] => k []
  | v :: r => fV v fun w => fS r fun q => k (w :: q)
theorem fS_eq {α : Type} (st : List Value) (k : List Value → α) : fS st k = k st := by
  induction st generalizing k with
  | nil => rfl
  | cons v r ih => unfold fS; rw [fV_eq, ih]
def fG {α : Type} (lv : List (Nat × Value)) (k : List (Nat × Value) → α) : α := match lv with
  | [] => k []
  | (i, v) :: r => fN i fun i => fV v fun w => fG r fun q => k ((i, w) :: q)
theorem fG_eq {α : Type} (lv : List (Nat × Value)) (k : List (Nat × Value) → α) : fG lv k = k lv := by
  induction lv generalizing k with
  | nil => rfl
  | cons v r ih => obtain ⟨i, v⟩ := v; unfold fG; rw [fN_eq, fV_eq, ih]
def fP {α β : Type} (l : List β) (k : List β → α) : α := match l with
  | [] => k []
  | x :: r => fP r fun q => k (x :: q)
theorem fP_eq {α β : Type} (l : List β) (k : List β → α) : fP l k = k l := by
  induction l generalizing k with
  | nil => rfl
  | cons v r ih => unfold fP; rw [ih]
def fE {α : Type} (x : x_E) (k : x_E → α) : α := match x with
  | .inl a => k (.inl a)
  | .inr (c, fs) => fP fs fun fs => k (.inr (c, fs))
theorem fE_eq {α : Type} (x : x_E) (k : x_E → α) : fE x k = k x := by
  cases x with
  | inl a => rfl
  | inr o => obtain ⟨c, fs⟩ := o; exact fP_eq fs (fun fs => k (.inr (c, fs)))
def fH {α : Type} (hp : List x_E) (k : List x_E → α) : α := match hp with
  | [] => k []
  | x :: r => fE x fun y => fH r fun q => k (y :: q)
theorem fH_eq {α : Type} (hp : List x_E) (k : List x_E → α) : fH hp k = k hp := by
  induction hp generalizing k with
  | nil => rfl
  | cons x r ih => unfold fH; rw [fE_eq, ih]
abbrev x_F : Type := Nat → x_M → Nat → List (Nat × Value) → List Value → List x_E → Nat → Nat → Option (Option Value × List x_E)
abbrev x_H : Type := x_F → x_T → x_Y → Nat → x_F
def hPl (i : Instr) : x_H := fun rc Z Y len d M pc lv st hp k n => match xs1F i (zcl Z) ((xy M).name == "<init>") (xn M) (zF Z (xo M)) (zKc Z (xo M)) (zKl Z (xo M)) len pc lv st hp with
  | none => none
  | some (pc', lv', st', hp') => rc d M pc' lv' st' hp' k n
def hWr (i : Instr) : x_H := fun rc Z Y len d M pc lv st hp k n => match xs1F i (zcl Z) ((xy M).name == "<init>") (xn M) (zF Z (xo M)) (zKc Z (xo M)) (zKl Z (xo M)) len pc lv st hp with
  | none => none
  | some (pc', lv', st', hp') => fH hp' fun hp' => rc d M pc' lv' st' hp' k n
def hWa (i : Instr) : x_H := fun rc Z Y len d M pc lv st hp k n => match xs1F i (zcl Z) ((xy M).name == "<init>") (xn M) (zF Z (xo M)) (zKc Z (xo M)) (zKl Z (xo M)) len pc lv st hp with
  | none => none
  | some (pc', lv', st', hp') => fP hp' fun hp' => rc d M pc' lv' st' hp' k n
def hTx (i : Instr) : x_H := fun rc Z Y len d M pc lv st hp k n => match xs2 Y (xo M) i len pc st with
  | some (pc', st') => rc d M pc' lv st' hp k n
  | none => hPl i rc Z Y len d M pc lv st hp k n
def hRt (i : Instr) : x_H := fun rc Z Y len d M pc lv st hp k n => match xRet M i len st with
  | some rv => some (rv, hp)
  | none => none
def hAl (i : Instr) : x_H := fun rc Z Y len d M pc lv st hp k n => match xAlo Z M i len st with
  | some (x, sl, r, w) => if (hp.all (xokE hp.length) && lv.all (fun q => xok hp.length q.2) && r.all (xok hp.length) && decide (hp.length < 1000000) && decide (k + 1 ≤ xmc M) && decide (n + sl ≤ xms M)) = true then fN (k + 1) fun k => fN (n + sl) fun n => fP (hp ++ [x]) fun hp' => rc d M (pc + w) lv (.ref hp.length :: r) hp' k n else none
  | none => none
def hIn (ki idx : Nat) : x_H := fun rc Z Y len d M pc lv st hp k n => if len = 3 then (if xObj Z M ki idx = true then (match st with
          | .ref _ :: r => if 1 ≤ d ∧ (r.map fun v => v.category).sum ≤ 8 then rc d M (pc + 3) lv r hp k n else none
          | _ => none)
        else match xMth Z M ki idx st with
        | some st' => if 1 ≤ d ∧ (st'.map fun v => v.category).sum ≤ 8 then rc d M (pc + 3) lv st' hp k n else none
        | none => match d with
          | 0 => none
          | d' + 1 => match xReq Z Y M ki idx st hp with
            | none => none
            | some (M', avs, r) => if xChk M M' lv r avs hp k n = true then (match rc d' M' 0 (lv_args 0 avs) [] hp 0 0 with
              | none => none
              | some (rv, hp1) => if hp.length ≤ hp1.length then fN (k + xmc M') fun k => fN (n + xms M') fun n => rc (d' + 1) M (pc + 3) lv (rv.toList ++ r) hp1 k n else none) else none) else none
def sH (i : Instr) : x_H := match i with
  | .invokevirtual idx => hIn 0 idx
  | .invokestatic idx => hIn 1 idx
  | .invokespecial idx => hIn 2 idx
  | .return_ => hRt .return_
  | .ireturn => hRt .ireturn
  | .lreturn => hRt .lreturn
  | .areturn => hRt .areturn
  | .new idx => hAl (.new idx)
  | .newarray t => hAl (.newarray t)
  | .ldc idx => hTx (.ldc idx)
  | .getstatic idx => hTx (.getstatic idx)
  | .getfield idx => hTx (.getfield idx)
  | .baload => hTx .baload
  | .arraylength => hTx .arraylength
  | .putfield idx => hWr (.putfield idx)
  | .iastore => hWa .iastore
  | .castore => hWa .castore
  | .bastore => hWa .bastore
  | .lastore => hWa .lastore
  | i => hPl i
def sst (rc : x_F) (Z : x_T) (Y : x_Y) : x_F := fun d M pc lv st hp k n => fN pc fun pc => fG lv fun lv => fS st fun st => match decode (xb M) pc with
  | .error _ => none
  | .ok (i, len) => sH i rc Z Y len d M pc lv st hp k n
def srun (Z : x_T) (Y : x_Y) : Nat → x_F
  | 0 => fun _ _ _ _ _ _ _ _ => none
  | f + 1 => sst (srun Z Y f) Z Y
set_option maxHeartbeats 4000000 in
theorem srun_eq (Z : x_T) (Y : x_Y) : ∀ (f d : Nat) (M : x_M) (pc : Nat) (lv : List (Nat × Value)) (st : List Value) (hp : List x_E) (k n : Nat), srun Z Y f d M pc lv st hp k n = brun Z Y f d M pc lv st hp k n := by
  intro f
  induction f with
  | zero => intros; rfl
  | succ f ih =>
    intro d M pc lv st hp k n
    have e : srun Z Y f = brun Z Y f := by
      funext d M pc lv st hp k n
      exact ih d M pc lv st hp k n
    show sst (srun Z Y f) Z Y d M pc lv st hp k n = _
    rw [e]
    unfold sst brun
    rw [fN_eq, fG_eq, fS_eq]
    cases hd : decode (xb M) pc with
    | error z => rfl
    | ok z =>
      obtain ⟨i, len⟩ := z
      dsimp only
      cases i <;> (simp only [sH, hPl, hWr, hWa, hTx, hRt, hAl, hIn, xKi, xRet, xAlo, xs2, xs1F_eq, fN_eq, fH_eq, fP_eq]; try rfl)
end
section
/-! a method without branches and calls, run along the list of its instructions -/
def hOb (idx : Nat) : x_H := fun rc Z Y len d M pc lv st hp k n => if len = 3 then (if xObj Z M 2 idx = true then (match st with
          | .ref _ :: r => if 1 ≤ d ∧ (r.map fun v => v.category).sum ≤ 8 then rc d M (pc + 3) lv r hp k n else none
          | _ => none) else none) else none
def hNo : x_H := fun _ _ _ _ _ _ _ _ _ _ _ _ => none
def iH (i : Instr) : x_H := match i with
  | .invokevirtual _ => hNo
  | .invokestatic _ => hNo
  | .invokespecial idx => hOb idx
  | i => sH i
def irun (Z : x_T) (Y : x_Y) : List (Nat × Instr × Nat) → x_F
  | [] => fun _ _ _ _ _ _ _ _ => none
  | (p, i, len) :: r => fun d M pc lv st hp k n => cond (Nat.beq p pc) (fS st fun st => iH i (irun Z Y r) Z Y len d M p lv st hp k n) none
section MONO
variable {rc rc' : x_F} {Z : x_T} {Y : x_Y} {len d : Nat} {M : x_M} {pc : Nat} {lv : List (Nat × Value)} {st : List Value} {hp : List x_E} {k n : Nat} {R : Option Value × List x_E} {i : Instr}
theorem hPl_m (hm : ∀ pc lv st hp k n, rc d M pc lv st hp k n = some R → rc' d M pc lv st hp k n = some R) (h : hPl i rc Z Y len d M pc lv st hp k n = some R) : hPl i rc' Z Y len d M pc lv st hp k n = some R := by
  unfold hPl at h ⊢
  cases hx : xs1F i (zcl Z) ((xy M).name == "<init>") (xn M) (zF Z (xo M)) (zKc Z (xo M)) (zKl Z (xo M)) len pc lv st hp with
  | none => rw [hx] at h; cases h
  | some z => rw [hx] at h; exact hm _ _ _ _ _ _ h
theorem hWr_m (hm : ∀ pc lv st hp k n, rc d M pc lv st hp k n = some R → rc' d M pc lv st hp k n = some R) (h : hWr i rc Z Y len d M pc lv st hp k n = some R) : hWr i rc' Z Y len d M pc lv st hp k n = some R := by
  unfold hWr at h ⊢
  cases hx : xs1F i (zcl Z) ((xy M).name == "<init>") (xn M) (zF Z (xo M)) (zKc Z (xo M)) (zKl Z (xo M)) len pc lv st hp with
  | none => rw [hx] at h; cases h
  | some z =>
    rw [hx] at h
    dsimp only at h ⊢
    rw [fH_eq] at h ⊢
    exact hm _ _ _ _ _ _ h
theorem hWa_m (hm : ∀ pc lv st hp k n, rc d M pc lv st hp k n = some R → rc' d M pc lv st hp k n = some R) (h : hWa i rc Z Y len d M pc lv st hp k n = some R) : hWa i rc' Z Y len d M pc lv st hp k n = some R := by
  unfold hWa at h ⊢
  cases hx : xs1F i (zcl Z) ((xy M).name == "<init>") (xn M) (zF Z (xo M)) (zKc Z (xo M)) (zKl Z (xo M)) len pc lv st hp with
  | none => rw [hx] at h; cases h
  | some z =>
    rw [hx] at h
    dsimp only at h ⊢
    rw [fP_eq] at h ⊢
    exact hm _ _ _ _ _ _ h
theorem hTx_m (hm : ∀ pc lv st hp k n, rc d M pc lv st hp k n = some R → rc' d M pc lv st hp k n = some R) (h : hTx i rc Z Y len d M pc lv st hp k n = some R) : hTx i rc' Z Y len d M pc lv st hp k n = some R := by
  unfold hTx at h ⊢
  cases hx : xs2 Y (xo M) i len pc st with
  | none => rw [hx] at h; exact hPl_m hm h
  | some z => rw [hx] at h; exact hm _ _ _ _ _ _ h
theorem hRt_m (h : hRt i rc Z Y len d M pc lv st hp k n = some R) : hRt i rc' Z Y len d M pc lv st hp k n = some R := h
theorem hAl_m (hm : ∀ pc lv st hp k n, rc d M pc lv st hp k n = some R → rc' d M pc lv st hp k n = some R) (h : hAl i rc Z Y len d M pc lv st hp k n = some R) : hAl i rc' Z Y len d M pc lv st hp k n = some R := by
  unfold hAl at h ⊢
  cases hx : xAlo Z M i len st with
  | none => rw [hx] at h; cases h
  | some z =>
    rw [hx] at h
    dsimp only at h ⊢
    split at h
    · rename_i hc
      rw [if_pos hc]
      rw [fN_eq, fN_eq, fP_eq] at h ⊢
      exact hm _ _ _ _ _ _ h
    · cases h
theorem hOb_m {idx : Nat} (hm : ∀ pc lv st hp k n, rc d M pc lv st hp k n = some R → rc' d M pc lv st hp k n = some R) (h : hOb idx rc Z Y len d M pc lv st hp k n = some R) : hIn 2 idx rc' Z Y len d M pc lv st hp k n = some R := by
  unfold hOb at h
  unfold hIn
  split at h
  · rename_i h1
    rw [if_pos h1]
    split at h
    · rename_i h2
      rw [if_pos h2]
      split at h
      · split at h
        · rename_i h3
          dsimp only
          rw [if_pos h3]
          exact hm _ _ _ _ _ _ h
        · cases h
      · cases h
    · cases h
  · cases h
theorem iH_m (hm : ∀ pc lv st hp k n, rc d M pc lv st hp k n = some R → rc' d M pc lv st hp k n = some R) (h : iH i rc Z Y len d M pc lv st hp k n = some R) : sH i rc' Z Y len d M pc lv st hp k n = some R := by
  cases i with
  | invokevirtual _ => cases h
  | invokestatic _ => cases h
  | invokespecial idx => exact hOb_m (Y := Y) hm h
  | return_ => exact h
  | ireturn => exact h
  | lreturn => exact h
  | areturn => exact h
  | new idx => exact hAl_m (Y := Y) hm h
  | newarray t => exact hAl_m (Y := Y) hm h
  | ldc idx => exact hTx_m (Y := Y) hm h
  | getstatic idx => exact hTx_m (Y := Y) hm h
  | getfield idx => exact hTx_m (Y := Y) hm h
  | baload => exact hTx_m (Y := Y) hm h
  | arraylength => exact hTx_m (Y := Y) hm h
  | putfield idx => exact hWr_m (Y := Y) hm h
  | iastore => exact hWa_m (Y := Y) hm h
  | castore => exact hWa_m (Y := Y) hm h
  | bastore => exact hWa_m (Y := Y) hm h
  | lastore => exact hWa_m (Y := Y) hm h
  | _ => (simp only [iH, sH] at h ⊢; exact hPl_m (Y := Y) hm h)
end MONO
theorem irun_ok (Z : x_T) (Y : x_Y) (M : x_M) (R : Option Value × List x_E) (d : Nat) : ∀ (l : List (Nat × Instr × Nat)), (∀ q ∈ l, decode (xb M) q.1 = .ok q.2) → ∀ (pc : Nat) (lv : List (Nat × Value)) (st : List Value) (hp : List x_E) (k n : Nat), irun Z Y l d M pc lv st hp k n = some R → srun Z Y l.length d M pc lv st hp k n = some R := by
  intro l
  induction l with
  | nil => intro _ pc lv st hp k n h; cases h
  | cons q r ih =>
    obtain ⟨p, i, len⟩ := q
    intro hq pc lv st hp k n h
    unfold irun at h
    cases hb : Nat.beq p pc with
    | false => rw [hb] at h; cases h
    | true =>
      rw [hb] at h
      have e := Nat.eq_of_beq_eq_true hb
      subst e
      dsimp only [cond_true] at h
      rw [fS_eq] at h
      show sst (srun Z Y r.length) Z Y d M p lv st hp k n = some R
      unfold sst
      rw [fN_eq, fG_eq, fS_eq, hq _ List.mem_cons_self]
      exact iH_m (fun pc lv st hp k n h2 => ih (fun q hq2 => hq q (List.mem_cons_of_mem _ hq2)) pc lv st hp k n h2) h
end
section
/-! THE CLAIM'S TABLES AS NUMBERS, each checked against the words of lw_tbl. Written by a program. -/
def xnmL : List String := ["TypedDescent", "TypedDescent$Text", "TypedDescent$Kinds", "TypedDescent$Memory", "TypedDescent$ProgramCode", "TypedDescent$ProgramGrammar", "TypedDescent$ProgramJudge", "TypedDescent$ProgramMachine", "TypedDescent$BlockGrammar", "TypedDescent$BlockCode", "TypedDescent$BlockJudge", "TypedDescent$BlockMachine", "TypedDescentModel", "java/lang/String", "java/lang/StringLatin1", "jdk/internal/util/Preconditions", "java/lang/StringUTF16", "java/lang/Math", "java/lang/Character", "java/util/Arrays", "java/lang/Long"]
def xnmF (o : Nat) : String := xnmL.getD o ""
def xT0 : List (String × String × String × Bool) := [("TypedDescent", "tape", "[B", true), ("TypedDescent", "taped", "I", false), ("TypedDescent", "text", "LTypedDescent$Text;", true), ("TypedDescent", "kinds", "LTypedDescent$Kinds;", true), ("TypedDescent", "memory", "LTypedDescent$Memory;", true), ("TypedDescent", "programGrammar", "LTypedDescent$ProgramGrammar;", true), ("TypedDescent", "programJudge", "LTypedDescent$ProgramJudge;", true), ("TypedDescent", "programMachine", "LTypedDescent$ProgramMachine;", true), ("TypedDescent", "blockGrammar", "LTypedDescent$BlockGrammar;", true), ("TypedDescent", "blockJudge", "LTypedDescent$BlockJudge;", true), ("TypedDescent", "blockCode", "LTypedDescent$BlockCode;", true), ("TypedDescent", "blockMachine", "LTypedDescent$BlockMachine;", true), ("TypedDescent", "loaded", "I", false), ("TypedDescent", "programKind", "I", false), ("TypedDescent", "ran", "Z", false), ("TypedDescent", "ended", "Z", false)]
def xT1 : List (String × String × String × Bool) := [("TypedDescent$Text", "sorts", "[I", true), ("TypedDescent$Text", "places", "[I", true), ("TypedDescent$Text", "numbers", "[I", true), ("TypedDescent$Text", "names", "[J", true), ("TypedDescent$Text", "programWords", "[J", true), ("TypedDescent$Text", "blockWords", "[J", true), ("TypedDescent$Text", "registerWords", "[J", true), ("TypedDescent$Text", "bytes", "[B", false), ("TypedDescent$Text", "length", "I", false), ("TypedDescent$Text", "ofBlocks", "Z", false), ("TypedDescent$Text", "tokens", "I", false), ("TypedDescent$Text", "at", "I", false), ("TypedDescent$Text", "fault", "I", false), ("TypedDescent$Text", "faultPlace", "I", false), ("TypedDescent$Text", "tokenLimit", "I", false), ("TypedDescent$Text", "openLimit", "I", false), ("TypedDescent$Text", "opened", "I", false), ("TypedDescent$Text", "full", "Z", false)]
def xT2 : List (String × String × String × Bool) := [("TypedDescent$Kinds", "cells", "[I", true), ("TypedDescent$Kinds", "heads", "[I", true), ("TypedDescent$Kinds", "stack", "[I", true), ("TypedDescent$Kinds", "names", "[J", true), ("TypedDescent$Kinds", "letters", "[B", true), ("TypedDescent$Kinds", "top", "I", false), ("TypedDescent$Kinds", "stacked", "I", false), ("TypedDescent$Kinds", "named", "I", false), ("TypedDescent$Kinds", "frees", "I", false), ("TypedDescent$Kinds", "lettered", "I", false), ("TypedDescent$Kinds", "number", "I", false)]
def xT3 : List (String × String × String × Bool) := [("TypedDescent$Memory", "words", "[I", true), ("TypedDescent$Memory", "made", "I", false), ("TypedDescent$Memory", "room", "I", false)]
def xT4 : List (String × String × String × Bool) := [("TypedDescent$ProgramCode", "operations", "[I", true), ("TypedDescent$ProgramCode", "targets", "[I", true), ("TypedDescent$ProgramCode", "lefts", "[I", true), ("TypedDescent$ProgramCode", "rights", "[I", true), ("TypedDescent$ProgramCode", "waits", "[I", true), ("TypedDescent$ProgramCode", "live", "[J", true), ("TypedDescent$ProgramCode", "numbers", "[I", true), ("TypedDescent$ProgramCode", "pushed", "[I", true), ("TypedDescent$ProgramCode", "size", "I", false), ("TypedDescent$ProgramCode", "numbered", "I", false), ("TypedDescent$ProgramCode", "pushes", "I", false), ("TypedDescent$ProgramCode", "bodies", "I", false), ("TypedDescent$ProgramCode", "top", "I", false), ("TypedDescent$ProgramCode", "operand", "I", false)]
def xT5 : List (String × String × String × Bool) := [("TypedDescent$ProgramGrammar", "text", "LTypedDescent$Text;", true)]
def xT6 : List (String × String × String × Bool) := [("TypedDescent$ProgramJudge", "text", "LTypedDescent$Text;", true), ("TypedDescent$ProgramJudge", "kinds", "LTypedDescent$Kinds;", true), ("TypedDescent$ProgramJudge", "out", "LTypedDescent$ProgramCode;", true), ("TypedDescent$ProgramJudge", "names", "[J", true), ("TypedDescent$ProgramJudge", "nameKinds", "[I", true), ("TypedDescent$ProgramJudge", "named", "I", false)]
def xT7 : List (String × String × String × Bool) := [("TypedDescent$ProgramMachine", "in", "LTypedDescent$ProgramCode;", true), ("TypedDescent$ProgramMachine", "memory", "LTypedDescent$Memory;", true), ("TypedDescent$ProgramMachine", "slots", "[I", true), ("TypedDescent$ProgramMachine", "next", "I", false), ("TypedDescent$ProgramMachine", "back", "I", false), ("TypedDescent$ProgramMachine", "row", "I", false), ("TypedDescent$ProgramMachine", "fuel", "I", false), ("TypedDescent$ProgramMachine", "calls", "I", false), ("TypedDescent$ProgramMachine", "notLast", "I", false), ("TypedDescent$ProgramMachine", "met", "I", false), ("TypedDescent$ProgramMachine", "result", "I", false), ("TypedDescent$ProgramMachine", "state", "I", false)]
def xT8 : List (String × String × String × Bool) := [("TypedDescent$BlockGrammar", "text", "LTypedDescent$Text;", true), ("TypedDescent$BlockGrammar", "starts", "[I", true), ("TypedDescent$BlockGrammar", "size", "I", false)]
def xT9 : List (String × String × String × Bool) := [("TypedDescent$BlockCode", "sorts", "[I", true), ("TypedDescent$BlockCode", "targets", "[I", true), ("TypedDescent$BlockCode", "sources", "[I", true), ("TypedDescent$BlockCode", "modes", "[I", true), ("TypedDescent$BlockCode", "operands", "[I", true), ("TypedDescent$BlockCode", "firsts", "[I", true), ("TypedDescent$BlockCode", "addresses", "[I", true), ("TypedDescent$BlockCode", "bytes", "[B", true), ("TypedDescent$BlockCode", "instructions", "I", false), ("TypedDescent$BlockCode", "blocks", "I", false), ("TypedDescent$BlockCode", "size", "I", false), ("TypedDescent$BlockCode", "end", "I", false)]
def xT10 : List (String × String × String × Bool) := [("TypedDescent$BlockJudge", "text", "LTypedDescent$Text;", true), ("TypedDescent$BlockJudge", "kinds", "LTypedDescent$Kinds;", true), ("TypedDescent$BlockJudge", "grammar", "LTypedDescent$BlockGrammar;", true), ("TypedDescent$BlockJudge", "out", "LTypedDescent$BlockCode;", true), ("TypedDescent$BlockJudge", "headers", "[I", true), ("TypedDescent$BlockJudge", "registers", "[I", true), ("TypedDescent$BlockJudge", "mode", "I", false), ("TypedDescent$BlockJudge", "operand", "I", false)]
def xT11 : List (String × String × String × Bool) := [("TypedDescent$BlockMachine", "in", "LTypedDescent$BlockCode;", true), ("TypedDescent$BlockMachine", "memory", "LTypedDescent$Memory;", true), ("TypedDescent$BlockMachine", "registers", "[I", true), ("TypedDescent$BlockMachine", "next", "I", false), ("TypedDescent$BlockMachine", "steps", "I", false), ("TypedDescent$BlockMachine", "leaps", "I", false), ("TypedDescent$BlockMachine", "state", "I", false)]
def xT12 : List (String × String × String × Bool) := [("TypedDescentModel", "tape", "[I", true), ("TypedDescentModel", "taped", "I", false), ("TypedDescentModel", "text", "[I", true), ("TypedDescentModel", "size", "I", false), ("TypedDescentModel", "place", "I", false), ("TypedDescentModel", "loaded", "I", false), ("TypedDescentModel", "P_WORDS", "[C", true), ("TypedDescentModel", "B_WORDS", "[C", true), ("TypedDescentModel", "SIGNS", "[C", true), ("TypedDescentModel", "isBlocks", "Z", false), ("TypedDescentModel", "kind", "I", false), ("TypedDescentModel", "at", "I", false), ("TypedDescentModel", "end", "I", false), ("TypedDescentModel", "value", "I", false), ("TypedDescentModel", "number", "I", false), ("TypedDescentModel", "nameA", "J", false), ("TypedDescentModel", "nameB", "I", false), ("TypedDescentModel", "tokens", "I", false), ("TypedDescentModel", "most", "I", false), ("TypedDescentModel", "fault", "I", false), ("TypedDescentModel", "faultAt", "I", false), ("TypedDescentModel", "late", "I", false), ("TypedDescentModel", "lateAt", "I", false), ("TypedDescentModel", "second", "Z", false), ("TypedDescentModel", "nested", "I", false), ("TypedDescentModel", "notes", "I", false), ("TypedDescentModel", "readA", "J", false), ("TypedDescentModel", "readB", "I", false), ("TypedDescentModel", "readAt", "I", false), ("TypedDescentModel", "part", "[I", true), ("TypedDescentModel", "parts", "I", false), ("TypedDescentModel", "kinds", "I", false), ("TypedDescentModel", "kindAt", "[I", true), ("TypedDescentModel", "kindSize", "[I", true), ("TypedDescentModel", "intKind", "I", false), ("TypedDescentModel", "ends", "[I", true), ("TypedDescentModel", "typesAround", "I", false), ("TypedDescentModel", "typeA", "[J", true), ("TypedDescentModel", "typeB", "[I", true), ("TypedDescentModel", "typeIs", "[I", true), ("TypedDescentModel", "typs", "I", false), ("TypedDescentModel", "allsAround", "I", false), ("TypedDescentModel", "typeFaulty", "Z", false), ("TypedDescentModel", "code", "I", false), ("TypedDescentModel", "op", "[I", true), ("TypedDescentModel", "arg", "[I", true), ("TypedDescentModel", "extra", "[I", true), ("TypedDescentModel", "bodyOf", "[I", true), ("TypedDescentModel", "free", "[J", true), ("TypedDescentModel", "bodies", "I", false), ("TypedDescentModel", "bodySort", "[I", true), ("TypedDescentModel", "bodyAt", "[I", true), ("TypedDescentModel", "bodySlot", "[I", true), ("TypedDescentModel", "bodyTakes", "[J", true), ("TypedDescentModel", "bodyAgain", "[Z", true), ("TypedDescentModel", "bodyNow", "I", false), ("TypedDescentModel", "around", "I", false), ("TypedDescentModel", "aroundA", "[J", true), ("TypedDescentModel", "aroundB", "[I", true), ("TypedDescentModel", "aroundKind", "[I", true), ("TypedDescentModel", "partKind", "[I", true), ("TypedDescentModel", "partKinds", "I", false), ("TypedDescentModel", "waits", "[I", true), ("TypedDescentModel", "programKind", "I", false), ("TypedDescentModel", "words", "I", false), ("TypedDescentModel", "wordsMost", "I", false), ("TypedDescentModel", "done", "I", false), ("TypedDescentModel", "met", "I", false), ("TypedDescentModel", "going", "I", false), ("TypedDescentModel", "result", "I", false), ("TypedDescentModel", "cell", "[I", true), ("TypedDescentModel", "cells", "I", false), ("TypedDescentModel", "slots", "[I", true), ("TypedDescentModel", "backTo", "[I", true), ("TypedDescentModel", "pile", "[I", true), ("TypedDescentModel", "depth", "I", false), ("TypedDescentModel", "high", "I", false), ("TypedDescentModel", "entered", "I", false), ("TypedDescentModel", "shown", "[I", true), ("TypedDescentModel", "shownSize", "I", false), ("TypedDescentModel", "toShow", "[I", true), ("TypedDescentModel", "toShowAlls", "[I", true), ("TypedDescentModel", "toShowLeft", "[Z", true), ("TypedDescentModel", "showing", "I", false), ("TypedDescentModel", "partPlace", "[I", true), ("TypedDescentModel", "nodes", "I", false), ("TypedDescentModel", "nodeSort", "[I", true), ("TypedDescentModel", "nodeName", "[I", true), ("TypedDescentModel", "nodeBinds", "[I", true), ("TypedDescentModel", "nodeFrom", "[I", true), ("TypedDescentModel", "nodeMany", "[I", true), ("TypedDescentModel", "nodeBits", "[I", true), ("TypedDescentModel", "children", "I", false), ("TypedDescentModel", "child", "[I", true), ("TypedDescentModel", "binders", "I", false), ("TypedDescentModel", "intNode", "I", false), ("TypedDescentModel", "namesAround", "I", false), ("TypedDescentModel", "aroundNameA", "[J", true), ("TypedDescentModel", "aroundNameB", "[I", true), ("TypedDescentModel", "aroundBinder", "[I", true), ("TypedDescentModel", "waitKind", "[I", true), ("TypedDescentModel", "waitRegister", "[I", true), ("TypedDescentModel", "waitKinds", "I", false), ("TypedDescentModel", "varsAt", "I", false), ("TypedDescentModel", "varsMany", "I", false), ("TypedDescentModel", "fileMany", "I", false), ("TypedDescentModel", "fileFaulty", "Z", false), ("TypedDescentModel", "varsFaulty", "Z", false), ("TypedDescentModel", "replaced", "[I", true), ("TypedDescentModel", "replacedIn", "[I", true), ("TypedDescentModel", "replacing", "I", false), ("TypedDescentModel", "toDo", "[I", true), ("TypedDescentModel", "leftDo", "[I", true), ("TypedDescentModel", "rightDo", "[I", true), ("TypedDescentModel", "boundDo", "[I", true), ("TypedDescentModel", "boundMany", "I", false), ("TypedDescentModel", "leftBound", "[I", true), ("TypedDescentModel", "rightBound", "[I", true), ("TypedDescentModel", "blocks", "I", false), ("TypedDescentModel", "labelA", "[J", true), ("TypedDescentModel", "labelB", "[I", true), ("TypedDescentModel", "labelKind", "[I", true), ("TypedDescentModel", "labelIns", "[I", true), ("TypedDescentModel", "labelAt", "[I", true), ("TypedDescentModel", "labels", "I", false), ("TypedDescentModel", "inses", "I", false), ("TypedDescentModel", "insOp", "[I", true), ("TypedDescentModel", "insR", "[I", true), ("TypedDescentModel", "insS", "[I", true), ("TypedDescentModel", "insN", "[I", true), ("TypedDescentModel", "insSort", "[I", true), ("TypedDescentModel", "insV", "[I", true), ("TypedDescentModel", "insAt", "[I", true), ("TypedDescentModel", "registerKind", "[I", true), ("TypedDescentModel", "judging", "Z", false), ("TypedDescentModel", "valueSort", "I", false), ("TypedDescentModel", "valueIs", "I", false), ("TypedDescentModel", "registerAt", "I", false), ("TypedDescentModel", "bytes", "[I", true), ("TypedDescentModel", "written", "I", false), ("TypedDescentModel", "textEnd", "I", false), ("TypedDescentModel", "registers", "[I", true), ("TypedDescentModel", "heap", "[I", true), ("TypedDescentModel", "ranBlocks", "Z", false)]
def xcl : List vw_C := [("TypedDescent", fun k => xT0.getD k ("", "", "", false), 16), ("TypedDescent$Text", fun k => xT1.getD k ("", "", "", false), 18), ("TypedDescent$Kinds", fun k => xT2.getD k ("", "", "", false), 11), ("TypedDescent$Memory", fun k => xT3.getD k ("", "", "", false), 3), ("TypedDescent$ProgramCode", fun k => xT4.getD k ("", "", "", false), 14), ("TypedDescent$ProgramGrammar", fun k => xT5.getD k ("", "", "", false), 1), ("TypedDescent$ProgramJudge", fun k => xT6.getD k ("", "", "", false), 6), ("TypedDescent$ProgramMachine", fun k => xT7.getD k ("", "", "", false), 12), ("TypedDescent$BlockGrammar", fun k => xT8.getD k ("", "", "", false), 3), ("TypedDescent$BlockCode", fun k => xT9.getD k ("", "", "", false), 12), ("TypedDescent$BlockJudge", fun k => xT10.getD k ("", "", "", false), 8), ("TypedDescent$BlockMachine", fun k => xT11.getD k ("", "", "", false), 7), ("TypedDescentModel", fun k => xT12.getD k ("", "", "", false), 144)]
def xlk {α : Type} : List (Nat × α) → Nat → Option α
  | [], _ => none
  | q :: r, k => cond (Nat.beq q.1 k) (some q.2) (xlk r k)
theorem xlk_mem {α : Type} {l : List (Nat × α)} {k : Nat} {v : α} (h : xlk l k = some v) : (k, v) ∈ l := by
  induction l with
  | nil => cases h
  | cons q r ih =>
    unfold xlk at h
    cases hq : Nat.beq q.1 k with
    | true =>
      rw [hq] at h
      cases h
      have := Nat.eq_of_beq_eq_true hq
      subst this
      exact List.mem_cons_self
    | false =>
      rw [hq] at h
      exact List.mem_cons_of_mem _ (ih h)
def xlo {α : Type} (L : List (List (Nat × α))) (o idx : Nat) : Option α := match L[o]? with
  | none => none
  | some l => xlk l idx
theorem xlo_all {α : Type} {L : List (List (Nat × α))} {o idx : Nat} {v : α} (h : xlo L o idx = some v) {Q : Nat → Nat × α → Bool} (hq : (L.zipIdx.all fun q => q.1.all (Q q.2)) = true) : Q o (idx, v) = true := by
  unfold xlo at h
  split at h
  · cases h
  · rename_i l hl
    have h1 := List.all_eq_true.mp hq (l, o) (List.mem_iff_getElem?.mpr ⟨o, by rw [List.getElem?_zipIdx, hl]; simp⟩)
    exact List.all_eq_true.mp h1 _ (xlk_mem h)
def xsg (i : Nat) : List Cond := match i with
  | 0 => tables_1_1
  | 1 => tables_1_2
  | 2 => tables_1_3
  | 3 => tables_1_4
  | 4 => tables_1_5
  | 5 => tables_1_6
  | 6 => tables_1_7
  | 7 => tables_1_8
  | 8 => tables_1_9
  | 9 => tables_1_10
  | 10 => tables_1_11
  | 11 => tables_1_12
  | 12 => k2_sels lw_privs_1
  | 13 => k2_sels lw_privs_2
  | 14 => k2_sels lw_privs_3
  | 15 => k2_sels lw_privs_4
  | 16 => k2_sels lw_privs_5
  | 17 => k2_sels lw_privs_6
  | 18 => k2_sels lw_privs_7
  | 19 => k2_sels lw_privs_8
  | 20 => k2_sels lw_privs_9
  | 21 => k2_sels lw_privs_10
  | 22 => k2_sels lw_privs_11
  | 23 => k2_sels lw_privs_12
  | 24 => k2_sels lw_privs_13
  | 25 => k2_sels lw_privs_14
  | 26 => k2_sels lw_privs_15
  | 27 => k2_sels lw_privs_16
  | 28 => k2_sels lw_privs_17
  | 29 => k2_sels lw_privs_18
  | _ => []
theorem xsg_mem (i : Nat) (w : Cond) (h : w ∈ xsg i) : w ∈ lw_tbl := by
  unfold xsg at h
  split at h
  · exact List.mem_append_right _ (List.mem_append_left _ h)
  · exact List.mem_append_right _ (List.mem_append_right _ (List.mem_append_left _ h))
  · exact List.mem_append_right _ (List.mem_append_right _ (List.mem_append_right _ (List.mem_append_left _ h)))
  · exact List.mem_append_right _ (List.mem_append_right _ (List.mem_append_right _ (List.mem_append_right _ (List.mem_append_left _ h))))
  · exact List.mem_append_right _ (List.mem_append_right _ (List.mem_append_right _ (List.mem_append_right _ (List.mem_append_right _ (List.mem_append_left _ h)))))
  · exact List.mem_append_right _ (List.mem_append_right _ (List.mem_append_right _ (List.mem_append_right _ (List.mem_append_right _ (List.mem_append_right _ (List.mem_append_left _ h))))))
  · exact List.mem_append_right _ (List.mem_append_right _ (List.mem_append_right _ (List.mem_append_right _ (List.mem_append_right _ (List.mem_append_right _ (List.mem_append_right _ (List.mem_append_left _ h)))))))
  · exact List.mem_append_right _ (List.mem_append_right _ (List.mem_append_right _ (List.mem_append_right _ (List.mem_append_right _ (List.mem_append_right _ (List.mem_append_right _ (List.mem_append_right _ (List.mem_append_left _ h))))))))
  · exact List.mem_append_right _ (List.mem_append_right _ (List.mem_append_right _ (List.mem_append_right _ (List.mem_append_right _ (List.mem_append_right _ (List.mem_append_right _ (List.mem_append_right _ (List.mem_append_right _ (List.mem_append_left _ h)))))))))
  · exact List.mem_append_right _ (List.mem_append_right _ (List.mem_append_right _ (List.mem_append_right _ (List.mem_append_right _ (List.mem_append_right _ (List.mem_append_right _ (List.mem_append_right _ (List.mem_append_right _ (List.mem_append_right _ (List.mem_append_left _ h))))))))))
  · exact List.mem_append_right _ (List.mem_append_right _ (List.mem_append_right _ (List.mem_append_right _ (List.mem_append_right _ (List.mem_append_right _ (List.mem_append_right _ (List.mem_append_right _ (List.mem_append_right _ (List.mem_append_right _ (List.mem_append_right _ (List.mem_append_left _ h)))))))))))
  · exact List.mem_append_right _ (List.mem_append_right _ (List.mem_append_right _ (List.mem_append_right _ (List.mem_append_right _ (List.mem_append_right _ (List.mem_append_right _ (List.mem_append_right _ (List.mem_append_right _ (List.mem_append_right _ (List.mem_append_right _ (List.mem_append_right _ (h))))))))))))
  · refine List.mem_append_left _ ?_
    obtain ⟨q, hq, rfl⟩ := List.mem_map.mp h
    exact List.mem_map.mpr ⟨q, List.mem_append_left _ hq, rfl⟩
  · refine List.mem_append_left _ ?_
    obtain ⟨q, hq, rfl⟩ := List.mem_map.mp h
    exact List.mem_map.mpr ⟨q, List.mem_append_right _ (List.mem_append_left _ hq), rfl⟩
  · refine List.mem_append_left _ ?_
    obtain ⟨q, hq, rfl⟩ := List.mem_map.mp h
    exact List.mem_map.mpr ⟨q, List.mem_append_right _ (List.mem_append_right _ (List.mem_append_left _ hq)), rfl⟩
  · refine List.mem_append_left _ ?_
    obtain ⟨q, hq, rfl⟩ := List.mem_map.mp h
    exact List.mem_map.mpr ⟨q, List.mem_append_right _ (List.mem_append_right _ (List.mem_append_right _ (List.mem_append_left _ hq))), rfl⟩
  · refine List.mem_append_left _ ?_
    obtain ⟨q, hq, rfl⟩ := List.mem_map.mp h
    exact List.mem_map.mpr ⟨q, List.mem_append_right _ (List.mem_append_right _ (List.mem_append_right _ (List.mem_append_right _ (List.mem_append_left _ hq)))), rfl⟩
  · refine List.mem_append_left _ ?_
    obtain ⟨q, hq, rfl⟩ := List.mem_map.mp h
    exact List.mem_map.mpr ⟨q, List.mem_append_right _ (List.mem_append_right _ (List.mem_append_right _ (List.mem_append_right _ (List.mem_append_right _ (List.mem_append_left _ hq))))), rfl⟩
  · refine List.mem_append_left _ ?_
    obtain ⟨q, hq, rfl⟩ := List.mem_map.mp h
    exact List.mem_map.mpr ⟨q, List.mem_append_right _ (List.mem_append_right _ (List.mem_append_right _ (List.mem_append_right _ (List.mem_append_right _ (List.mem_append_right _ (List.mem_append_left _ hq)))))), rfl⟩
  · refine List.mem_append_left _ ?_
    obtain ⟨q, hq, rfl⟩ := List.mem_map.mp h
    exact List.mem_map.mpr ⟨q, List.mem_append_right _ (List.mem_append_right _ (List.mem_append_right _ (List.mem_append_right _ (List.mem_append_right _ (List.mem_append_right _ (List.mem_append_right _ (List.mem_append_left _ hq))))))), rfl⟩
  · refine List.mem_append_left _ ?_
    obtain ⟨q, hq, rfl⟩ := List.mem_map.mp h
    exact List.mem_map.mpr ⟨q, List.mem_append_right _ (List.mem_append_right _ (List.mem_append_right _ (List.mem_append_right _ (List.mem_append_right _ (List.mem_append_right _ (List.mem_append_right _ (List.mem_append_right _ (List.mem_append_left _ hq)))))))), rfl⟩
  · refine List.mem_append_left _ ?_
    obtain ⟨q, hq, rfl⟩ := List.mem_map.mp h
    exact List.mem_map.mpr ⟨q, List.mem_append_right _ (List.mem_append_right _ (List.mem_append_right _ (List.mem_append_right _ (List.mem_append_right _ (List.mem_append_right _ (List.mem_append_right _ (List.mem_append_right _ (List.mem_append_right _ (List.mem_append_left _ hq))))))))), rfl⟩
  · refine List.mem_append_left _ ?_
    obtain ⟨q, hq, rfl⟩ := List.mem_map.mp h
    exact List.mem_map.mpr ⟨q, List.mem_append_right _ (List.mem_append_right _ (List.mem_append_right _ (List.mem_append_right _ (List.mem_append_right _ (List.mem_append_right _ (List.mem_append_right _ (List.mem_append_right _ (List.mem_append_right _ (List.mem_append_right _ (List.mem_append_left _ hq)))))))))), rfl⟩
  · refine List.mem_append_left _ ?_
    obtain ⟨q, hq, rfl⟩ := List.mem_map.mp h
    exact List.mem_map.mpr ⟨q, List.mem_append_right _ (List.mem_append_right _ (List.mem_append_right _ (List.mem_append_right _ (List.mem_append_right _ (List.mem_append_right _ (List.mem_append_right _ (List.mem_append_right _ (List.mem_append_right _ (List.mem_append_right _ (List.mem_append_right _ (List.mem_append_left _ hq))))))))))), rfl⟩
  · refine List.mem_append_left _ ?_
    obtain ⟨q, hq, rfl⟩ := List.mem_map.mp h
    exact List.mem_map.mpr ⟨q, List.mem_append_right _ (List.mem_append_right _ (List.mem_append_right _ (List.mem_append_right _ (List.mem_append_right _ (List.mem_append_right _ (List.mem_append_right _ (List.mem_append_right _ (List.mem_append_right _ (List.mem_append_right _ (List.mem_append_right _ (List.mem_append_right _ (List.mem_append_left _ hq)))))))))))), rfl⟩
  · refine List.mem_append_left _ ?_
    obtain ⟨q, hq, rfl⟩ := List.mem_map.mp h
    exact List.mem_map.mpr ⟨q, List.mem_append_right _ (List.mem_append_right _ (List.mem_append_right _ (List.mem_append_right _ (List.mem_append_right _ (List.mem_append_right _ (List.mem_append_right _ (List.mem_append_right _ (List.mem_append_right _ (List.mem_append_right _ (List.mem_append_right _ (List.mem_append_right _ (List.mem_append_right _ (List.mem_append_left _ hq))))))))))))), rfl⟩
  · refine List.mem_append_left _ ?_
    obtain ⟨q, hq, rfl⟩ := List.mem_map.mp h
    exact List.mem_map.mpr ⟨q, List.mem_append_right _ (List.mem_append_right _ (List.mem_append_right _ (List.mem_append_right _ (List.mem_append_right _ (List.mem_append_right _ (List.mem_append_right _ (List.mem_append_right _ (List.mem_append_right _ (List.mem_append_right _ (List.mem_append_right _ (List.mem_append_right _ (List.mem_append_right _ (List.mem_append_right _ (List.mem_append_left _ hq)))))))))))))), rfl⟩
  · refine List.mem_append_left _ ?_
    obtain ⟨q, hq, rfl⟩ := List.mem_map.mp h
    exact List.mem_map.mpr ⟨q, List.mem_append_right _ (List.mem_append_right _ (List.mem_append_right _ (List.mem_append_right _ (List.mem_append_right _ (List.mem_append_right _ (List.mem_append_right _ (List.mem_append_right _ (List.mem_append_right _ (List.mem_append_right _ (List.mem_append_right _ (List.mem_append_right _ (List.mem_append_right _ (List.mem_append_right _ (List.mem_append_right _ (List.mem_append_left _ hq))))))))))))))), rfl⟩
  · refine List.mem_append_left _ ?_
    obtain ⟨q, hq, rfl⟩ := List.mem_map.mp h
    exact List.mem_map.mpr ⟨q, List.mem_append_right _ (List.mem_append_right _ (List.mem_append_right _ (List.mem_append_right _ (List.mem_append_right _ (List.mem_append_right _ (List.mem_append_right _ (List.mem_append_right _ (List.mem_append_right _ (List.mem_append_right _ (List.mem_append_right _ (List.mem_append_right _ (List.mem_append_right _ (List.mem_append_right _ (List.mem_append_right _ (List.mem_append_right _ (List.mem_append_left _ hq)))))))))))))))), rfl⟩
  · refine List.mem_append_left _ ?_
    obtain ⟨q, hq, rfl⟩ := List.mem_map.mp h
    exact List.mem_map.mpr ⟨q, List.mem_append_right _ (List.mem_append_right _ (List.mem_append_right _ (List.mem_append_right _ (List.mem_append_right _ (List.mem_append_right _ (List.mem_append_right _ (List.mem_append_right _ (List.mem_append_right _ (List.mem_append_right _ (List.mem_append_right _ (List.mem_append_right _ (List.mem_append_right _ (List.mem_append_right _ (List.mem_append_right _ (List.mem_append_right _ (List.mem_append_right _ (hq))))))))))))))))), rfl⟩
  · cases h
def xg (i : Nat) : Option Cond := (xsg (i / 1000))[i % 1000]?
/-- the words that stay -/
def xTs : List Cond := lw_tbl.filter goodWord
theorem xtm {i : Nat} {w : Cond} (h : xg i = some w) (hg : goodWord w = true) : w ∈ xTs := List.mem_filter.mpr ⟨xsg_mem _ _ (List.mem_of_getElem? h), hg⟩
def xis (i : Nat) (w : Cond) : Bool := match xg i with
  | some v => decide (v = w) && goodWord w
  | none => false
theorem xis_mem {i : Nat} {w : Cond} (h : xis i w = true) : w ∈ xTs := by
  unfold xis at h
  split at h
  · rename_i v hv
    rw [Bool.and_eq_true] at h
    have e := of_decide_eq_true h.1
    subst e
    exact xtm hv h.2
  · cases h
set_option maxRecDepth 100000 in
def xMi : List (Nat × Nat × Nat × Nat × Nat) := [(27, 0, 0, 48, 313278), (35, 1, 0, 7, 4860), (40, 1, 2, 1, 16), (44, 13, 0, 0, 0), (48, 13, 0, 0, 0), (54, 13, 1, 0, 0), (58, 13, 0, 0, 0), (61, 14, 2, 0, 0), (64, 13, 2, 0, 0), (69, 15, 3, 0, 0), (72, 16, 2, 0, 0), (75, 16, 2, 0, 0), (78, 16, 1, 0, 0), (82, 16, 2, 0, 0), (92, 1, 1, 0, 0), (157, 2, 0, 5, 253490), (198, 3, 0, 1, 20000), (214, 4, 0, 8, 13529), (1023, 5, 1, 0, 0), (1033, 6, 3, 2, 80), (1058, 7, 2, 1, 840), (1101, 8, 1, 1, 40), (1117, 9, 0, 8, 14272), (1160, 10, 4, 2, 56), (1191, 11, 2, 1, 16), (2027, 0, 5, 0, 0), (2031, 0, 1, 0, 0), (2035, 0, 1, 0, 0), (2039, 0, 2, 0, 0), (2043, 1, 3, 0, 0), (2053, 1, 1, 0, 0), (2057, 1, 1, 0, 0), (2061, 1, 1, 0, 0), (2064, 1, 1, 0, 0), (2068, 1, 1, 0, 0), (2072, 1, 1, 0, 0), (2076, 1, 4, 0, 0), (2080, 1, 2, 0, 0), (2083, 1, 2, 0, 0), (2086, 1, 1, 0, 0), (2090, 1, 1, 0, 0), (2100, 1, 1, 0, 0), (2105, 13, 1, 0, 0), (2109, 13, 2, 0, 0), (2113, 14, 4, 0, 0), (2116, 14, 1, 0, 0), (2121, 14, 4, 0, 0), (2124, 16, 4, 0, 0), (2130, 16, 4, 0, 0), (2133, 16, 3, 0, 0), (2136, 13, 3, 0, 0), (2139, 15, 4, 0, 0), (2142, 16, 4, 0, 0), (2145, 16, 4, 0, 0), (2148, 18, 1, 0, 0), (2151, 18, 1, 0, 0), (2155, 18, 1, 0, 0), (2160, 5, 0, 0, 0), (2164, 1, 2, 0, 0), (2168, 5, 0, 0, 0), (2172, 1, 0, 0, 0), (2176, 5, 0, 0, 0), (2180, 1, 0, 0, 0), (2184, 1, 0, 0, 0), (2188, 1, 2, 0, 0), (2192, 1, 1, 0, 0), (2197, 1, 0, 0, 0), (2201, 5, 0, 0, 0), (2205, 5, 0, 0, 0), (2210, 1, 0, 0, 0), (2214, 5, 1, 0, 0), (2218, 1, 1, 0, 0), (2222, 1, 1, 0, 0), (2226, 1, 1, 0, 0), (2233, 1, 1, 0, 0), (2238, 5, 0, 0, 0), (3002, 1, 1, 0, 0), (3006, 5, 0, 0, 0), (3010, 5, 0, 0, 0), (3014, 5, 0, 0, 0), (3018, 5, 0, 0, 0), (3022, 5, 0, 0, 0), (3026, 5, 0, 0, 0), (3030, 1, 0, 0, 0), (3034, 1, 1, 0, 0), (3038, 5, 0, 0, 0), (3041, 5, 1, 0, 0), (3045, 1, 0, 0, 0), (3049, 1, 0, 0, 0), (3053, 6, 0, 0, 0), (3057, 1, 1, 0, 0), (3061, 2, 0, 0, 0), (3064, 19, 2, 0, 0), (3068, 2, 3, 0, 0), (3073, 2, 2, 0, 0), (3077, 2, 3, 0, 0), (3082, 2, 3, 0, 0), (3088, 2, 2, 0, 0), (3092, 2, 4, 0, 0), (3096, 2, 2, 0, 0), (3102, 2, 0, 0, 0), (3106, 4, 0, 0, 0), (3110, 6, 0, 0, 0), (3115, 6, 0, 0, 0), (3120, 1, 1, 0, 0), (3125, 6, 0, 0, 0), (3129, 6, 0, 0, 0), (3133, 2, 0, 0, 0), (3137, 1, 1, 0, 0), (3141, 2, 1, 0, 0), (3146, 2, 1, 0, 0), (3150, 2, 1, 0, 0), (3154, 2, 2, 0, 0), (3158, 2, 2, 0, 0), (3162, 6, 1, 0, 0), (3167, 4, 0, 0, 0), (3170, 4, 1, 0, 0), (3175, 2, 2, 0, 0), (3179, 4, 0, 0, 0), (3183, 4, 2, 0, 0), (3187, 4, 4, 0, 0), (3191, 6, 2, 0, 0), (3195, 6, 1, 0, 0), (3200, 4, 2, 0, 0), (3204, 4, 1, 0, 0), (3208, 4, 1, 0, 0), (3212, 6, 2, 0, 0), (3216, 2, 1, 0, 0), (3220, 6, 0, 0, 0), (3224, 6, 0, 0, 0), (3228, 2, 1, 0, 0), (3233, 2, 2, 0, 0), (3237, 2, 4, 0, 0), (4001, 2, 1, 0, 0), (4005, 2, 1, 0, 0), (4009, 2, 1, 0, 0), (4013, 2, 2, 0, 0), (4017, 2, 2, 0, 0), (4022, 6, 0, 0, 0), (4026, 4, 2, 0, 0), (4030, 4, 1, 0, 0), (4034, 6, 1, 0, 0), (4038, 6, 0, 0, 0), (4042, 6, 0, 0, 0), (4047, 4, 1, 0, 0), (4051, 6, 0, 0, 0), (4055, 4, 1, 0, 0), (4059, 6, 0, 0, 0), (4063, 4, 2, 0, 0), (4068, 6, 0, 0, 0), (4074, 4, 2, 0, 0), (4079, 6, 0, 0, 0), (4083, 4, 1, 0, 0), (4087, 4, 0, 0, 0), (4092, 6, 3, 0, 0), (4096, 4, 1, 0, 0), (4100, 4, 3, 0, 0), (4104, 2, 2, 0, 0), (4108, 2, 4, 0, 0), (4113, 6, 3, 0, 0), (4117, 4, 0, 0, 0), (4121, 6, 1, 0, 0), (4125, 4, 3, 0, 0), (4129, 4, 0, 0, 0), (4133, 4, 1, 0, 0), (4136, 4, 1, 0, 0), (4141, 4, 1, 0, 0), (4145, 4, 1, 0, 0), (4149, 2, 1, 0, 0), (4153, 2, 3, 0, 0), (4158, 2, 1, 0, 0), (4164, 2, 1, 0, 0), (4168, 2, 1, 0, 0), (4178, 2, 3, 0, 0), (4188, 2, 3, 0, 0), (4195, 1, 0, 0, 0), (4199, 0, 1, 0, 0), (4203, 8, 0, 0, 0), (4209, 8, 0, 0, 0), (4215, 8, 0, 0, 0), (4223, 8, 0, 0, 0), (4228, 8, 0, 0, 0), (4232, 8, 0, 0, 0), (4236, 8, 1, 0, 0), (5005, 8, 0, 0, 0), (5009, 8, 0, 0, 0), (5013, 8, 0, 0, 0), (5017, 8, 0, 0, 0), (5021, 8, 0, 0, 0), (5027, 10, 0, 0, 0), (5032, 9, 0, 0, 0), (5036, 10, 0, 0, 0), (5040, 8, 0, 0, 0), (5044, 8, 1, 0, 0), (5050, 10, 0, 0, 0), (5054, 10, 0, 0, 0), (5062, 2, 2, 0, 0), (5069, 10, 0, 0, 0), (5074, 10, 1, 0, 0), (5079, 10, 0, 0, 0), (5087, 2, 1, 0, 0), (5091, 1, 0, 0, 0), (5096, 10, 1, 0, 0), (5100, 10, 1, 0, 0), (5104, 10, 0, 0, 0), (5108, 10, 1, 0, 0), (5113, 10, 2, 0, 0), (5119, 2, 1, 0, 0), (5127, 10, 2, 0, 0), (5131, 9, 0, 0, 0), (5135, 10, 0, 0, 0), (5139, 10, 0, 0, 0), (5143, 10, 0, 0, 0), (5147, 10, 0, 0, 0), (5151, 10, 2, 0, 0), (5155, 10, 0, 0, 0), (5159, 10, 1, 0, 0), (5163, 10, 0, 0, 0), (5167, 10, 0, 0, 0), (5172, 10, 1, 0, 0), (5176, 9, 5, 0, 0), (5180, 10, 1, 0, 0), (5184, 10, 2, 0, 0), (5188, 10, 1, 0, 0), (5192, 10, 0, 0, 0), (5196, 10, 2, 0, 0), (5200, 10, 0, 0, 0), (5204, 2, 2, 0, 0), (5208, 10, 0, 0, 0), (5212, 10, 0, 0, 0), (5216, 10, 2, 0, 0), (5220, 10, 1, 0, 0), (5224, 2, 2, 0, 0), (5228, 10, 0, 0, 0), (5232, 2, 1, 0, 0), (5237, 10, 0, 0, 0), (6001, 9, 0, 0, 0), (6005, 9, 0, 0, 0), (6009, 9, 1, 0, 0), (6013, 9, 1, 0, 0), (6017, 9, 1, 0, 0), (6021, 9, 1, 0, 0), (6025, 9, 1, 0, 0), (6029, 9, 1, 0, 0), (6033, 9, 1, 0, 0), (6037, 9, 1, 0, 0), (6041, 9, 1, 0, 0), (6045, 9, 1, 0, 0), (6049, 9, 1, 0, 0), (6053, 9, 1, 0, 0), (6057, 0, 0, 0, 0), (6061, 1, 0, 0, 0), (6065, 0, 1, 0, 0), (6069, 2, 1, 0, 0), (6073, 0, 1, 0, 0), (6077, 9, 1, 0, 0), (6081, 0, 1, 0, 0), (6086, 0, 2, 0, 0), (6090, 0, 0, 0, 0), (6095, 3, 1, 0, 0), (6101, 7, 1, 0, 0), (6105, 4, 1, 0, 0), (6110, 7, 1, 0, 0), (6114, 4, 1, 0, 0), (6118, 4, 1, 0, 0), (6122, 4, 1, 0, 0), (6126, 7, 1, 0, 0), (6130, 4, 1, 0, 0), (6134, 3, 1, 0, 0), (6138, 7, 2, 0, 0), (6142, 7, 1, 0, 0), (6146, 3, 1, 0, 0), (6150, 3, 2, 0, 0), (6154, 7, 1, 0, 0), (6158, 20, 1, 0, 0), (6165, 7, 2, 0, 0), (6169, 7, 2, 0, 0), (6173, 7, 1, 0, 0), (6177, 4, 1, 0, 0), (6181, 7, 2, 0, 0), (6185, 7, 2, 0, 0), (6189, 4, 1, 0, 0), (6194, 7, 1, 0, 0), (6198, 7, 1, 0, 0), (6202, 11, 1, 0, 0), (6207, 9, 1, 0, 0), (6211, 11, 1, 0, 0), (6215, 9, 1, 0, 0), (6219, 9, 1, 0, 0), (6223, 9, 1, 0, 0), (6227, 11, 2, 0, 0), (6231, 11, 1, 0, 0), (6236, 9, 1, 0, 0), (7001, 11, 2, 0, 0), (7006, 11, 1, 0, 0), (7011, 11, 1, 0, 0), (7015, 11, 1, 0, 0), (7019, 9, 1, 0, 0), (7024, 9, 1, 0, 0), (7028, 11, 1, 0, 0), (7032, 0, 0, 0, 0), (7036, 7, 0, 0, 0), (7041, 0, 1, 0, 0), (7045, 3, 0, 0, 0), (7049, 0, 0, 0, 0), (7053, 7, 0, 0, 0), (7057, 11, 0, 0, 0), (7061, 7, 0, 0, 0), (7065, 0, 0, 0, 0), (7069, 7, 0, 0, 0), (7073, 11, 0, 0, 0), (7077, 9, 0, 0, 0), (7081, 0, 1, 0, 0), (7085, 0, 1, 0, 0), (7091, 12, 0, 72, 2757098), (9054, 12, 5, 0, 0), (9058, 12, 1, 0, 0), (9062, 12, 1, 0, 0), (9066, 12, 2, 0, 0), (9070, 12, 0, 0, 0), (9074, 12, 0, 0, 0), (9078, 12, 0, 0, 0), (9082, 12, 0, 0, 0), (9086, 12, 2, 0, 0), (9090, 12, 1, 0, 0), (9094, 12, 1, 0, 0), (9097, 12, 1, 0, 0), (9101, 12, 0, 0, 0), (9104, 12, 1, 0, 0), (9108, 12, 1, 0, 0), (9112, 12, 0, 0, 0), (9116, 12, 0, 0, 0), (9123, 12, 1, 0, 0), (9127, 12, 0, 0, 0), (9131, 12, 1, 0, 0), (9135, 12, 1, 0, 0), (9139, 12, 0, 0, 0), (9143, 12, 0, 0, 0), (9147, 12, 1, 0, 0), (9151, 12, 0, 0, 0), (9155, 12, 0, 0, 0), (9159, 12, 0, 0, 0), (9163, 12, 0, 0, 0), (9167, 12, 1, 0, 0), (9171, 12, 1, 0, 0), (9175, 12, 0, 0, 0), (9179, 12, 0, 0, 0), (9183, 12, 0, 0, 0), (9187, 12, 0, 0, 0), (9191, 12, 2, 0, 0), (9195, 12, 3, 0, 0), (9199, 12, 0, 0, 0), (9203, 12, 1, 0, 0), (9207, 12, 1, 0, 0), (9211, 12, 1, 0, 0), (9215, 12, 2, 0, 0), (9219, 12, 3, 0, 0), (9223, 12, 1, 0, 0), (9227, 12, 2, 0, 0), (9231, 12, 1, 0, 0), (9236, 12, 2, 0, 0), (10000, 12, 3, 0, 0), (10005, 12, 3, 0, 0), (10009, 12, 2, 0, 0), (10013, 12, 1, 0, 0), (10017, 12, 0, 0, 0), (10021, 12, 1, 0, 0), (10025, 12, 2, 0, 0), (10029, 12, 0, 0, 0), (10033, 12, 2, 0, 0), (10037, 12, 1, 0, 0), (10041, 12, 0, 0, 0), (10045, 12, 1, 0, 0), (10049, 12, 0, 0, 0), (10053, 12, 0, 0, 0), (10057, 12, 0, 0, 0), (10061, 12, 0, 0, 0), (10065, 12, 0, 0, 0), (10069, 12, 2, 0, 0), (10073, 12, 0, 0, 0), (10077, 12, 0, 0, 0), (10081, 12, 0, 0, 0), (10085, 12, 1, 0, 0), (10089, 12, 2, 0, 0), (10093, 12, 0, 0, 0), (10097, 12, 2, 0, 0), (10101, 12, 1, 0, 0), (10105, 12, 2, 0, 0), (10109, 12, 3, 0, 0), (10113, 12, 2, 0, 0), (10117, 12, 0, 0, 0), (10121, 12, 1, 0, 0), (10125, 12, 1, 0, 0), (10129, 12, 3, 0, 0), (10133, 12, 1, 0, 0), (10137, 12, 3, 0, 0), (10141, 12, 1, 0, 0), (10145, 12, 3, 0, 0), (10149, 12, 1, 0, 0), (10153, 12, 4, 0, 0), (10157, 12, 0, 0, 0), (10161, 12, 0, 0, 0), (10165, 12, 3, 0, 0), (10169, 12, 0, 0, 0), (10173, 12, 3, 0, 0), (10177, 12, 2, 0, 0), (10181, 12, 0, 0, 0), (10185, 12, 0, 0, 0), (10189, 12, 0, 0, 0), (10193, 12, 0, 0, 0), (10197, 12, 4, 0, 0), (10201, 12, 1, 0, 0), (10205, 12, 0, 0, 0), (10209, 12, 4, 0, 0), (10213, 12, 0, 0, 0), (10217, 12, 0, 0, 0), (10221, 12, 2, 0, 0), (10225, 12, 0, 0, 0), (10229, 12, 3, 0, 0), (10233, 12, 1, 0, 0), (10237, 12, 2, 0, 0), (11001, 12, 3, 0, 0), (11005, 12, 2, 0, 0), (11009, 12, 2, 0, 0), (11013, 12, 2, 0, 0), (11017, 12, 0, 0, 0), (11021, 12, 0, 0, 0), (11025, 12, 1, 0, 0), (11029, 12, 2, 0, 0), (11033, 12, 0, 0, 0), (11037, 12, 1, 0, 0), (11041, 12, 2, 0, 0), (11045, 12, 0, 0, 0), (11049, 12, 1, 0, 0), (11053, 12, 1, 0, 0), (11057, 12, 1, 0, 0), (11061, 12, 1, 0, 0), (11065, 12, 1, 0, 0), (11069, 12, 1, 0, 0), (11073, 12, 1, 0, 0), (11077, 12, 2, 0, 0), (11081, 12, 1, 0, 0), (11085, 12, 1, 0, 0), (11089, 12, 1, 0, 0), (11093, 12, 1, 0, 0), (11097, 12, 2, 0, 0), (11101, 12, 1, 0, 0), (11105, 12, 1, 0, 0), (11109, 12, 2, 0, 0), (11113, 12, 1, 0, 0), (11117, 12, 1, 0, 0), (11121, 12, 1, 0, 0), (11125, 12, 1, 0, 0), (11129, 12, 2, 0, 0), (11133, 12, 4, 0, 0), (11137, 12, 1, 0, 0), (11141, 12, 1, 0, 0), (11145, 12, 1, 0, 0), (11149, 12, 1, 0, 0), (11154, 12, 1, 0, 0), (11158, 12, 0, 0, 0), (11162, 12, 0, 0, 0), (11166, 12, 1, 0, 0), (11170, 12, 1, 0, 0), (11174, 12, 1, 0, 0)]
def xMf (j : Nat) : Option x_M := match xMi[j]? with
  | none => none
  | some (ix, ow, na, mc, ms) => match xg ix with
    | some (.code y b n r) => some (y, b, n, r, ow, na, mc, ms)
    | _ => none
def xIn : List Nat := [1, 2, 7, 8, 9, 10, 11, 12, 13, 14, 15, 16, 17, 3, 4, 5, 6, 18, 19, 20, 22]
def xMk (e : Nat × Nat × Nat × Nat × Nat) : Bool := match xg e.1 with
  | some (.code y _ n _) => xis (xIn.getD e.2.1 0) (.initialized y.cls) && plainName y.cls && decide (y.cls = xnmF e.2.1) && decide (y.cls ≠ "java/lang/invoke/MethodHandle") && decide (y.cls ≠ "java/lang/invoke/VarHandle") && decide ((parseMethodDescriptor y.desc).map (fun d => d.parameters.length) = some e.2.2.1) && decide (n ≤ 45)
  | _ => true
set_option maxRecDepth 100000 in
def xFi : List (List (Nat × Nat × Nat × Nat)) := [[(9, 0, 0, 1215), (96, 0, 1, 1216), (16, 0, 2, 1217), (23, 0, 3, 1218), (30, 0, 4, 1219), (42, 0, 5, 1220), (51, 0, 6, 1221), (60, 0, 7, 1222), (67, 0, 8, 1223), (83, 0, 9, 1224), (74, 0, 10, 1225), (92, 0, 11, 1226), (125, 0, 12, 1227), (119, 0, 13, 1228), (160, 0, 14, 1229), (164, 0, 15, 1230)], [(9, 1, 0, 95), (13, 1, 1, 96), (16, 1, 2, 97), (19, 1, 3, 98), (29, 1, 4, 99), (34, 1, 5, 100), (39, 1, 6, 101), (46, 1, 7, 102), (59, 1, 8, 103), (62, 1, 9, 104), (66, 1, 10, 105), (151, 1, 11, 106), (80, 1, 12, 107), (42, 1, 13, 108), (139, 1, 14, 109), (142, 1, 15, 110), (145, 1, 16, 111), (148, 1, 17, 112)], [(10, 2, 0, 160), (14, 2, 1, 161), (17, 2, 2, 162), (22, 2, 3, 163), (26, 2, 4, 164), (36, 2, 5, 165), (40, 2, 6, 166), (119, 2, 7, 167), (122, 2, 8, 168), (133, 2, 9, 169), (47, 2, 10, 170)], [(9, 3, 0, 200), (13, 3, 1, 201), (26, 3, 2, 202)], [(9, 4, 0, 216), (13, 4, 1, 217), (16, 4, 2, 218), (19, 4, 3, 219), (22, 4, 4, 220), (25, 4, 5, 221), (29, 4, 6, 222), (32, 4, 7, 223), (35, 4, 8, 224), (39, 4, 9, 225), (42, 4, 10, 226), (45, 4, 11, 227), (48, 4, 12, 228), (51, 4, 13, 229)], [(7, 5, 0, 1025)], [(19, 6, 0, 1035), (23, 6, 1, 1036), (27, 6, 2, 1037), (9, 6, 3, 1038), (15, 6, 4, 1039), (43, 6, 5, 1040)], [(17, 7, 0, 1060), (21, 7, 1, 1061), (11, 7, 2, 1062), (42, 7, 3, 1063), (45, 7, 4, 1064), (48, 7, 5, 1065), (51, 7, 6, 1066), (25, 7, 7, 1067), (29, 7, 8, 1068), (32, 7, 9, 1069), (35, 7, 10, 1070), (54, 7, 11, 1071)], [(13, 8, 0, 1103), (9, 8, 1, 1104), (17, 8, 2, 1105)], [(9, 9, 0, 1119), (13, 9, 1, 1120), (16, 9, 2, 1121), (19, 9, 3, 1122), (22, 9, 4, 1123), (27, 9, 5, 1124), (30, 9, 6, 1125), (33, 9, 7, 1126), (37, 9, 8, 1127), (41, 9, 9, 1128), (44, 9, 10, 1129), (56, 9, 11, 1130)], [(18, 10, 0, 1162), (22, 10, 1, 1163), (26, 10, 2, 1164), (30, 10, 3, 1165), (9, 10, 4, 1166), (15, 10, 5, 1167), (210, 10, 6, 1168), (214, 10, 7, 1169)], [(15, 11, 0, 1193), (19, 11, 1, 1194), (11, 11, 2, 1195), (42, 11, 3, 1196), (23, 11, 4, 1197), (27, 11, 5, 1198), (45, 11, 6, 1199)], [(7, 12, 0, 7097), (237, 12, 1, 7098), (13, 12, 2, 7099), (244, 12, 3, 7100), (16, 12, 4, 7101), (575, 12, 5, 7102), (20, 12, 6, 7103), (24, 12, 7, 7104), (27, 12, 8, 7105), (299, 12, 9, 7106), (273, 12, 10, 7107), (257, 12, 11, 7108), (264, 12, 12, 7109), (270, 12, 13, 7110), (316, 12, 14, 7111), (292, 12, 15, 7112), (296, 12, 16, 7113), (251, 12, 17, 7114), (254, 12, 18, 7115), (319, 12, 19, 7116), (322, 12, 20, 7117), (331, 12, 21, 7118), (334, 12, 22, 7119), (325, 12, 23, 7120), (353, 12, 24, 7121), (328, 12, 25, 7122), (362, 12, 26, 7123), (365, 12, 27, 7124), (368, 12, 28, 7125), (31, 12, 29, 7126), (374, 12, 30, 7127), (371, 12, 31, 7128), (34, 12, 32, 7129), (37, 12, 33, 7130), (508, 12, 34, 7131), (40, 12, 35, 7132), (393, 12, 36, 7133), (43, 12, 37, 7134), (47, 12, 38, 7135), (50, 12, 39, 7136), (490, 12, 40, 7137), (414, 12, 41, 7138), (396, 12, 42, 7139), (430, 12, 43, 7140), (53, 12, 44, 7141), (56, 12, 45, 7142), (59, 12, 46, 7143), (62, 12, 47, 7144), (65, 12, 48, 7145), (551, 12, 49, 7146), (68, 12, 50, 7147), (71, 12, 51, 7148), (74, 12, 52, 7149), (77, 12, 53, 7150), (80, 12, 54, 7151), (433, 12, 55, 7152), (436, 12, 56, 7153), (84, 12, 57, 7154), (87, 12, 58, 7155), (90, 12, 59, 7156), (93, 12, 60, 7157), (548, 12, 61, 7158), (96, 12, 62, 7159), (590, 12, 63, 7160), (593, 12, 64, 7161), (596, 12, 65, 7162), (641, 12, 66, 7163), (623, 12, 67, 7164), (644, 12, 68, 7165), (614, 12, 69, 7166), (99, 12, 70, 7167), (632, 12, 71, 7168), (103, 12, 72, 7169), (106, 12, 73, 7170), (110, 12, 74, 7171), (599, 12, 75, 7172), (602, 12, 76, 7173), (651, 12, 77, 7174), (113, 12, 78, 7175), (654, 12, 79, 7176), (116, 12, 80, 7177), (119, 12, 81, 7178), (122, 12, 82, 7179), (657, 12, 83, 7180), (125, 12, 84, 7181), (679, 12, 85, 7182), (128, 12, 86, 7183), (131, 12, 87, 7184), (134, 12, 88, 7185), (137, 12, 89, 7186), (140, 12, 90, 7187), (143, 12, 91, 7188), (682, 12, 92, 7189), (147, 12, 93, 7190), (697, 12, 94, 7191), (688, 12, 95, 7192), (685, 12, 96, 7193), (150, 12, 97, 7194), (153, 12, 98, 7195), (156, 12, 99, 7196), (159, 12, 100, 7197), (162, 12, 101, 7198), (716, 12, 102, 7199), (726, 12, 103, 7200), (732, 12, 104, 7201), (735, 12, 105, 7202), (738, 12, 106, 7203), (729, 12, 107, 7204), (165, 12, 108, 7205), (168, 12, 109, 7206), (741, 12, 110, 7207), (171, 12, 111, 7208), (174, 12, 112, 7209), (177, 12, 113, 7210), (180, 12, 114, 7211), (183, 12, 116, 7212), (186, 12, 117, 7213), (763, 12, 118, 7214), (189, 12, 119, 7215), (192, 12, 120, 7216), (195, 12, 121, 7217), (198, 12, 122, 7218), (201, 12, 123, 7219), (772, 12, 124, 7220), (766, 12, 125, 7221), (204, 12, 126, 7222), (207, 12, 127, 7223), (210, 12, 128, 7224), (213, 12, 129, 7225), (216, 12, 130, 7226), (219, 12, 131, 7227), (222, 12, 132, 7228), (225, 12, 133, 7229), (754, 12, 134, 7230), (797, 12, 135, 7231), (800, 12, 136, 7232), (785, 12, 137, 7233), (228, 12, 138, 7234), (842, 12, 139, 7235), (851, 12, 140, 7236), (231, 12, 141, 7237), (234, 12, 142, 7238), (878, 12, 143, 7239)], [], [], [], [], [], [], [], []]
set_option maxRecDepth 100000 in
def xLnk : List (List (Nat × Nat × Nat × Nat × Nat × Nat)) := [[(1, 4, 0, 28, 0, 0), (15, 3, 1, 33, 34, 0), (22, 3, 15, 155, 156, 0), (29, 3, 16, 196, 197, 0), (36, 3, 17, 212, 213, 0), (39, 2, 18, 1021, 1022, 0), (48, 2, 19, 1031, 1032, 0), (57, 2, 20, 1056, 1057, 0), (66, 2, 21, 1099, 1100, 0), (73, 3, 22, 1115, 1116, 0), (80, 2, 23, 1158, 1159, 0), (89, 2, 24, 1189, 1190, 0), (100, 0, 26, 2028, 2030, 12000), (104, 0, 28, 2036, 2038, 12001), (191, 0, 29, 2040, 2041, 2042), (108, 0, 57, 2157, 2158, 2159), (111, 0, 88, 3046, 3047, 3048), (115, 0, 89, 3050, 3051, 3052), (122, 0, 168, 4146, 4147, 4148), (128, 0, 175, 4192, 4193, 4194), (131, 0, 177, 4200, 4201, 4202), (132, 0, 189, 5024, 5025, 5026), (134, 0, 236, 5238, 5239, 6000), (137, 0, 251, 6058, 6059, 6060), (140, 0, 253, 6066, 6067, 6068), (144, 0, 255, 6074, 6075, 6076), (147, 0, 243, 6082, 6027, 6028), (150, 0, 258, 6087, 6089, 19007), (195, 0, 107, 6091, 3131, 3132), (153, 0, 259, 6092, 6093, 6094), (156, 0, 260, 6098, 6099, 6100), (159, 0, 284, 6199, 6200, 6201), (167, 0, 301, 7033, 7034, 7035), (170, 0, 291, 7037, 6229, 6230), (173, 0, 303, 7042, 7043, 7044), (176, 0, 304, 7046, 7048, 20011), (198, 0, 305, 7050, 7051, 7052), (201, 0, 306, 7054, 7055, 7056), (179, 0, 307, 7058, 7059, 7060), (182, 0, 308, 7062, 7064, 20012), (204, 0, 309, 7066, 7067, 7068), (207, 0, 310, 7070, 7071, 7072), (185, 0, 311, 7074, 7075, 7076), (188, 0, 268, 7086, 6132, 6133)], [(1, 4, 0, 36, 0, 0), (25, 1, 2, 38, 39, 0), (133, 5, 3, 41, 42, 43), (136, 5, 5, 51, 52, 53), (102, 1, 14, 90, 91, 0), (50, 6, 0, 2044, 2045, 2046), (56, 7, 0, 2047, 2048, 2049), (69, 0, 30, 2050, 2052, 12002), (83, 0, 31, 2054, 2056, 12003), (73, 0, 32, 2058, 2060, 12004), (86, 1, 33, 2062, 2063, 0), (90, 0, 34, 2065, 2067, 12005), (107, 0, 35, 2069, 2071, 12006), (76, 0, 36, 2073, 2075, 12007), (110, 0, 37, 2077, 2079, 12008), (130, 1, 38, 2081, 2082, 0), (93, 1, 39, 2084, 2085, 0), (96, 0, 40, 2087, 2089, 12009), (118, 8, 0, 2093, 2094, 2095), (99, 0, 41, 2097, 2099, 12010), (125, 5, 42, 2102, 2103, 2104), (164, 0, 63, 2181, 2182, 2183), (158, 0, 64, 2185, 2186, 2187), (161, 0, 60, 2193, 2170, 2171), (167, 0, 66, 2194, 2195, 2196), (173, 0, 65, 2227, 2190, 2191), (176, 0, 69, 2228, 2208, 2209), (170, 0, 62, 2234, 2178, 2179), (154, 0, 90, 3121, 3055, 3056)], [(1, 4, 0, 158, 0, 0), (30, 1, 92, 3062, 3063, 0), (43, 0, 93, 3065, 3066, 3067), (57, 7, 0, 3069, 2048, 2049), (62, 0, 94, 3070, 3072, 13008), (65, 0, 95, 3074, 3076, 13009), (68, 0, 96, 3079, 3081, 13010), (71, 1, 97, 3086, 3087, 0), (74, 0, 98, 3089, 3091, 13011), (53, 0, 99, 3093, 3095, 13012), (86, 6, 0, 3098, 2045, 2046), (50, 0, 100, 3099, 3100, 3101), (89, 0, 113, 3155, 3156, 3157), (125, 0, 110, 3229, 3144, 3145), (93, 0, 132, 3234, 3236, 14009), (100, 0, 133, 3238, 3239, 4000), (104, 0, 134, 4002, 4003, 4004), (107, 0, 135, 4006, 4007, 4008), (110, 0, 136, 4010, 4011, 4012), (113, 0, 137, 4014, 4015, 4016), (97, 0, 112, 4018, 3152, 3153), (116, 0, 158, 4105, 4107, 15003), (136, 0, 169, 4150, 4152, 15008), (142, 0, 170, 4155, 4157, 15009), (183, 5, 3, 4159, 42, 43), (189, 5, 5, 4160, 52, 53), (177, 0, 171, 4161, 4163, 15010), (146, 0, 172, 4165, 4167, 15011), (150, 0, 173, 4175, 4177, 15012), (159, 0, 174, 4185, 4187, 15013), (129, 0, 196, 5233, 5060, 5061)], [(1, 4, 0, 199, 0, 0), (17, 6, 0, 6096, 2045, 2046), (23, 7, 0, 6097, 2048, 2049)], [(3, 4, 0, 215, 0, 0), (54, 1, 116, 3168, 3169, 0), (58, 0, 120, 3184, 3186, 14002), (72, 0, 124, 3201, 3202, 3203), (62, 0, 125, 3205, 3207, 14005), (66, 7, 0, 4064, 2048, 2049), (75, 0, 164, 4130, 4132, 15006), (82, 1, 165, 4134, 4135, 0), (87, 0, 166, 4138, 4139, 4140), (79, 0, 167, 4142, 4144, 15007), (90, 0, 265, 6190, 6120, 6121)], [(1, 4, 0, 1024, 0, 0), (13, 0, 58, 2161, 2162, 2163), (19, 0, 59, 2165, 2167, 12011), (25, 0, 60, 2169, 2170, 2171), (29, 0, 61, 2173, 2175, 12012), (35, 0, 62, 2177, 2178, 2179), (38, 0, 65, 2189, 2190, 2191), (51, 0, 67, 2198, 2200, 12013), (105, 0, 68, 2202, 2204, 12014), (79, 0, 63, 2206, 2182, 2183), (42, 0, 69, 2207, 2208, 2209), (82, 0, 70, 2211, 2213, 12015), (95, 0, 71, 2215, 2216, 2217), (63, 0, 72, 2219, 2220, 2221), (57, 0, 73, 2223, 2224, 2225), (92, 0, 66, 2229, 2195, 2196), (73, 0, 74, 2230, 2231, 2232), (32, 0, 75, 2235, 2237, 13000), (54, 0, 76, 2239, 3000, 3001), (45, 0, 77, 3003, 3005, 13001), (48, 0, 78, 3007, 3009, 13002), (60, 0, 79, 3011, 3013, 13003), (67, 0, 80, 3015, 3017, 13004), (70, 0, 81, 3019, 3021, 13005), (86, 0, 82, 3023, 3025, 13006), (98, 0, 83, 3027, 3028, 3029), (101, 0, 84, 3031, 3032, 3033), (89, 0, 85, 3035, 3037, 13007), (76, 1, 86, 3039, 3040, 0), (22, 0, 87, 3042, 3043, 3044)], [(1, 4, 0, 1034, 0, 0), (31, 0, 90, 3054, 3055, 3056), (37, 0, 91, 3058, 3059, 3060), (42, 0, 101, 3103, 3104, 3105), (47, 0, 102, 3107, 3109, 13013), (71, 0, 60, 3111, 2170, 2171), (74, 0, 103, 3112, 3114, 13014), (90, 0, 83, 3116, 3028, 3029), (93, 0, 104, 3117, 3118, 3119), (96, 0, 105, 3122, 3124, 13015), (229, 0, 106, 3126, 3128, 14000), (143, 0, 107, 3130, 3131, 3132), (54, 0, 108, 3134, 3135, 3136), (232, 0, 109, 3138, 3139, 3140), (68, 0, 64, 3142, 2186, 2187), (235, 0, 110, 3143, 3144, 3145), (125, 0, 111, 3147, 3148, 3149), (239, 0, 112, 3151, 3152, 3153), (202, 0, 114, 3159, 3161, 14001), (210, 0, 113, 3163, 3156, 3157), (213, 0, 115, 3164, 3165, 3166), (207, 0, 93, 3171, 3066, 3067), (115, 0, 117, 3172, 3173, 3174), (99, 0, 118, 3176, 3177, 3178), (102, 0, 119, 3180, 3181, 3182), (105, 0, 121, 3188, 3190, 14003), (109, 0, 122, 3192, 3194, 14004), (58, 7, 0, 3196, 2048, 2049), (112, 0, 123, 3197, 3198, 3199), (118, 0, 126, 3209, 3211, 14006), (64, 0, 127, 3213, 3214, 3215), (77, 0, 128, 3217, 3219, 14007), (80, 0, 129, 3221, 3223, 14008), (121, 0, 130, 3225, 3226, 3227), (128, 0, 131, 3230, 3231, 3232), (83, 0, 138, 4019, 4021, 14010), (131, 0, 139, 4023, 4024, 4025), (134, 0, 140, 4027, 4028, 4029), (86, 0, 141, 4031, 4033, 14011), (137, 0, 142, 4035, 4037, 14012), (153, 0, 143, 4039, 4041, 14013), (183, 0, 84, 4043, 3032, 3033), (186, 0, 144, 4044, 4045, 4046), (188, 0, 145, 4048, 4050, 14014), (200, 0, 146, 4052, 4053, 4054), (191, 0, 147, 4056, 4058, 14015), (205, 0, 148, 4060, 4061, 4062), (194, 0, 149, 4065, 4067, 15000), (169, 0, 133, 4069, 3239, 4000), (215, 0, 135, 4070, 4007, 4008), (218, 0, 150, 4071, 4072, 4073), (177, 0, 136, 4075, 4011, 4012), (197, 0, 151, 4076, 4078, 15001), (220, 0, 152, 4080, 4081, 4082), (223, 0, 153, 4084, 4085, 4086), (226, 0, 124, 4088, 3202, 3203), (156, 0, 154, 4089, 4091, 15002), (146, 0, 155, 4093, 4094, 4095), (172, 0, 156, 4097, 4098, 4099), (174, 0, 157, 4101, 4102, 4103), (160, 1, 86, 4109, 3040, 0), (166, 0, 159, 4110, 4112, 15004), (180, 0, 160, 4114, 4115, 4116), (140, 0, 161, 4118, 4120, 15005), (149, 0, 162, 4122, 4123, 4124), (51, 0, 163, 4126, 4127, 4128)], [(3, 4, 0, 1059, 0, 0), (38, 0, 261, 6102, 6103, 6104), (58, 0, 262, 6107, 6109, 19008), (62, 0, 263, 6111, 6112, 6113), (66, 0, 264, 6115, 6116, 6117), (69, 0, 265, 6119, 6120, 6121), (72, 0, 266, 6123, 6125, 19009), (75, 0, 267, 6127, 6128, 6129), (78, 0, 268, 6131, 6132, 6133), (83, 0, 269, 6135, 6137, 19010), (87, 0, 270, 6139, 6141, 19011), (108, 0, 271, 6143, 6144, 6145), (90, 0, 272, 6147, 6148, 6149), (93, 0, 273, 6151, 6153, 19012), (110, 0, 166, 6155, 4139, 4140), (114, 1, 274, 6156, 6157, 0), (120, 0, 275, 6162, 6164, 19013), (124, 0, 276, 6166, 6168, 19014), (96, 0, 277, 6170, 6172, 19015), (128, 0, 278, 6174, 6175, 6176), (99, 0, 279, 6178, 6180, 20000), (131, 0, 280, 6182, 6184, 20001), (134, 0, 281, 6186, 6187, 6188), (102, 0, 282, 6191, 6193, 20002), (105, 0, 283, 6195, 6197, 20003)], [(1, 4, 0, 1102, 0, 0), (21, 0, 58, 4204, 2162, 2163), (27, 0, 71, 4205, 2216, 2217), (31, 0, 178, 4206, 4208, 15014), (48, 0, 83, 4210, 3028, 3029), (51, 0, 65, 4211, 2190, 2191), (55, 0, 179, 4212, 4214, 15015), (61, 0, 74, 4216, 2231, 2232), (38, 0, 60, 4217, 2170, 2171), (65, 0, 63, 4218, 2182, 2183), (68, 0, 73, 4219, 2224, 2225), (58, 0, 180, 4220, 4222, 16000), (71, 0, 76, 4224, 3000, 3001), (74, 0, 181, 4225, 4227, 16001), (80, 0, 182, 4229, 4231, 16002), (83, 0, 183, 4233, 4235, 16003), (77, 0, 72, 4237, 2220, 2221), (86, 0, 62, 4238, 2178, 2179), (89, 0, 69, 4239, 2208, 2209), (92, 0, 66, 5000, 2195, 2196), (34, 0, 88, 5001, 3047, 3048), (42, 0, 184, 5002, 5004, 16004), (95, 0, 185, 5006, 5008, 16005), (98, 0, 186, 5010, 5012, 16006), (108, 0, 187, 5014, 5016, 16007), (101, 0, 188, 5018, 5020, 16008), (104, 0, 84, 5022, 3032, 3033), (45, 0, 87, 5023, 3043, 3044)], [(1, 4, 0, 1118, 0, 0), (49, 0, 237, 6002, 6004, 18011), (52, 0, 238, 6006, 6008, 18012), (65, 0, 239, 6010, 6012, 18013), (71, 0, 240, 6014, 6016, 18014), (59, 0, 241, 6018, 6020, 18015), (62, 0, 242, 6022, 6024, 19000), (86, 0, 243, 6026, 6027, 6028), (68, 0, 244, 6030, 6032, 19001), (74, 0, 245, 6034, 6036, 19002), (77, 0, 246, 6038, 6040, 19003), (90, 0, 247, 6042, 6044, 19004), (80, 0, 248, 6046, 6048, 19005), (83, 0, 249, 6050, 6052, 19006)], [(1, 4, 0, 1161, 0, 0), (34, 0, 91, 5028, 3059, 3060), (39, 0, 190, 5029, 5030, 5031), (42, 0, 191, 5033, 5035, 16009), (45, 0, 192, 5037, 5038, 5039), (65, 0, 193, 5041, 5042, 5043), (69, 0, 90, 5045, 3055, 3056), (72, 0, 100, 5046, 3100, 3101), (75, 0, 194, 5047, 5049, 16010), (105, 0, 195, 5051, 5053, 16011), (59, 0, 60, 5055, 2170, 2171), (140, 0, 104, 5056, 3118, 3119), (102, 0, 83, 5057, 3028, 3029), (81, 0, 108, 5058, 3135, 3136), (143, 0, 196, 5059, 5060, 5061), (89, 0, 64, 5063, 2186, 2187), (147, 0, 110, 5064, 3144, 3145), (151, 0, 84, 5065, 3032, 3033), (154, 0, 197, 5066, 5068, 16012), (173, 0, 109, 5070, 3139, 3140), (176, 0, 198, 5071, 5073, 16013), (157, 0, 113, 5075, 3156, 3157), (160, 0, 199, 5076, 5078, 16014), (169, 0, 93, 5080, 3066, 3067), (163, 0, 111, 5081, 3148, 3149), (179, 0, 112, 5082, 3152, 3153), (182, 0, 107, 5083, 3131, 3132), (166, 0, 200, 5084, 5085, 5086), (78, 0, 201, 5088, 5089, 5090), (49, 0, 88, 5092, 3047, 3048), (55, 0, 202, 5093, 5095, 16015), (85, 0, 203, 5097, 5099, 17000), (93, 0, 204, 5101, 5103, 17001), (108, 0, 205, 5105, 5107, 17002), (111, 0, 135, 5109, 4007, 4008), (96, 0, 206, 5110, 5112, 17003), (113, 0, 134, 5114, 4003, 4004), (116, 0, 130, 5115, 3226, 3227), (119, 0, 207, 5116, 5117, 5118), (122, 0, 157, 5120, 4102, 4103), (125, 1, 92, 5121, 3063, 0), (131, 0, 137, 5122, 4015, 4016), (134, 0, 136, 5123, 4011, 4012), (137, 0, 208, 5124, 5126, 17004), (100, 0, 209, 5128, 5129, 5130), (62, 0, 210, 5132, 5134, 17005), (220, 0, 211, 5136, 5138, 17006), (217, 0, 212, 5140, 5142, 17007), (188, 0, 213, 5144, 5146, 17008), (198, 0, 214, 5148, 5150, 17009), (201, 0, 215, 5152, 5154, 17010), (185, 0, 216, 5156, 5158, 17011), (204, 0, 217, 5160, 5162, 17012), (207, 0, 218, 5164, 5166, 17013), (195, 0, 133, 5168, 3239, 4000), (191, 0, 219, 5169, 5171, 17014), (247, 0, 220, 5173, 5174, 5175), (223, 0, 221, 5177, 5179, 17015), (251, 0, 222, 5181, 5183, 18000), (255, 0, 223, 5185, 5187, 18001), (226, 0, 224, 5189, 5191, 18002), (258, 0, 225, 5193, 5195, 18003), (229, 0, 226, 5197, 5199, 18004), (261, 0, 227, 5201, 5202, 5203), (232, 0, 228, 5205, 5207, 18005), (235, 0, 229, 5209, 5211, 18006), (238, 0, 230, 5213, 5215, 18007), (264, 0, 231, 5217, 5219, 18008), (267, 0, 232, 5221, 5222, 5223), (241, 0, 233, 5225, 5227, 18009), (270, 0, 234, 5229, 5230, 5231), (244, 0, 235, 5234, 5236, 18010)], [(3, 4, 0, 1192, 0, 0), (30, 1, 92, 6203, 3063, 0), (36, 0, 285, 6204, 6205, 6206), (48, 0, 286, 6208, 6210, 20004), (64, 0, 287, 6212, 6213, 6214), (67, 0, 288, 6216, 6217, 6218), (70, 0, 289, 6220, 6221, 6222), (73, 0, 290, 6224, 6226, 20005), (58, 0, 291, 6228, 6229, 6230), (52, 0, 292, 6233, 6234, 6235), (77, 0, 268, 6237, 6132, 6133), (82, 0, 293, 6238, 7000, 20006), (86, 0, 272, 7002, 6148, 6149), (89, 0, 294, 7003, 7005, 20007), (102, 0, 271, 7007, 6144, 6145), (92, 0, 295, 7008, 7010, 20008), (98, 0, 296, 7012, 7014, 20009), (55, 0, 297, 7016, 7017, 7018), (61, 0, 243, 7020, 6027, 6028), (105, 0, 298, 7021, 7022, 7023), (95, 0, 299, 7025, 7027, 20010)], [(1, 4, 0, 7092, 0, 0), (240, 0, 316, 9055, 9057, 20013), (571, 0, 318, 9063, 9065, 20014), (578, 0, 319, 9067, 9069, 20015), (581, 0, 320, 9071, 9073, 21000), (587, 0, 321, 9075, 9077, 21001), (344, 0, 322, 9079, 9081, 21002), (260, 0, 323, 9083, 9085, 21003), (267, 0, 324, 9087, 9089, 21004), (247, 0, 325, 9091, 9093, 21005), (276, 1, 326, 9095, 9096, 0), (280, 0, 327, 9098, 9100, 21006), (283, 1, 328, 9102, 9103, 0), (303, 0, 329, 9105, 9107, 21007), (307, 0, 330, 9109, 9111, 21008), (286, 0, 331, 9113, 9115, 21009), (289, 0, 332, 9120, 9122, 21010), (380, 0, 333, 9124, 9126, 21011), (377, 0, 334, 9128, 9130, 21012), (384, 0, 335, 9132, 9134, 21013), (469, 0, 336, 9136, 9138, 21014), (337, 0, 337, 9140, 9142, 21015), (350, 0, 338, 9144, 9146, 22000), (445, 0, 339, 9148, 9150, 22001), (356, 0, 340, 9152, 9154, 22002), (411, 0, 341, 9156, 9158, 22003), (347, 0, 342, 9160, 9162, 22004), (359, 0, 343, 9164, 9166, 22005), (341, 0, 344, 9168, 9170, 22006), (460, 0, 345, 9172, 9174, 22007), (399, 0, 346, 9176, 9178, 22008), (402, 0, 347, 9180, 9182, 22009), (408, 0, 348, 9184, 9186, 22010), (427, 0, 349, 9188, 9190, 22011), (417, 0, 350, 9192, 9194, 22012), (405, 0, 351, 9196, 9198, 22013), (421, 0, 352, 9200, 9202, 22014), (424, 0, 353, 9204, 9206, 22015), (463, 0, 354, 9208, 9210, 23000), (496, 0, 355, 9212, 9214, 23001), (466, 0, 356, 9216, 9218, 23002), (472, 0, 357, 9220, 9222, 23003), (554, 0, 358, 9224, 9226, 23004), (561, 0, 359, 9228, 9230, 23005), (564, 0, 360, 9233, 9235, 23006), (567, 0, 361, 9237, 9239, 23007), (475, 0, 362, 10002, 10004, 23008), (479, 0, 363, 10006, 10008, 23009), (387, 0, 364, 10010, 10012, 23010), (448, 0, 365, 10014, 10016, 23011), (483, 0, 366, 10018, 10020, 23012), (486, 0, 367, 10022, 10024, 23013), (451, 0, 368, 10026, 10028, 23014), (493, 0, 369, 10030, 10032, 23015), (390, 0, 370, 10034, 10036, 24000), (454, 0, 371, 10038, 10040, 24001), (499, 0, 372, 10042, 10044, 24002), (457, 0, 373, 10046, 10048, 24003), (502, 0, 374, 10050, 10052, 24004), (511, 0, 375, 10054, 10056, 24005), (514, 0, 376, 10058, 10060, 24006), (533, 0, 377, 10062, 10064, 24007), (545, 0, 378, 10066, 10068, 24008), (536, 0, 379, 10070, 10072, 24009), (520, 0, 380, 10074, 10076, 24010), (539, 0, 381, 10078, 10080, 24011), (439, 0, 382, 10082, 10084, 24012), (530, 0, 383, 10086, 10088, 24013), (542, 0, 384, 10090, 10092, 24014), (505, 0, 385, 10094, 10096, 24015), (442, 0, 386, 10098, 10100, 25000), (517, 0, 387, 10102, 10104, 25001), (526, 0, 388, 10106, 10108, 25002), (523, 0, 389, 10110, 10112, 25003), (584, 0, 390, 10114, 10116, 25004), (676, 0, 392, 10122, 10124, 25005), (660, 0, 393, 10126, 10128, 25006), (664, 0, 394, 10130, 10132, 25007), (667, 0, 395, 10134, 10136, 25008), (670, 0, 396, 10138, 10140, 25009), (673, 0, 397, 10142, 10144, 25010), (712, 0, 399, 10150, 10152, 25011), (757, 0, 400, 10154, 10156, 25012), (769, 0, 401, 10158, 10160, 25013), (775, 0, 402, 10162, 10164, 25014), (700, 0, 403, 10166, 10168, 25015), (706, 0, 404, 10170, 10172, 26000), (703, 0, 405, 10174, 10176, 26001), (709, 0, 406, 10178, 10180, 26002), (691, 0, 407, 10182, 10184, 26003), (694, 0, 408, 10186, 10188, 26004), (723, 0, 409, 10190, 10192, 26005), (719, 0, 410, 10194, 10196, 26006), (779, 0, 411, 10198, 10200, 26007), (782, 0, 412, 10202, 10204, 26008), (815, 0, 413, 10206, 10208, 26009), (809, 0, 414, 10210, 10212, 26010), (788, 0, 415, 10214, 10216, 26011), (803, 0, 416, 10218, 10220, 26012), (806, 0, 417, 10222, 10224, 26013), (794, 0, 418, 10226, 10228, 26014), (744, 0, 419, 10230, 10232, 26015), (751, 0, 420, 10234, 10236, 27000), (747, 0, 421, 10238, 11000, 27001), (791, 0, 422, 11002, 11004, 27002), (818, 0, 423, 11006, 11008, 27003), (812, 0, 424, 11010, 11012, 27004), (821, 0, 425, 11014, 11016, 27005), (827, 0, 426, 11018, 11020, 27006), (824, 0, 427, 11022, 11024, 27007), (830, 0, 428, 11026, 11028, 27008), (836, 0, 429, 11030, 11032, 27009), (833, 0, 430, 11034, 11036, 27010), (839, 0, 431, 11038, 11040, 27011), (760, 0, 432, 11042, 11044, 27012), (848, 0, 433, 11046, 11048, 27013), (863, 0, 434, 11050, 11052, 27014), (845, 0, 435, 11054, 11056, 27015), (857, 0, 436, 11058, 11060, 28000), (866, 0, 437, 11062, 11064, 28001), (869, 0, 438, 11066, 11068, 28002), (872, 0, 439, 11070, 11072, 28003), (854, 0, 440, 11074, 11076, 28004), (860, 0, 441, 11078, 11080, 28005), (875, 0, 442, 11082, 11084, 28006), (888, 0, 446, 11098, 11100, 28007), (605, 0, 447, 11102, 11104, 28008), (626, 0, 448, 11106, 11108, 28009), (629, 0, 449, 11110, 11112, 28010), (635, 0, 450, 11114, 11116, 28011), (638, 0, 451, 11118, 11120, 28012), (608, 0, 452, 11122, 11124, 28013), (611, 0, 453, 11126, 11128, 28014), (647, 0, 454, 11130, 11132, 28015), (617, 0, 455, 11134, 11136, 29000), (620, 0, 456, 11138, 11140, 29001), (891, 0, 457, 11142, 11144, 29002), (881, 0, 458, 11146, 11148, 29003), (885, 0, 459, 11151, 11153, 29004)], [(335, 5, 4, 45, 46, 47), (492, 5, 6, 55, 56, 57), (495, 1, 7, 59, 60, 0), (1059, 1, 9, 67, 68, 0), (498, 1, 10, 70, 71, 0), (633, 5, 43, 2106, 2107, 2108), (505, 5, 3, 2110, 42, 43), (637, 1, 44, 2111, 2112, 0), (640, 1, 47, 2122, 2123, 0), (1062, 1, 51, 2137, 2138, 0)], [(9, 1, 8, 62, 63, 0), (88, 1, 45, 2114, 2115, 0), (92, 7, 0, 2117, 2048, 2049), (38, 6, 0, 2118, 2045, 2046), (95, 1, 46, 2119, 2120, 0)], [], [(67, 1, 11, 73, 74, 0), (48, 1, 12, 76, 77, 0), (414, 1, 8, 79, 63, 0), (71, 1, 13, 80, 81, 0), (224, 7, 0, 2125, 2048, 2049), (183, 6, 0, 2126, 2045, 2046), (228, 1, 48, 2128, 2129, 0), (96, 1, 49, 2131, 2132, 0), (241, 1, 50, 2134, 2135, 0), (244, 1, 52, 2140, 2141, 0), (232, 1, 53, 2143, 2144, 0), (164, 1, 54, 2146, 2147, 0), (157, 1, 55, 2149, 2150, 0), (161, 1, 56, 2153, 2154, 0)], [], [], [], []]
set_option maxRecDepth 100000 in
def xCi : List (List (Nat × Nat × Nat × Nat × Nat)) := [[(13, 1, 31, 32, 2), (20, 2, 153, 154, 7), (27, 3, 194, 195, 8), (34, 4, 210, 211, 9), (37, 5, 1019, 1020, 10), (46, 6, 1029, 1030, 11), (55, 7, 1054, 1055, 12), (64, 8, 1097, 1098, 13), (71, 9, 1113, 1114, 14), (78, 10, 1156, 1157, 15), (87, 11, 1187, 1188, 16)], [], [], [], [], [], [], [], [], [], [], [], [], [], [], [], [], [], [], [], []]
set_option maxRecDepth 100000 in
def xKci : List (List (Nat × Int32 × Nat)) := [[], [], [(9, 240000, 159), (78, 239996, 3078), (85, 100000, 3097)], [], [], [], [], [(57, 50000000, 6106)], [], [], [], [(101, 65536, 6232)], [(30, 66000, 7093), (102, 435200, 7094), (109, 1500000, 7095), (146, 80000, 7096), (884, 65536, 11150)], [], [], [], [(227, 65536, 2127)], [], [(110, 55232, 2152), (76, 56320, 2156)], [], []]
set_option maxRecDepth 100000 in
def xKli : List (List (Nat × Int64 × Nat)) := [[], [(105, 63, 89), (114, 10, 2091), (116, 2147483648, 2092), (121, 2147483647, 2096)], [], [], [(85, -1, 4137)], [], [], [], [], [], [], [], [(310, 10, 9117), (312, 48, 9118), (314, 2147483647, 9119), (559, -1, 9232), (557, 3, 10001)], [], [], [], [], [], [], [], [(314, 6148914691236517205, 6159), (316, 3689348814741910323, 6160), (318, 1085102592571150095, 6161)]]
set_option maxRecDepth 100000 in
def ySi : List (List (Nat × Nat × Nat)) := [[], [(23, 0, 37), (32, 1, 93), (37, 2, 94), (123, 3, 2101)], [(140, 4, 4154), (162, 5, 4179), (164, 6, 4180), (166, 7, 4181), (153, 8, 4182), (155, 9, 4183), (157, 10, 4184), (168, 11, 4189), (170, 12, 4190), (172, 13, 4191)], [], [], [], [], [], [], [], [], [], [], [], [], [], [], [], [], [], []]
set_option maxRecDepth 100000 in
def yFi : List (List (Nat × Nat × Nat)) := [[], [], [], [], [], [], [], [], [], [], [], [], [], [(9, 0, 11175), (15, 1, 11176)], [], [], [], [], [], [], []]
def yGi (fm : Value) : List (List (Nat × (Value × String × String × String) × Nat)) := [[], [], [], [], [], [], [], [], [], [], [], [], [], [(38, (.int 1, "java/lang/String", "COMPACT_STRINGS", "Z"), 49), (1053, (fm, "jdk/internal/util/Preconditions", "SIOOBE_FORMATTER", "Ljava/util/function/BiFunction;"), 65)], [], [], [(44, (.int 1, "java/lang/StringUTF16", "$assertionsDisabled", "Z"), 83), (59, (.int 0, "java/lang/StringUTF16", "HI_BYTE_SHIFT", "I"), 85), (63, (.int 8, "java/lang/StringUTF16", "LO_BYTE_SHIFT", "I"), 87)], [], [], [], []]
def xNw : List (String × Nat × MethodName × String) := [("TypedDescent", 15, ⟨"TypedDescent$Text", "<init>", "()V"⟩, "TypedDescent"), ("TypedDescent", 22, ⟨"TypedDescent$Kinds", "<init>", "()V"⟩, "TypedDescent"), ("TypedDescent", 29, ⟨"TypedDescent$Memory", "<init>", "()V"⟩, "TypedDescent"), ("TypedDescent", 36, ⟨"TypedDescent$ProgramCode", "<init>", "()V"⟩, "TypedDescent"), ("TypedDescent", 73, ⟨"TypedDescent$BlockCode", "<init>", "()V"⟩, "TypedDescent")]
def xFf (o idx : Nat) : Option (Nat × Nat) := (xlo xFi o idx).map fun q => (q.1, q.2.1)
def xLf (o idx : Nat) : Option (Nat × Nat) := (xlo xLnk o idx).map fun q => (q.1, q.2.1)
def xCf (o idx : Nat) : Option Nat := (xlo xCi o idx).map fun q => q.1
def xKcf (o idx : Nat) : Option Int32 := (xlo xKci o idx).map fun q => q.1
def xKlf (o idx : Nat) : Option Int64 := (xlo xKli o idx).map fun q => q.1
def xZ : x_T := (xMf, xFf, xLf, xCf, xKcf, xKlf, xcl, xnmF)
def xlen : List Nat := [31, 71, 51, 18, 3, 0, 1, 1, 2, 4, 1, 1, 1, 1]
def xbyt : List (List Int32) := [[105, 110, 116, 32, 97, 108, 108, 32, 102, 117, 110, 32, 102, 105, 120, 32, 116, 121, 112, 32, 108, 101, 116, 32, 105, 110, 32, 105, 102, 48, 32], [105, 110, 116, 32, 99, 111, 100, 101, 32, 115, 111, 109, 101, 32, 112, 97, 99, 107, 32, 97, 115, 32, 109, 111, 118, 32, 97, 100, 100, 32, 115, 117, 98, 32, 109, 117, 108, 32, 108, 100, 32, 115, 116, 32, 109, 97, 108, 108, 111, 99, 32, 98, 110, 122, 32, 117, 110, 112, 97, 99, 107, 32, 106, 109, 112, 32, 104, 97, 108, 116, 32], [114, 49, 32, 114, 50, 32, 114, 51, 32, 114, 52, 32, 114, 53, 32, 114, 54, 32, 114, 55, 32, 114, 56, 32, 114, 57, 32, 114, 49, 48, 32, 114, 49, 49, 32, 114, 49, 50, 32, 114, 49, 51, 32, 114, 49, 52, 32, 114, 49, 53, 32], [46, 58, 44, 59, 40, 41, 91, 93, 123, 125, 60, 62, 35, 43, 45, 42, 61, 63], [105, 110, 116], [], [40], [41], [45, 62], [97, 108, 108, 32], [46], [60], [44], [62]]
def xY (fm : Value) : x_Y := (fun o idx => (xlo ySi o idx).map fun q => q.1, fun o idx => (xlo yFi o idx).map fun q => q.1, fun o idx => (xlo (yGi fm) o idx).map fun q => q.1, 14, xlen, xbyt, xNw)
def xFk (o : Nat) (e : Nat × Nat × Nat × Nat) : Bool := match xcl[e.2.1]? with
  | none => false
  | some q => decide (e.2.2.1 < q.2.2) && xis e.2.2.2 (.fieldLink (xnmF o) e.1 (q.2.1 e.2.2.1).1 (q.2.1 e.2.2.1).2.1 (q.2.1 e.2.2.1).2.2.1) && decide ((q.2.1 e.2.2.1).1 = xnmF o)
def xLk (o : Nat) (e : Nat × Nat × Nat × Nat × Nat × Nat) : Bool := cond (Nat.beq e.2.1 4) (xis e.2.2.2.1 (.methodLink (xnmF o) e.1 objectInit)) (cond (Nat.beq e.2.1 6) (xis e.2.2.2.1 (.methodLink (xnmF o) e.1 Lib.Math.min.name) && xis e.2.2.2.2.1 (.static Lib.Math.min.name) && xis 18 (.initialized "java/lang/Math") && xis e.2.2.2.2.2 (.code Lib.Math.min.name Lib.Math.min.code 2 (some .int))) (cond (Nat.beq e.2.1 7) (xis e.2.2.2.1 (.methodLink (xnmF o) e.1 Lib.Math.max.name) && xis e.2.2.2.2.1 (.static Lib.Math.max.name) && xis 18 (.initialized "java/lang/Math") && xis e.2.2.2.2.2 (.code Lib.Math.max.name Lib.Math.max.code 2 (some .int))) (cond (Nat.beq e.2.1 8) (xis e.2.2.2.1 (.methodLink (xnmF o) e.1 Lib.MathLoose.min_long.x) && xis e.2.2.2.2.1 (.static Lib.MathLoose.min_long.x) && xis 18 (.initialized "java/lang/Math") && xis e.2.2.2.2.2 (.code Lib.MathLoose.min_long.x Lib.MathLoose.min_long.code 4 (some .long))) (match xMf e.2.2.1 with
  | none => false
  | some M => match e.2.1 with
    | 0 => xis e.2.2.2.1 (.methodLink (xnmF o) e.1 (xy M)) && xis e.2.2.2.2.1 (.instanceMethod (xy M)) && xis e.2.2.2.2.2 (.selects (xy M).cls (xy M) (xy M))
    | 1 => xis e.2.2.2.1 (.methodLink (xnmF o) e.1 (xy M)) && xis e.2.2.2.2.1 (.static (xy M))
    | 2 => xis e.2.2.2.1 (.methodLink (xnmF o) e.1 (xy M)) && xis e.2.2.2.2.1 (.instanceMethod (xy M)) && decide ((xy M).name = "<init>") && decide (xr M = none)
    | 3 => decide ((xnmF o, e.1, xy M, "TypedDescent") ∈ xNw) && xis e.2.2.2.2.1 (.instanceMethod (xy M)) && decide ((xy M).name = "<init>") && decide (xr M = none)
    | 5 => xis e.2.2.2.1 (.methodLink (xnmF o) e.1 (xy M)) && xis e.2.2.2.2.1 (.instanceMethod (xy M)) && xis e.2.2.2.2.2 (.selects (xy M).cls (xy M) (xy M)) && decide ((xy M).cls = "java/lang/String")
    | _ => false))))
def xCk (o : Nat) (e : Nat × Nat × Nat × Nat × Nat) : Bool := match xcl[e.2.1]? with
  | none => false
  | some q => xis e.2.2.1 (.classLink (xnmF o) e.1 q.1) && xis e.2.2.2.1 (.instantiable q.1 q.2.2) && xis e.2.2.2.2 (.initialized q.1)
def xKck (o : Nat) (e : Nat × Int32 × Nat) : Bool := xis e.2.2 (.constant (xnmF o) e.1 e.2.1)
def xKlk (o : Nat) (e : Nat × Int64 × Nat) : Bool := xis e.2.2 (.constantLong (xnmF o) e.1 e.2.1)
def yFk (o : Nat) (e : Nat × Nat × Nat) : Bool := match e.2.1 with
  | 0 => xis e.2.2 (.fieldLink (xnmF o) e.1 "java/lang/String" "value" "[B")
  | 1 => xis e.2.2 (.fieldLink (xnmF o) e.1 "java/lang/String" "coder" "B")
  | _ => false
def yGk (o : Nat) (e : Nat × (Value × String × String × String) × Nat) : Bool := xis e.2.2 (.fieldLink (xnmF o) e.1 e.2.1.2.1 e.2.1.2.2.1 e.2.1.2.2.2) && xok 0 e.2.1.1
def xWi : List (List Nat) := [[1231, 1233, 1235, 1237, 1239, 2001, 2003, 2005, 2007, 2009, 2011, 2013, 2015, 2017, 2019, 2021], [113, 115, 117, 119, 121, 123, 125, 127, 129, 131, 133, 135, 137, 139, 141, 143, 145, 147], [171, 173, 175, 177, 179, 181, 183, 185, 187, 189, 191], [203, 205, 207], [230, 232, 234, 236, 238, 1000, 1002, 1004, 1006, 1008, 1010, 1012, 1014, 1016], [1026], [1041, 1043, 1045, 1047, 1049, 1051], [1072, 1074, 1076, 1078, 1080, 1082, 1084, 1086, 1088, 1090, 1092, 1094], [1106, 1108, 1110], [1131, 1133, 1135, 1137, 1139, 1141, 1143, 1145, 1147, 1149, 1151, 1153], [1170, 1172, 1174, 1176, 1178, 1180, 1182, 1184], [1200, 1202, 1204, 1206, 1208, 1210, 1212], [8000, 8002, 8004, 8006, 8008, 8010, 8012, 8014, 8016, 8018, 8020, 8022, 8024, 8026, 8028, 8030, 8032, 8034, 8036, 8038, 8040, 8042, 8044, 8046, 8048, 8050, 8052, 8054, 8056, 8058, 8060, 8062, 8064, 8066, 8068, 8070, 8072, 8074, 8076, 8078, 8080, 8082, 8084, 8086, 8088, 8090, 8092, 8094, 8096, 8098, 8100, 8102, 8104, 8106, 8108, 8110, 8112, 8114, 8116, 8118, 8120, 8122, 8124, 8126, 8128, 8130, 8132, 8134, 8136, 8138, 8140, 8142, 8144, 8146, 8148, 8150, 8152, 8154, 8156, 8158, 8160, 8162, 8164, 8166, 8168, 8170, 8172, 8174, 8176, 8178, 8180, 8182, 8184, 8186, 8188, 8190, 8192, 8194, 8196, 8198, 8200, 8202, 8204, 8206, 8208, 8210, 8212, 8214, 8216, 8218, 8220, 8222, 8224, 8226, 8228, 8230, 8232, 8234, 8236, 8238, 9000, 9002, 9004, 9006, 9008, 9010, 9012, 9014, 9016, 9018, 9020, 9022, 9024, 9026, 9028, 9030, 9032, 9034, 9036, 9038, 9040, 9042, 9044, 9046]]
end
section
theorem zk_M : xMi.all xMk = true := by decide +kernel
theorem zk_F : (xFi.zipIdx.all fun q => q.1.all (xFk q.2)) = true := by decide +kernel
end
section
theorem zk_L : (xLnk.zipIdx.all fun q => q.1.all (xLk q.2)) = true := by decide +kernel
end
section
theorem zk_C : (xCi.zipIdx.all fun q => q.1.all (xCk q.2)) = true := by decide +kernel
theorem zk_Kc : (xKci.zipIdx.all fun q => q.1.all (xKck q.2)) = true := by decide +kernel
theorem zk_Kl : (xKli.zipIdx.all fun q => q.1.all (xKlk q.2)) = true := by decide +kernel
theorem zk_yF : (yFi.zipIdx.all fun q => q.1.all (yFk q.2)) = true := by decide +kernel
theorem zk_yG0 : ((yGi .null).zipIdx.all fun q => q.1.all (yGk q.2)) = true := by decide +kernel
theorem zk_yG1 : ((yGi (.ref 2000000)).zipIdx.all fun q => q.1.all (yGk q.2)) = true := by decide +kernel
def xCw (ci : Nat) (q : vw_C) : Bool := decide ((u_ws q.1 q.2.1 q.2.2).map some = (xWi.getD ci []).map xg)
def xCt (q : vw_C) : Bool := (List.range q.2.2).all fun k => (parseFieldDescriptor (q.2.1 k).2.2.1).isSome
theorem zk_Cw : (xcl.zipIdx.all fun q => xCw q.2 q.1) = true := by decide +kernel
theorem zk_Ct : xcl.all xCt = true := by decide +kernel
theorem zk_Nm : (xcl.zipIdx.all fun q => decide (q.1.1 = xnmF q.2)) = true := by decide +kernel
end
section
theorem zk_ob : xis 29 (.instanceMethod objectInit) = true ∧ xis 30 (.code objectInit ⟨#[0xb1]⟩ 1 none) = true := ⟨by decide +kernel, by decide +kernel⟩
theorem zk_arr : xis 151 (.arrayClass .int) = true ∧ xis 152 (.arrayClass .long) = true ∧ xis 150 (.arrayClass .byte) = true ∧ xis 9049 (.arrayClass .char) = true ∧ xis 9050 (.arrayClass .boolean) = true := ⟨by decide +kernel, by decide +kernel, by decide +kernel, by decide +kernel, by decide +kernel⟩
end
section
def xNd (q : vw_C) : Bool := decide (((List.range q.2.2).map fun k => (q.2.1 k).2.1).Nodup)
theorem zk_Nd : xcl.all xNd = true := by decide +kernel
end
section
theorem xall_zip {α : Type} {L : List α} {Q : α → Nat → Bool} (h : (L.zipIdx.all fun q => Q q.1 q.2) = true) {i : Nat} {a : α} (ha : L[i]? = some a) : Q a i = true :=
  List.all_eq_true.mp h (a, i) (List.mem_iff_getElem?.mpr ⟨i, by rw [List.getElem?_zipIdx, ha]; simp⟩)
theorem xMf_inv {j : Nat} {M : x_M} (h : xMf j = some M) : ∃ ix, xMi[j]? = some (ix, xo M, xa M, xmc M, xms M) ∧ xg ix = some (.code (xy M) (xb M) (xn M) (xr M)) := by
  unfold xMf at h
  split at h
  · cases h
  · rename_i hi
    split at h
    · rename_i hg
      cases h
      exact ⟨_, hi, hg⟩
    · cases h
set_option maxHeartbeats 4000000 in
theorem xZ_ok {fm : Value} (hfm : fm = .null ∨ fm = .ref 2000000) : xZok xZ (xY fm) xTs := by
  have hMM : ∀ j M, xMf j = some M → Cond.code (xy M) (xb M) (xn M) (xr M) ∈ xTs ∧ Cond.initialized (xy M).cls ∈ xTs ∧ plainName (xy M).cls = true ∧ (xy M).cls = xnmF (xo M) ∧ ((xy M).cls ≠ "java/lang/invoke/MethodHandle" ∧ (xy M).cls ≠ "java/lang/invoke/VarHandle" ∧ (parseMethodDescriptor (xy M).desc).map (fun d => d.parameters.length) = some (xa M)) ∧ xn M ≤ 45 := by
    intro j M h
    obtain ⟨ix, h1, h2⟩ := xMf_inv h
    have h3 := List.all_eq_true.mp zk_M _ (List.mem_of_getElem? h1)
    simp only [xMk, h2, Bool.and_eq_true, decide_eq_true_eq] at h3
    obtain ⟨⟨⟨⟨⟨⟨g1, g2⟩, g3⟩, g4⟩, g5⟩, g6⟩, g7⟩ := h3
    exact ⟨xtm h2 rfl, xis_mem g1, g2, g3, ⟨g4, g5, g6⟩, g7⟩
  refine ⟨?_, ?_, ?_, ?_, ?_, hMM, ?_, ?_, ?_, ⟨xis_mem zk_ob.1, xis_mem zk_ob.2⟩, ⟨xis_mem zk_arr.1, xis_mem zk_arr.2.1, xis_mem zk_arr.2.2.1, xis_mem zk_arr.2.2.2.1, xis_mem zk_arr.2.2.2.2⟩, fun w hw => (List.mem_filter.mp hw).2, ?_, ?_, ?_⟩
  · intro ci q hq
    have hw := xall_zip (Q := fun a i => xCw i a) zk_Cw hq
    have ht := List.all_eq_true.mp zk_Ct q (List.mem_of_getElem? hq)
    have hn := List.all_eq_true.mp zk_Nd q (List.mem_of_getElem? hq)
    have hw := of_decide_eq_true hw
    have hn := of_decide_eq_true hn
    refine ⟨fun w h => ?_, fun k hk => ?_, fun a ha b hb hab => ?_⟩
    · have h1 : some w ∈ (u_ws q.1 q.2.1 q.2.2).map some := List.mem_map.mpr ⟨w, h, rfl⟩
      rw [hw] at h1
      obtain ⟨i, -, hi⟩ := List.mem_map.mp h1
      refine xtm hi ?_
      obtain ⟨k, -, rfl⟩ := List.mem_map.mp h
      unfold u_lay
      split <;> rfl
    · have := List.all_eq_true.mp ht k (List.mem_range.mpr hk)
      unfold xty
      cases hp : parseFieldDescriptor (q.2.1 k).2.2.1 with
      | none => rw [hp] at this; cases this
      | some t => rfl
    · intro e
      have hla : a < ((List.range q.2.2).map fun k => (q.2.1 k).2.1).length := by simpa using ha
      have hlb : b < ((List.range q.2.2).map fun k => (q.2.1 k).2.1).length := by simpa using hb
      have hp := List.pairwise_iff_getElem.mp hn
      rcases Nat.lt_or_gt_of_ne hab with h | h
      · exact hp a b hla hlb h (by simpa using e)
      · exact hp b a hlb hla h (by simpa using e.symm)
  · intro o idx ci k h
    obtain ⟨⟨c1, k1, i1⟩, h1, h2⟩ := Option.map_eq_some_iff.mp h
    cases h2
    have h3 := xlo_all h1 zk_F
    unfold xFk at h3
    dsimp only at h3
    split at h3
    · cases h3
    · rename_i q hq
      simp only [Bool.and_eq_true, decide_eq_true_eq] at h3
      exact ⟨q, hq, h3.1.1, xis_mem h3.1.2, h3.2⟩
  · intro o idx v h
    obtain ⟨⟨c1, i1⟩, h1, h2⟩ := Option.map_eq_some_iff.mp h
    cases h2
    exact xis_mem (xlo_all h1 zk_Kc)
  · intro o idx v h
    obtain ⟨⟨c1, i1⟩, h1, h2⟩ := Option.map_eq_some_iff.mp h
    cases h2
    exact xis_mem (xlo_all h1 zk_Kl)
  · intro o idx ci h
    obtain ⟨⟨c1, i1, i2, i3⟩, h1, h2⟩ := Option.map_eq_some_iff.mp h
    cases h2
    have h3 := xlo_all h1 zk_C
    unfold xCk at h3
    dsimp only at h3
    split at h3
    · cases h3
    · rename_i q hq
      simp only [Bool.and_eq_true] at h3
      exact ⟨q, hq, xis_mem h3.1.1, xis_mem h3.1.2, xis_mem h3.2⟩
  · intro o idx j kd M h hM
    obtain ⟨⟨k1, j1, i1, i2, i3⟩, h1, h2⟩ := Option.map_eq_some_iff.mp h
    cases h2
    have h3 := xlo_all h1 zk_L
    have hM' : xMf j1 = some M := hM
    refine ⟨fun e => ?_, fun e => ?_, fun e => ?_, fun e => ?_, fun e => ?_⟩
    · subst e
      simp only [xLk, hM', Nat.beq, cond_false, Bool.and_eq_true] at h3
      exact ⟨xis_mem h3.1.1, xis_mem h3.1.2, xis_mem h3.2⟩
    · subst e
      simp only [xLk, hM', Nat.beq, cond_false, Bool.and_eq_true] at h3
      exact ⟨xis_mem h3.1, xis_mem h3.2⟩
    · subst e
      simp only [xLk, hM', Nat.beq, cond_false, Bool.and_eq_true, decide_eq_true_eq] at h3
      exact ⟨xis_mem h3.1.1.1, xis_mem h3.1.1.2, h3.1.2, h3.2⟩
    · subst e
      simp only [xLk, hM', Nat.beq, cond_false, Bool.and_eq_true, decide_eq_true_eq] at h3
      exact ⟨⟨_, h3.1.1.1⟩, xis_mem h3.1.1.2, h3.1.2, h3.2⟩
    · subst e
      simp only [xLk, hM', Nat.beq, cond_false, Bool.and_eq_true, decide_eq_true_eq] at h3
      exact ⟨xis_mem h3.1.1.1, xis_mem h3.1.1.2, xis_mem h3.1.2, h3.2⟩
  · intro o idx j kd h
    obtain ⟨⟨k1, j1, i1, i2, i3⟩, h1, h2⟩ := Option.map_eq_some_iff.mp h
    cases h2
    have h3 := xlo_all h1 zk_L
    refine ⟨fun e => ?_, fun e => ?_, fun e => ?_⟩
    · subst e
      simp only [xLk, Nat.beq, cond_false, cond_true, Bool.and_eq_true] at h3
      exact ⟨xis_mem h3.1.1.1, xis_mem h3.1.1.2, xis_mem h3.1.2, xis_mem h3.2⟩
    · subst e
      simp only [xLk, Nat.beq, cond_false, cond_true, Bool.and_eq_true] at h3
      exact ⟨xis_mem h3.1.1.1, xis_mem h3.1.1.2, xis_mem h3.1.2, xis_mem h3.2⟩
    · subst e
      simp only [xLk, Nat.beq, cond_false, cond_true, Bool.and_eq_true] at h3
      exact ⟨xis_mem h3.1.1.1, xis_mem h3.1.1.2, xis_mem h3.1.2, xis_mem h3.2⟩
  · intro o idx j h
    obtain ⟨⟨k1, j1, i1, i2, i3⟩, h1, h2⟩ := Option.map_eq_some_iff.mp h
    cases h2
    have h3 := xlo_all h1 zk_L
    simp only [xLk, Nat.beq, cond_true] at h3
    exact xis_mem h3
  · intro o q hq
    exact of_decide_eq_true (xall_zip (Q := fun a i => decide (a.1 = xnmF i)) zk_Nm hq)
  · intro o idx k h
    obtain ⟨⟨c1, i1⟩, h1, h2⟩ := Option.map_eq_some_iff.mp h
    cases h2
    have h3 := xlo_all h1 zk_yF
    refine ⟨fun e => ?_, fun e => ?_⟩
    · subst e
      exact xis_mem h3
    · subst e
      exact xis_mem h3
  · intro o idx g h
    obtain ⟨⟨g1, i1⟩, h1, h2⟩ := Option.map_eq_some_iff.mp h
    cases h2
    rcases hfm with rfl | rfl
    · have h3 := xlo_all h1 zk_yG0
      simp only [yGk, Bool.and_eq_true] at h3
      exact ⟨xis_mem h3.1, h3.2⟩
    · have h3 := xlo_all h1 zk_yG1
      simp only [yGk, Bool.and_eq_true] at h3
      exact ⟨xis_mem h3.1, h3.2⟩
end
section
def xdf (ci : Nat) : x_E := match xcl[ci]? with
  | some q => .inr (ci, (List.range q.2.2).map fun k => defaultValue (xty q k))
  | none => .inr (ci, [])
def xgo (fm : Value) (f d j : Nat) (hp : List x_E) (avs : List Value) : Option (Option Value × List x_E) := match xMf j with
  | none => none
  | some M => srun xZ (xY fm) f d M 0 (lv_args 0 avs) [] hp 0 0
end
section
def xdc (pc : Nat) (v : Instr × Nat) : Bool := match decode prog_14_method_1_code pc with
  | .ok w => decide (w = v)
  | .error _ => false
set_option maxRecDepth 100000 in
def iT0 : List (Nat × Instr × Nat) := [(0, .aload_n 0, 1), (1, .invokespecial 1, 3), (4, .aload_n 0, 1), (5, .sipush 6000, 3), (8, .newarray .int, 2), (10, .putfield 7, 3), (13, .aload_n 0, 1), (14, .sipush 6000, 3), (17, .newarray .int, 2), (19, .putfield 13, 3), (22, .aload_n 0, 1), (23, .iconst (-1), 1), (24, .putfield 16, 3), (27, .aload_n 0, 1), (28, .bipush 31, 2), (30, .newarray .char, 2), (32, .dup, 1), (33, .iconst 0, 1), (34, .bipush 105, 2), (36, .castore, 1), (37, .dup, 1), (38, .iconst 1, 1), (39, .bipush 110, 2), (41, .castore, 1), (42, .dup, 1), (43, .iconst 2, 1), (44, .bipush 116, 2), (46, .castore, 1), (47, .dup, 1), (48, .iconst 3, 1), (49, .bipush 32, 2), (51, .castore, 1), (52, .dup, 1), (53, .iconst 4, 1), (54, .bipush 97, 2), (56, .castore, 1), (57, .dup, 1), (58, .iconst 5, 1), (59, .bipush 108, 2), (61, .castore, 1), (62, .dup, 1), (63, .bipush 6, 2), (65, .bipush 108, 2), (67, .castore, 1), (68, .dup, 1), (69, .bipush 7, 2), (71, .bipush 32, 2), (73, .castore, 1), (74, .dup, 1), (75, .bipush 8, 2), (77, .bipush 102, 2), (79, .castore, 1), (80, .dup, 1), (81, .bipush 9, 2), (83, .bipush 117, 2), (85, .castore, 1), (86, .dup, 1), (87, .bipush 10, 2), (89, .bipush 110, 2), (91, .castore, 1)]
theorem iT0_ok : iT0.all (fun q => xdc q.1 q.2) = true := by decide +kernel
set_option maxRecDepth 100000 in
def iT1 : List (Nat × Instr × Nat) := [(92, .dup, 1), (93, .bipush 11, 2), (95, .bipush 32, 2), (97, .castore, 1), (98, .dup, 1), (99, .bipush 12, 2), (101, .bipush 102, 2), (103, .castore, 1), (104, .dup, 1), (105, .bipush 13, 2), (107, .bipush 105, 2), (109, .castore, 1), (110, .dup, 1), (111, .bipush 14, 2), (113, .bipush 120, 2), (115, .castore, 1), (116, .dup, 1), (117, .bipush 15, 2), (119, .bipush 32, 2), (121, .castore, 1), (122, .dup, 1), (123, .bipush 16, 2), (125, .bipush 116, 2), (127, .castore, 1), (128, .dup, 1), (129, .bipush 17, 2), (131, .bipush 121, 2), (133, .castore, 1), (134, .dup, 1), (135, .bipush 18, 2), (137, .bipush 112, 2), (139, .castore, 1), (140, .dup, 1), (141, .bipush 19, 2), (143, .bipush 32, 2), (145, .castore, 1), (146, .dup, 1), (147, .bipush 20, 2), (149, .bipush 108, 2), (151, .castore, 1), (152, .dup, 1), (153, .bipush 21, 2), (155, .bipush 101, 2), (157, .castore, 1), (158, .dup, 1), (159, .bipush 22, 2), (161, .bipush 116, 2), (163, .castore, 1), (164, .dup, 1), (165, .bipush 23, 2), (167, .bipush 32, 2), (169, .castore, 1), (170, .dup, 1), (171, .bipush 24, 2), (173, .bipush 105, 2), (175, .castore, 1), (176, .dup, 1), (177, .bipush 25, 2), (179, .bipush 110, 2), (181, .castore, 1)]
theorem iT1_ok : iT1.all (fun q => xdc q.1 q.2) = true := by decide +kernel
set_option maxRecDepth 100000 in
def iT2 : List (Nat × Instr × Nat) := [(182, .dup, 1), (183, .bipush 26, 2), (185, .bipush 32, 2), (187, .castore, 1), (188, .dup, 1), (189, .bipush 27, 2), (191, .bipush 105, 2), (193, .castore, 1), (194, .dup, 1), (195, .bipush 28, 2), (197, .bipush 102, 2), (199, .castore, 1), (200, .dup, 1), (201, .bipush 29, 2), (203, .bipush 48, 2), (205, .castore, 1), (206, .dup, 1), (207, .bipush 30, 2), (209, .bipush 32, 2), (211, .castore, 1), (212, .putfield 20, 3), (215, .aload_n 0, 1), (216, .bipush 71, 2), (218, .newarray .char, 2), (220, .dup, 1), (221, .iconst 0, 1), (222, .bipush 105, 2), (224, .castore, 1), (225, .dup, 1), (226, .iconst 1, 1), (227, .bipush 110, 2), (229, .castore, 1), (230, .dup, 1), (231, .iconst 2, 1), (232, .bipush 116, 2), (234, .castore, 1), (235, .dup, 1), (236, .iconst 3, 1), (237, .bipush 32, 2), (239, .castore, 1), (240, .dup, 1), (241, .iconst 4, 1), (242, .bipush 99, 2), (244, .castore, 1), (245, .dup, 1), (246, .iconst 5, 1), (247, .bipush 111, 2), (249, .castore, 1), (250, .dup, 1), (251, .bipush 6, 2), (253, .bipush 100, 2), (255, .castore, 1), (256, .dup, 1), (257, .bipush 7, 2), (259, .bipush 101, 2), (261, .castore, 1), (262, .dup, 1), (263, .bipush 8, 2), (265, .bipush 32, 2), (267, .castore, 1)]
theorem iT2_ok : iT2.all (fun q => xdc q.1 q.2) = true := by decide +kernel
set_option maxRecDepth 100000 in
def iT3 : List (Nat × Instr × Nat) := [(268, .dup, 1), (269, .bipush 9, 2), (271, .bipush 115, 2), (273, .castore, 1), (274, .dup, 1), (275, .bipush 10, 2), (277, .bipush 111, 2), (279, .castore, 1), (280, .dup, 1), (281, .bipush 11, 2), (283, .bipush 109, 2), (285, .castore, 1), (286, .dup, 1), (287, .bipush 12, 2), (289, .bipush 101, 2), (291, .castore, 1), (292, .dup, 1), (293, .bipush 13, 2), (295, .bipush 32, 2), (297, .castore, 1), (298, .dup, 1), (299, .bipush 14, 2), (301, .bipush 112, 2), (303, .castore, 1), (304, .dup, 1), (305, .bipush 15, 2), (307, .bipush 97, 2), (309, .castore, 1), (310, .dup, 1), (311, .bipush 16, 2), (313, .bipush 99, 2), (315, .castore, 1), (316, .dup, 1), (317, .bipush 17, 2), (319, .bipush 107, 2), (321, .castore, 1), (322, .dup, 1), (323, .bipush 18, 2), (325, .bipush 32, 2), (327, .castore, 1), (328, .dup, 1), (329, .bipush 19, 2), (331, .bipush 97, 2), (333, .castore, 1), (334, .dup, 1), (335, .bipush 20, 2), (337, .bipush 115, 2), (339, .castore, 1), (340, .dup, 1), (341, .bipush 21, 2), (343, .bipush 32, 2), (345, .castore, 1), (346, .dup, 1), (347, .bipush 22, 2), (349, .bipush 109, 2), (351, .castore, 1), (352, .dup, 1), (353, .bipush 23, 2), (355, .bipush 111, 2), (357, .castore, 1)]
theorem iT3_ok : iT3.all (fun q => xdc q.1 q.2) = true := by decide +kernel
end
section
set_option maxRecDepth 100000 in
def iT4 : List (Nat × Instr × Nat) := [(358, .dup, 1), (359, .bipush 24, 2), (361, .bipush 118, 2), (363, .castore, 1), (364, .dup, 1), (365, .bipush 25, 2), (367, .bipush 32, 2), (369, .castore, 1), (370, .dup, 1), (371, .bipush 26, 2), (373, .bipush 97, 2), (375, .castore, 1), (376, .dup, 1), (377, .bipush 27, 2), (379, .bipush 100, 2), (381, .castore, 1), (382, .dup, 1), (383, .bipush 28, 2), (385, .bipush 100, 2), (387, .castore, 1), (388, .dup, 1), (389, .bipush 29, 2), (391, .bipush 32, 2), (393, .castore, 1), (394, .dup, 1), (395, .bipush 30, 2), (397, .bipush 115, 2), (399, .castore, 1), (400, .dup, 1), (401, .bipush 31, 2), (403, .bipush 117, 2), (405, .castore, 1), (406, .dup, 1), (407, .bipush 32, 2), (409, .bipush 98, 2), (411, .castore, 1), (412, .dup, 1), (413, .bipush 33, 2), (415, .bipush 32, 2), (417, .castore, 1), (418, .dup, 1), (419, .bipush 34, 2), (421, .bipush 109, 2), (423, .castore, 1), (424, .dup, 1), (425, .bipush 35, 2), (427, .bipush 117, 2), (429, .castore, 1), (430, .dup, 1), (431, .bipush 36, 2), (433, .bipush 108, 2), (435, .castore, 1), (436, .dup, 1), (437, .bipush 37, 2), (439, .bipush 32, 2), (441, .castore, 1), (442, .dup, 1), (443, .bipush 38, 2), (445, .bipush 108, 2), (447, .castore, 1)]
theorem iT4_ok : iT4.all (fun q => xdc q.1 q.2) = true := by decide +kernel
set_option maxRecDepth 100000 in
def iT5 : List (Nat × Instr × Nat) := [(448, .dup, 1), (449, .bipush 39, 2), (451, .bipush 100, 2), (453, .castore, 1), (454, .dup, 1), (455, .bipush 40, 2), (457, .bipush 32, 2), (459, .castore, 1), (460, .dup, 1), (461, .bipush 41, 2), (463, .bipush 115, 2), (465, .castore, 1), (466, .dup, 1), (467, .bipush 42, 2), (469, .bipush 116, 2), (471, .castore, 1), (472, .dup, 1), (473, .bipush 43, 2), (475, .bipush 32, 2), (477, .castore, 1), (478, .dup, 1), (479, .bipush 44, 2), (481, .bipush 109, 2), (483, .castore, 1), (484, .dup, 1), (485, .bipush 45, 2), (487, .bipush 97, 2), (489, .castore, 1), (490, .dup, 1), (491, .bipush 46, 2), (493, .bipush 108, 2), (495, .castore, 1), (496, .dup, 1), (497, .bipush 47, 2), (499, .bipush 108, 2), (501, .castore, 1), (502, .dup, 1), (503, .bipush 48, 2), (505, .bipush 111, 2), (507, .castore, 1), (508, .dup, 1), (509, .bipush 49, 2), (511, .bipush 99, 2), (513, .castore, 1), (514, .dup, 1), (515, .bipush 50, 2), (517, .bipush 32, 2), (519, .castore, 1), (520, .dup, 1), (521, .bipush 51, 2), (523, .bipush 98, 2), (525, .castore, 1), (526, .dup, 1), (527, .bipush 52, 2), (529, .bipush 110, 2), (531, .castore, 1), (532, .dup, 1), (533, .bipush 53, 2), (535, .bipush 122, 2), (537, .castore, 1)]
theorem iT5_ok : iT5.all (fun q => xdc q.1 q.2) = true := by decide +kernel
set_option maxRecDepth 100000 in
def iT6 : List (Nat × Instr × Nat) := [(538, .dup, 1), (539, .bipush 54, 2), (541, .bipush 32, 2), (543, .castore, 1), (544, .dup, 1), (545, .bipush 55, 2), (547, .bipush 117, 2), (549, .castore, 1), (550, .dup, 1), (551, .bipush 56, 2), (553, .bipush 110, 2), (555, .castore, 1), (556, .dup, 1), (557, .bipush 57, 2), (559, .bipush 112, 2), (561, .castore, 1), (562, .dup, 1), (563, .bipush 58, 2), (565, .bipush 97, 2), (567, .castore, 1), (568, .dup, 1), (569, .bipush 59, 2), (571, .bipush 99, 2), (573, .castore, 1), (574, .dup, 1), (575, .bipush 60, 2), (577, .bipush 107, 2), (579, .castore, 1), (580, .dup, 1), (581, .bipush 61, 2), (583, .bipush 32, 2), (585, .castore, 1), (586, .dup, 1), (587, .bipush 62, 2), (589, .bipush 106, 2), (591, .castore, 1), (592, .dup, 1), (593, .bipush 63, 2), (595, .bipush 109, 2), (597, .castore, 1), (598, .dup, 1), (599, .bipush 64, 2), (601, .bipush 112, 2), (603, .castore, 1), (604, .dup, 1), (605, .bipush 65, 2), (607, .bipush 32, 2), (609, .castore, 1), (610, .dup, 1), (611, .bipush 66, 2), (613, .bipush 104, 2), (615, .castore, 1), (616, .dup, 1), (617, .bipush 67, 2), (619, .bipush 97, 2), (621, .castore, 1), (622, .dup, 1), (623, .bipush 68, 2), (625, .bipush 108, 2), (627, .castore, 1)]
theorem iT6_ok : iT6.all (fun q => xdc q.1 q.2) = true := by decide +kernel
set_option maxRecDepth 100000 in
def iT7 : List (Nat × Instr × Nat) := [(628, .dup, 1), (629, .bipush 69, 2), (631, .bipush 116, 2), (633, .castore, 1), (634, .dup, 1), (635, .bipush 70, 2), (637, .bipush 32, 2), (639, .castore, 1), (640, .putfield 24, 3), (643, .aload_n 0, 1), (644, .bipush 18, 2), (646, .newarray .char, 2), (648, .dup, 1), (649, .iconst 0, 1), (650, .bipush 46, 2), (652, .castore, 1), (653, .dup, 1), (654, .iconst 1, 1), (655, .bipush 58, 2), (657, .castore, 1), (658, .dup, 1), (659, .iconst 2, 1), (660, .bipush 44, 2), (662, .castore, 1), (663, .dup, 1), (664, .iconst 3, 1), (665, .bipush 59, 2), (667, .castore, 1), (668, .dup, 1), (669, .iconst 4, 1), (670, .bipush 40, 2), (672, .castore, 1), (673, .dup, 1), (674, .iconst 5, 1), (675, .bipush 41, 2), (677, .castore, 1), (678, .dup, 1), (679, .bipush 6, 2), (681, .bipush 91, 2), (683, .castore, 1), (684, .dup, 1), (685, .bipush 7, 2), (687, .bipush 93, 2), (689, .castore, 1), (690, .dup, 1), (691, .bipush 8, 2), (693, .bipush 123, 2), (695, .castore, 1), (696, .dup, 1), (697, .bipush 9, 2), (699, .bipush 125, 2), (701, .castore, 1), (702, .dup, 1), (703, .bipush 10, 2), (705, .bipush 60, 2), (707, .castore, 1), (708, .dup, 1), (709, .bipush 11, 2), (711, .bipush 62, 2), (713, .castore, 1)]
theorem iT7_ok : iT7.all (fun q => xdc q.1 q.2) = true := by decide +kernel
end
section
set_option maxRecDepth 100000 in
def iT8 : List (Nat × Instr × Nat) := [(714, .dup, 1), (715, .bipush 12, 2), (717, .bipush 35, 2), (719, .castore, 1), (720, .dup, 1), (721, .bipush 13, 2), (723, .bipush 43, 2), (725, .castore, 1), (726, .dup, 1), (727, .bipush 14, 2), (729, .bipush 45, 2), (731, .castore, 1), (732, .dup, 1), (733, .bipush 15, 2), (735, .bipush 42, 2), (737, .castore, 1), (738, .dup, 1), (739, .bipush 16, 2), (741, .bipush 61, 2), (743, .castore, 1), (744, .dup, 1), (745, .bipush 17, 2), (747, .bipush 63, 2), (749, .castore, 1), (750, .putfield 27, 3), (753, .aload_n 0, 1), (754, .ldc 30, 2), (756, .newarray .int, 2), (758, .putfield 31, 3), (761, .aload_n 0, 1), (762, .sipush 1300, 3), (765, .newarray .int, 2), (767, .putfield 34, 3), (770, .aload_n 0, 1), (771, .sipush 1300, 3), (774, .newarray .int, 2), (776, .putfield 37, 3), (779, .aload_n 0, 1), (780, .bipush 100, 2), (782, .newarray .int, 2), (784, .putfield 40, 3), (787, .aload_n 0, 1), (788, .bipush 64, 2), (790, .newarray .long, 2), (792, .putfield 43, 3), (795, .aload_n 0, 1), (796, .bipush 64, 2), (798, .newarray .int, 2), (800, .putfield 47, 3), (803, .aload_n 0, 1), (804, .bipush 64, 2), (806, .newarray .int, 2), (808, .putfield 50, 3), (811, .aload_n 0, 1), (812, .sipush 4000, 3), (815, .newarray .int, 2), (817, .putfield 53, 3), (820, .aload_n 0, 1), (821, .sipush 4000, 3), (824, .newarray .int, 2)]
theorem iT8_ok : iT8.all (fun q => xdc q.1 q.2) = true := by decide +kernel
set_option maxRecDepth 100000 in
def iT9 : List (Nat × Instr × Nat) := [(826, .putfield 56, 3), (829, .aload_n 0, 1), (830, .sipush 4000, 3), (833, .newarray .int, 2), (835, .putfield 59, 3), (838, .aload_n 0, 1), (839, .sipush 4000, 3), (842, .newarray .int, 2), (844, .putfield 62, 3), (847, .aload_n 0, 1), (848, .sipush 4000, 3), (851, .newarray .long, 2), (853, .putfield 65, 3), (856, .aload_n 0, 1), (857, .sipush 900, 3), (860, .newarray .int, 2), (862, .putfield 68, 3), (865, .aload_n 0, 1), (866, .sipush 900, 3), (869, .newarray .int, 2), (871, .putfield 71, 3), (874, .aload_n 0, 1), (875, .sipush 900, 3), (878, .newarray .int, 2), (880, .putfield 74, 3), (883, .aload_n 0, 1), (884, .sipush 900, 3), (887, .newarray .long, 2), (889, .putfield 77, 3), (892, .aload_n 0, 1), (893, .sipush 900, 3), (896, .newarray .boolean, 2), (898, .putfield 80, 3), (901, .aload_n 0, 1), (902, .bipush 80, 2), (904, .newarray .long, 2), (906, .putfield 84, 3), (909, .aload_n 0, 1), (910, .bipush 80, 2), (912, .newarray .int, 2), (914, .putfield 87, 3), (917, .aload_n 0, 1), (918, .bipush 80, 2), (920, .newarray .int, 2), (922, .putfield 90, 3), (925, .aload_n 0, 1), (926, .sipush 400, 3), (929, .newarray .int, 2), (931, .putfield 93, 3), (934, .aload_n 0, 1), (935, .sipush 2000, 3), (938, .newarray .int, 2), (940, .putfield 96, 3), (943, .aload_n 0, 1), (944, .sipush 21000, 3), (947, .newarray .int, 2), (949, .putfield 99, 3), (952, .aload_n 0, 1), (953, .ldc 102, 2), (955, .newarray .int, 2)]
theorem iT9_ok : iT9.all (fun q => xdc q.1 q.2) = true := by decide +kernel
set_option maxRecDepth 100000 in
def iT10 : List (Nat × Instr × Nat) := [(957, .putfield 103, 3), (960, .aload_n 0, 1), (961, .sipush 6800, 3), (964, .newarray .int, 2), (966, .putfield 106, 3), (969, .aload_n 0, 1), (970, .ldc 109, 2), (972, .newarray .int, 2), (974, .putfield 110, 3), (977, .aload_n 0, 1), (978, .sipush 4000, 3), (981, .newarray .int, 2), (983, .putfield 113, 3), (986, .aload_n 0, 1), (987, .sipush 1000, 3), (990, .newarray .int, 2), (992, .putfield 116, 3), (995, .aload_n 0, 1), (996, .sipush 1000, 3), (999, .newarray .int, 2), (1001, .putfield 119, 3), (1004, .aload_n 0, 1), (1005, .sipush 1000, 3), (1008, .newarray .boolean, 2), (1010, .putfield 122, 3), (1013, .aload_n 0, 1), (1014, .bipush 8, 2), (1016, .newarray .int, 2), (1018, .putfield 125, 3), (1021, .aload_n 0, 1), (1022, .ldc 30, 2), (1024, .newarray .int, 2), (1026, .putfield 128, 3), (1029, .aload_n 0, 1), (1030, .ldc 30, 2), (1032, .newarray .int, 2), (1034, .putfield 131, 3), (1037, .aload_n 0, 1), (1038, .ldc 30, 2), (1040, .newarray .int, 2), (1042, .putfield 134, 3), (1045, .aload_n 0, 1), (1046, .ldc 30, 2), (1048, .newarray .int, 2), (1050, .putfield 137, 3), (1053, .aload_n 0, 1), (1054, .ldc 30, 2), (1056, .newarray .int, 2), (1058, .putfield 140, 3), (1061, .aload_n 0, 1), (1062, .ldc 30, 2), (1064, .newarray .int, 2), (1066, .putfield 143, 3), (1069, .aload_n 0, 1), (1070, .ldc 146, 2), (1072, .newarray .int, 2), (1074, .putfield 147, 3), (1077, .aload_n 0, 1), (1078, .sipush 1400, 3), (1081, .newarray .long, 2)]
theorem iT10_ok : iT10.all (fun q => xdc q.1 q.2) = true := by decide +kernel
set_option maxRecDepth 100000 in
def iT11 : List (Nat × Instr × Nat) := [(1083, .putfield 150, 3), (1086, .aload_n 0, 1), (1087, .sipush 1400, 3), (1090, .newarray .int, 2), (1092, .putfield 153, 3), (1095, .aload_n 0, 1), (1096, .sipush 1400, 3), (1099, .newarray .int, 2), (1101, .putfield 156, 3), (1104, .aload_n 0, 1), (1105, .sipush 1400, 3), (1108, .newarray .int, 2), (1110, .putfield 159, 3), (1113, .aload_n 0, 1), (1114, .sipush 1400, 3), (1117, .newarray .int, 2), (1119, .putfield 162, 3), (1122, .aload_n 0, 1), (1123, .ldc 30, 2), (1125, .newarray .int, 2), (1127, .putfield 165, 3), (1130, .aload_n 0, 1), (1131, .ldc 30, 2), (1133, .newarray .int, 2), (1135, .putfield 168, 3), (1138, .aload_n 0, 1), (1139, .sipush 3000, 3), (1142, .newarray .int, 2), (1144, .putfield 171, 3), (1147, .aload_n 0, 1), (1148, .sipush 3000, 3), (1151, .newarray .int, 2), (1153, .putfield 174, 3), (1156, .aload_n 0, 1), (1157, .sipush 3000, 3), (1160, .newarray .int, 2), (1162, .putfield 177, 3), (1165, .aload_n 0, 1), (1166, .sipush 3000, 3), (1169, .newarray .int, 2), (1171, .putfield 180, 3), (1174, .aload_n 0, 1), (1175, .sipush 1400, 3), (1178, .newarray .int, 2), (1180, .putfield 183, 3), (1183, .aload_n 0, 1), (1184, .sipush 1400, 3), (1187, .newarray .int, 2), (1189, .putfield 186, 3), (1192, .aload_n 0, 1), (1193, .bipush 41, 2), (1195, .newarray .long, 2), (1197, .putfield 189, 3), (1200, .aload_n 0, 1), (1201, .bipush 41, 2), (1203, .newarray .int, 2), (1205, .putfield 192, 3), (1208, .aload_n 0, 1), (1209, .bipush 41, 2), (1211, .newarray .int, 2)]
theorem iT11_ok : iT11.all (fun q => xdc q.1 q.2) = true := by decide +kernel
set_option maxRecDepth 100000 in
def iT12 : List (Nat × Instr × Nat) := [(1213, .putfield 195, 3), (1216, .aload_n 0, 1), (1217, .bipush 41, 2), (1219, .newarray .int, 2), (1221, .putfield 198, 3), (1224, .aload_n 0, 1), (1225, .bipush 41, 2), (1227, .newarray .int, 2), (1229, .putfield 201, 3), (1232, .aload_n 0, 1), (1233, .sipush 700, 3), (1236, .newarray .int, 2), (1238, .putfield 204, 3), (1241, .aload_n 0, 1), (1242, .sipush 700, 3), (1245, .newarray .int, 2), (1247, .putfield 207, 3), (1250, .aload_n 0, 1), (1251, .sipush 700, 3), (1254, .newarray .int, 2), (1256, .putfield 210, 3), (1259, .aload_n 0, 1), (1260, .sipush 700, 3), (1263, .newarray .int, 2), (1265, .putfield 213, 3), (1268, .aload_n 0, 1), (1269, .sipush 700, 3), (1272, .newarray .int, 2), (1274, .putfield 216, 3), (1277, .aload_n 0, 1), (1278, .sipush 700, 3), (1281, .newarray .int, 2), (1283, .putfield 219, 3), (1286, .aload_n 0, 1), (1287, .sipush 700, 3), (1290, .newarray .int, 2), (1292, .putfield 222, 3), (1295, .aload_n 0, 1), (1296, .bipush 16, 2), (1298, .newarray .int, 2), (1300, .putfield 225, 3), (1303, .aload_n 0, 1), (1304, .sipush 24000, 3), (1307, .newarray .int, 2), (1309, .putfield 228, 3), (1312, .aload_n 0, 1), (1313, .bipush 16, 2), (1315, .newarray .int, 2), (1317, .putfield 231, 3), (1320, .aload_n 0, 1), (1321, .sipush 20001, 3), (1324, .newarray .int, 2), (1326, .putfield 234, 3), (1329, .return_, 1)]
theorem iT12_ok : iT12.all (fun q => xdc q.1 q.2) = true := by decide +kernel
end
section
def iTs : List (Nat × Instr × Nat) := iT0 ++ (iT1 ++ (iT2 ++ (iT3 ++ (iT4 ++ (iT5 ++ (iT6 ++ (iT7 ++ (iT8 ++ (iT9 ++ (iT10 ++ (iT11 ++ iT12)))))))))))
theorem iTs_ok : ∀ q ∈ iTs, decode prog_14_method_1_code q.1 = .ok q.2 := by
  intro q hq
  have key : ∀ (l : List (Nat × Instr × Nat)), l.all (fun q => xdc q.1 q.2) = true → q ∈ l → decode prog_14_method_1_code q.1 = .ok q.2 := by
    intro l hl h
    have h1 := List.all_eq_true.mp hl q h
    unfold xdc at h1
    split at h1
    · rename_i w hw
      rw [hw, of_decide_eq_true h1]
    · cases h1
  simp only [iTs, List.mem_append] at hq
  rcases hq with h | h | h | h | h | h | h | h | h | h | h | h | h
  · exact key _ iT0_ok h
  · exact key _ iT1_ok h
  · exact key _ iT2_ok h
  · exact key _ iT3_ok h
  · exact key _ iT4_ok h
  · exact key _ iT5_ok h
  · exact key _ iT6_ok h
  · exact key _ iT7_ok h
  · exact key _ iT8_ok h
  · exact key _ iT9_ok h
  · exact key _ iT10_ok h
  · exact key _ iT11_ok h
  · exact key _ iT12_ok h
def xgoL (fm : Value) (d j : Nat) (l : List (Nat × Instr × Nat)) (hp : List x_E) (avs : List Value) : Option (Option Value × List x_E) := match xMf j with
  | none => none
  | some M => irun xZ (xY fm) l d M 0 (lv_args 0 avs) [] hp 0 0
end
section
/-- a cell without what an array holds: whether it holds ints -/
abbrev x_S : Type := (Nat × Nat × Bool) ⊕ (Nat × List Value)
def xsh : x_E → x_S
  | .inl (t, n, .inl _) => .inl (t, n, true)
  | .inl (t, n, _) => .inl (t, n, false)
  | .inr o => .inr o
def xgd : x_E → Bool
  | .inl (_, _, .inl _) => true
  | .inl (_, _, .inr (.inl _)) => true
  | .inl _ => false
  | .inr _ => true
def xcI : x_E → Nat → Int32
  | .inl (_, _, .inl f) => f
  | _ => fun _ => 0
def xcL : x_E → Nat → Int64
  | .inl (_, _, .inr (.inl f)) => f
  | _ => fun _ => 0
def xmk : x_S → (Nat → Int32) → (Nat → Int64) → x_E
  | .inl (t, n, true), f, _ => .inl (t, n, .inl f)
  | .inl (t, n, false), _, g => .inl (t, n, .inr (.inl g))
  | .inr o, _, _ => .inr o
theorem xmk_eq (x : x_E) (h : xgd x = true) : xmk (xsh x) (xcI x) (xcL x) = x := by
  cases x with
  | inl a =>
    obtain ⟨t, n, a⟩ := a
    cases a with
    | inl f => rfl
    | inr a => cases a with
      | inl f => rfl
      | inr a => cases h
  | inr o => rfl
def xmks : List x_S → (Nat → Nat → Int32) → (Nat → Nat → Int64) → Nat → List x_E
  | [], _, _, _ => []
  | s :: r, c, e, i => xmk s (c i) (e i) :: xmks r c e (i + 1)
def xctI (hp : List x_E) (i : Nat) : Nat → Int32 := match hp[i]? with
  | some x => xcI x
  | none => fun _ => 0
def xctL (hp : List x_E) (i : Nat) : Nat → Int64 := match hp[i]? with
  | some x => xcL x
  | none => fun _ => 0
theorem xmks_eq (c : Nat → Nat → Int32) (e : Nat → Nat → Int64) : ∀ (hp : List x_E) (i : Nat), hp.all xgd = true → (∀ j, j < hp.length → c (i + j) = xctI hp j ∧ e (i + j) = xctL hp j) → xmks (hp.map xsh) c e i = hp := by
  intro hp
  induction hp with
  | nil => intro i _ _; rfl
  | cons x r ih =>
    intro i hg h
    rw [List.all_cons, Bool.and_eq_true] at hg
    show xmk (xsh x) (c i) (e i) :: xmks (r.map xsh) c e (i + 1) = x :: r
    rw [ih (i + 1) hg.2 (fun j hj => by
      have := h (j + 1) (by simpa using hj)
      rw [show i + 1 + j = i + (j + 1) by omega]
      exact this)]
    have h0 := h 0 (by simp)
    rw [Nat.add_zero] at h0
    rw [h0.1, h0.2]
    show xmk (xsh x) (xcI x) (xcL x) :: r = x :: r
    rw [xmk_eq x hg.1]
def sEq : x_S → x_S → Bool
  | .inl a, .inl b => decide (a = b)
  | .inr a, .inr b => decide (a = b)
  | _, _ => false
theorem sEq_eq {a b : x_S} (h : sEq a b = true) : a = b := by
  cases a with
  | inl a => cases b with
    | inl b => rw [of_decide_eq_true h]
    | inr b => cases h
  | inr a => cases b with
    | inl b => cases h
    | inr b => rw [of_decide_eq_true h]
def sEqs : List x_S → List x_S → Bool
  | [], [] => true
  | a :: r, b :: q => sEq a b && sEqs r q
  | _, _ => false
theorem sEqs_eq : ∀ {a b : List x_S}, sEqs a b = true → a = b := by
  intro a
  induction a with
  | nil => intro b h; cases b with
    | nil => rfl
    | cons y q => cases h
  | cons x r ih => intro b h; cases b with
    | nil => cases h
    | cons y q =>
      rw [sEqs, Bool.and_eq_true] at h
      rw [sEq_eq h.1, ih h.2]
def sOk (r : Option (Option Value × List x_E)) (l : List x_S) : Bool := match r with
  | some (none, hp) => hp.all xgd && sEqs (hp.map xsh) l
  | _ => false
theorem sOk_eq {r : Option (Option Value × List x_E)} {l : List x_S} (h : sOk r l = true) : ∃ hp, r = some (none, hp) ∧ hp.map xsh = l ∧ hp.all xgd = true := by
  unfold sOk at h
  split at h
  · rw [Bool.and_eq_true] at h
    exact ⟨_, rfl, sEqs_eq h.2, h.1⟩
  · cases h
theorem xr_eq {r : Option (Option Value × List x_E)} {l : List x_S} (h : sOk r l = true) {c : Nat → Nat → Int32} {e : Nat → Nat → Int64} (hc : ∀ q, r = some q → ∀ i, c i = xctI q.2 i ∧ e i = xctL q.2 i) : r = some (none, xmks l c e 0) := by
  obtain ⟨hp, h1, h2, h3⟩ := sOk_eq h
  have h4 := hc _ h1
  rw [h1, ← h2]
  rw [xmks_eq c e hp 0 h3 (fun j _ => by rw [Nat.zero_add]; exact h4 j)]
end
section
set_option maxRecDepth 100000 in
def xsX : List x_S := [.inr (0, [.ref 1, .int 0, .ref 2, .ref 10, .ref 16, .ref 27, .ref 28, .ref 31, .ref 33, .ref 44, .ref 35, .ref 47, .int 0, .int 0, .int 0, .int 0]), .inl (2, 6000, true), .inr (1, [.ref 3, .ref 4, .ref 5, .ref 6, .ref 7, .ref 8, .ref 9, .null, .int 0, .int 0, .int 0, .int 0, .int 0, .int (-1), .int 0, .int 0, .int 0, .int 0]), .inl (0, 1203, true), .inl (0, 1203, true), .inl (0, 1203, true), .inl (1, 1203, false), .inl (1, 8, false), .inl (1, 16, false), .inl (1, 15, false), .inr (2, [.ref 11, .ref 12, .ref 13, .ref 14, .ref 15, .int 0, .int 0, .int 0, .int 0, .int 0, .int 0]), .inl (0, 240000, true), .inl (0, 4096, true), .inl (0, 4096, true), .inl (1, 1202, false), .inl (2, 4096, true), .inr (3, [.ref 17, .int 0, .int 0]), .inl (0, 20000, true), .inr (4, [.ref 19, .ref 20, .ref 21, .ref 22, .ref 23, .ref 24, .ref 25, .ref 26, .int 0, .int 0, .int 0, .int 0, .int 0, .int 0]), .inl (0, 2048, true), .inl (0, 2048, true), .inl (0, 2048, true), .inl (0, 2048, true), .inl (0, 2048, true), .inl (1, 2049, false), .inl (0, 400, true), .inl (0, 840, true), .inr (5, [.ref 2]), .inr (6, [.ref 2, .ref 10, .ref 18, .ref 29, .ref 30, .int 0]), .inl (1, 40, false), .inl (0, 40, true), .inr (7, [.ref 18, .ref 16, .ref 32, .int 0, .int 0, .int 0, .int 0, .int 0, .int 0, .int 0, .int 0, .int 0]), .inl (0, 840, true), .inr (8, [.ref 2, .ref 34, .int 0]), .inl (0, 40, true), .inr (9, [.ref 36, .ref 37, .ref 38, .ref 39, .ref 40, .ref 41, .ref 42, .ref 43, .int 0, .int 0, .int 0, .int 0]), .inl (0, 1200, true), .inl (0, 1200, true), .inl (0, 1200, true), .inl (0, 1200, true), .inl (0, 1200, true), .inl (0, 40, true), .inl (0, 40, true), .inl (2, 8192, true), .inr (10, [.ref 2, .ref 10, .ref 33, .ref 35, .ref 45, .ref 46, .int 0, .int 0]), .inl (0, 40, true), .inl (0, 16, true), .inr (11, [.ref 35, .ref 16, .ref 48, .int 0, .int 0, .int 0, .int 0]), .inl (0, 16, true)]
set_option maxRecDepth 100000 in
def xsM : List x_S := [.inr (0, [.ref 1, .int 0, .ref 2, .ref 10, .ref 16, .ref 27, .ref 28, .ref 31, .ref 33, .ref 44, .ref 35, .ref 47, .int 0, .int 0, .int 0, .int 0]), .inl (2, 6000, true), .inr (1, [.ref 3, .ref 4, .ref 5, .ref 6, .ref 7, .ref 8, .ref 9, .null, .int 0, .int 0, .int 0, .int 0, .int 0, .int (-1), .int 0, .int 0, .int 0, .int 0]), .inl (0, 1203, true), .inl (0, 1203, true), .inl (0, 1203, true), .inl (1, 1203, false), .inl (1, 8, false), .inl (1, 16, false), .inl (1, 15, false), .inr (2, [.ref 11, .ref 12, .ref 13, .ref 14, .ref 15, .int 0, .int 0, .int 0, .int 0, .int 0, .int 0]), .inl (0, 240000, true), .inl (0, 4096, true), .inl (0, 4096, true), .inl (1, 1202, false), .inl (2, 4096, true), .inr (3, [.ref 17, .int 0, .int 0]), .inl (0, 20000, true), .inr (4, [.ref 19, .ref 20, .ref 21, .ref 22, .ref 23, .ref 24, .ref 25, .ref 26, .int 0, .int 0, .int 0, .int 0, .int 0, .int 0]), .inl (0, 2048, true), .inl (0, 2048, true), .inl (0, 2048, true), .inl (0, 2048, true), .inl (0, 2048, true), .inl (1, 2049, false), .inl (0, 400, true), .inl (0, 840, true), .inr (5, [.ref 2]), .inr (6, [.ref 2, .ref 10, .ref 18, .ref 29, .ref 30, .int 0]), .inl (1, 40, false), .inl (0, 40, true), .inr (7, [.ref 18, .ref 16, .ref 32, .int 0, .int 0, .int 0, .int 0, .int 0, .int 0, .int 0, .int 0, .int 0]), .inl (0, 840, true), .inr (8, [.ref 2, .ref 34, .int 0]), .inl (0, 40, true), .inr (9, [.ref 36, .ref 37, .ref 38, .ref 39, .ref 40, .ref 41, .ref 42, .ref 43, .int 0, .int 0, .int 0, .int 0]), .inl (0, 1200, true), .inl (0, 1200, true), .inl (0, 1200, true), .inl (0, 1200, true), .inl (0, 1200, true), .inl (0, 40, true), .inl (0, 40, true), .inl (2, 8192, true), .inr (10, [.ref 2, .ref 10, .ref 33, .ref 35, .ref 45, .ref 46, .int 0, .int 0]), .inl (0, 40, true), .inl (0, 16, true), .inr (11, [.ref 35, .ref 16, .ref 48, .int 0, .int 0, .int 0, .int 0]), .inl (0, 16, true), .inr (12, [.ref 50, .int 0, .ref 51, .int 0, .int (-1), .int 0, .ref 52, .ref 53, .ref 54, .int 0, .int 0, .int 0, .int 0, .int 0, .int 0, .long 0, .int 0, .int 0, .int 0, .int 0, .int 0, .int 0, .int 0, .int 0, .int 0, .int 0, .long 0, .int 0, .int 0, .ref 55, .int 0, .int 0, .ref 56, .ref 57, .int 0, .ref 58, .int 0, .ref 59, .ref 60, .ref 61, .int 0, .int 0, .int 0, .int 0, .ref 62, .ref 63, .ref 64, .ref 65, .ref 66, .int 0, .ref 67, .ref 68, .ref 69, .ref 70, .ref 71, .int 0, .int 0, .ref 72, .ref 73, .ref 74, .ref 75, .int 0, .ref 76, .int 0, .int 0, .int 0, .int 0, .int 0, .int 0, .int 0, .ref 77, .int 0, .ref 78, .ref 79, .ref 80, .int 0, .int 0, .int 0, .ref 81, .int 0, .ref 82, .ref 83, .ref 84, .int 0, .ref 85, .int 0, .ref 86, .ref 87, .ref 88, .ref 89, .ref 90, .ref 91, .int 0, .ref 92, .int 0, .int 0, .int 0, .ref 93, .ref 94, .ref 95, .ref 96, .ref 97, .int 0, .int 0, .int 0, .int 0, .int 0, .int 0, .ref 98, .ref 99, .int 0, .ref 100, .ref 101, .ref 102, .ref 103, .int 0, .ref 104, .ref 105, .int 0, .ref 106, .ref 107, .ref 108, .ref 109, .ref 110, .int 0, .int 0, .ref 111, .ref 112, .ref 113, .ref 114, .ref 115, .ref 116, .ref 117, .ref 118, .int 0, .int 0, .int 0, .int 0, .ref 119, .int 0, .int 0, .ref 120, .ref 121, .int 0]), .inl (0, 6000, true), .inl (0, 6000, true), .inl (3, 31, true), .inl (3, 71, true), .inl (3, 18, true), .inl (0, 66000, true), .inl (0, 1300, true), .inl (0, 1300, true), .inl (0, 100, true), .inl (1, 64, false), .inl (0, 64, true), .inl (0, 64, true), .inl (0, 4000, true), .inl (0, 4000, true), .inl (0, 4000, true), .inl (0, 4000, true), .inl (1, 4000, false), .inl (0, 900, true), .inl (0, 900, true), .inl (0, 900, true), .inl (1, 900, false), .inl (4, 900, true), .inl (1, 80, false), .inl (0, 80, true), .inl (0, 80, true), .inl (0, 400, true), .inl (0, 2000, true), .inl (0, 21000, true), .inl (0, 435200, true), .inl (0, 6800, true), .inl (0, 1500000, true), .inl (0, 4000, true), .inl (0, 1000, true), .inl (0, 1000, true), .inl (4, 1000, true), .inl (0, 8, true), .inl (0, 66000, true), .inl (0, 66000, true), .inl (0, 66000, true), .inl (0, 66000, true), .inl (0, 66000, true), .inl (0, 66000, true), .inl (0, 80000, true), .inl (1, 1400, false), .inl (0, 1400, true), .inl (0, 1400, true), .inl (0, 1400, true), .inl (0, 1400, true), .inl (0, 66000, true), .inl (0, 66000, true), .inl (0, 3000, true), .inl (0, 3000, true), .inl (0, 3000, true), .inl (0, 3000, true), .inl (0, 1400, true), .inl (0, 1400, true), .inl (1, 41, false), .inl (0, 41, true), .inl (0, 41, true), .inl (0, 41, true), .inl (0, 41, true), .inl (0, 700, true), .inl (0, 700, true), .inl (0, 700, true), .inl (0, 700, true), .inl (0, 700, true), .inl (0, 700, true), .inl (0, 700, true), .inl (0, 16, true), .inl (0, 24000, true), .inl (0, 16, true), .inl (0, 20001, true)]
def xgoM (fm : Value) (hp : List x_E) (avs : List Value) : Option (Option Value × List x_E) := xgoL fm 5 314 iTs hp avs
def xfm (b : Bool) : Value := if b then .ref 2000000 else .null
def xrI (r : Option (Option Value × List x_E)) (i : Nat) : Nat → Int32 := match r with
  | some q => xctI q.2 i
  | none => fun _ => 0
def xrL (r : Option (Option Value × List x_E)) (i : Nat) : Nat → Int64 := match r with
  | some q => xctL q.2 i
  | none => fun _ => 0
theorem xr_c (r : Option (Option Value × List x_E)) : ∀ q, r = some q → ∀ i, xrI r i = xctI q.2 i ∧ xrL r i = xctL q.2 i := by
  intro q hq i
  subst hq
  exact ⟨rfl, rfl⟩
/-- behind the first constructor -/
def xr1 (b : Bool) : Option (Option Value × List x_E) := xgo (xfm b) 3000 12 0 [xdf 0] [.ref 0]
def xh1 (b : Bool) : List x_E := xmks xsX (xrI (xr1 b)) (xrL (xr1 b)) 0
/-- behind the second -/
def xr2 (b : Bool) : Option (Option Value × List x_E) := xgoM (xfm b) (xh1 b ++ [xdf 12]) [.ref 49]
def xh2 (b : Bool) : List x_E := xmks xsM (xrI (xr2 b)) (xrL (xr2 b)) 0
end
section
theorem ev_x0 : sOk (xr1 false) xsX = true := by decide +kernel
end
section
theorem ev_x1 : sOk (xr1 true) xsX = true := by decide +kernel
end
section
theorem ev_m0 : sOk (xr2 false) xsM = true := by decide +kernel
end
section
theorem ev_m1 : sOk (xr2 true) xsM = true := by decide +kernel
end
section
theorem xr1_eq (b : Bool) : xr1 b = some (none, xh1 b) := xr_eq (by cases b with
  | false => exact ev_x0
  | true => exact ev_x1) (xr_c (xr1 b))
theorem xr2_eq (b : Bool) : xr2 b = some (none, xh2 b) := xr_eq (by cases b with
  | false => exact ev_m0
  | true => exact ev_m1) (xr_c (xr2 b))
end
section
/-! the interpreter over tables of decoded instructions -/
abbrev x_G : Type := Nat → Nat → Nat → List (Nat × Value) → List Value → List x_E → Nat → Nat → Option (Option Value × List x_E)
abbrev x_J : Type := x_G → x_T → x_Y → Nat → Nat → Nat → x_M → Nat → List (Nat × Value) → List Value → List x_E → Nat → Nat → Option (Option Value × List x_E)
def gPl (i : Instr) : x_J := fun rc Z Y len d j M pc lv st hp k n => sH i (fun d _ pc lv st hp k n => rc d j pc lv st hp k n) Z Y len d M pc lv st hp k n
def gIn (ki idx : Nat) : x_J := fun rc Z Y len d j M pc lv st hp k n => if len = 3 then (if xObj Z M ki idx = true then (match st with
          | .ref _ :: r => if 1 ≤ d ∧ (r.map fun v => v.category).sum ≤ 8 then rc d j (pc + 3) lv r hp k n else none
          | _ => none)
        else match xMth Z M ki idx st with
        | some st' => if 1 ≤ d ∧ (st'.map fun v => v.category).sum ≤ 8 then rc d j (pc + 3) lv st' hp k n else none
        | none => match d with
          | 0 => none
          | d' + 1 => match zL Z (xo M) idx with
            | none => none
            | some (_, j') => match xReq Z Y M ki idx st hp with
              | none => none
              | some (M', avs, r) => if xChk M M' lv r avs hp k n = true then (match rc d' j' 0 (lv_args 0 avs) [] hp 0 0 with
                | none => none
                | some (rv, hp1) => if hp.length ≤ hp1.length then fN (k + xmc M') fun k => fN (n + xms M') fun n => rc (d' + 1) j (pc + 3) lv (rv.toList ++ r) hp1 k n else none) else none) else none
def gH (i : Instr) : x_J := match i with
  | .invokevirtual idx => gIn 0 idx
  | .invokestatic idx => gIn 1 idx
  | .invokespecial idx => gIn 2 idx
  | i => gPl i
def frun (Z : x_T) (Y : x_Y) (DT : Nat → Nat → Option (Instr × Nat)) : Nat → x_G
  | 0 => fun _ _ _ _ _ _ _ _ => none
  | f + 1 => fun d j pc lv st hp k n => fN pc fun pc => fG lv fun lv => fS st fun st => match DT j pc with
    | none => none
    | some (i, len) => match zM Z j with
      | none => none
      | some M => gH i (frun Z Y DT f) Z Y len d j M pc lv st hp k n
theorem gPl_m {Z : x_T} {Y : x_Y} {len d : Nat} {M : x_M} {j pc : Nat} {lv : List (Nat × Value)} {st : List Value} {hp : List x_E} {k n : Nat} {R : Option Value × List x_E} {i : Instr} {rc : x_G} {rc' : x_F} (hki : xKi i = none) (hm : ∀ d pc lv st hp k n, rc d j pc lv st hp k n = some R → rc' d M pc lv st hp k n = some R) (h : gPl i rc Z Y len d j M pc lv st hp k n = some R) : sH i rc' Z Y len d M pc lv st hp k n = some R := by
  refine iH_m (rc := fun d _ pc lv st hp k n => rc d j pc lv st hp k n) (fun pc lv st hp k n h => hm d pc lv st hp k n h) ?_
  have e : iH i = sH i := by cases i <;> first | rfl | (cases hki; done)
  rw [e]
  exact h
theorem gIn_m {Z : x_T} {Y : x_Y} {len d : Nat} {M : x_M} {j pc : Nat} {lv : List (Nat × Value)} {st : List Value} {hp : List x_E} {k n : Nat} {R : Option Value × List x_E} {ki idx : Nat} {rc : x_G} {rc' : x_F} (hj : zM Z j = some M) (hm : ∀ (R : Option Value × List x_E) (d j : Nat) (M : x_M) pc lv st hp k n, zM Z j = some M → rc d j pc lv st hp k n = some R → rc' d M pc lv st hp k n = some R) (h : gIn ki idx rc Z Y len d j M pc lv st hp k n = some R) : hIn ki idx rc' Z Y len d M pc lv st hp k n = some R := by
  unfold gIn at h
  unfold hIn
  split at h
  · rename_i h1
    rw [if_pos h1]
    split at h
    · rename_i h2
      rw [if_pos h2]
      split at h
      · split at h
        · rename_i h3
          dsimp only
          rw [if_pos h3]
          exact hm _ _ _ _ _ _ _ _ _ _ hj h
        · cases h
      · cases h
    · rename_i h2
      rw [if_neg h2]
      cases hx : xMth Z M ki idx st with
      | some st' =>
        rw [hx] at h
        dsimp only at h ⊢
        split at h
        · rename_i h3
          rw [if_pos h3]
          exact hm _ _ _ _ _ _ _ _ _ _ hj h
        · cases h
      | none =>
        rw [hx] at h
        dsimp only at h ⊢
        split at h
        · cases h
        · split at h
          · cases h
          · rename_i kd j' hz
            cases hr : xReq Z Y M ki idx st hp with
            | none => rw [hr] at h; cases h
            | some z =>
              obtain ⟨M', avs, r⟩ := z
              rw [hr] at h
              dsimp only at h ⊢
              split at h
              · rename_i h3
                rw [if_pos h3]
                split at h
                · cases h
                · rename_i rv hp1 hrc
                  have hj' : zM Z j' = some M' := by
                    obtain ⟨kd2, j2, As, e1, e2, -⟩ := xReq_inv hr
                    rw [hz] at e1
                    cases e1
                    exact e2
                  rw [hm _ _ _ _ _ _ _ _ _ _ hj' hrc]
                  dsimp only
                  split at h
                  · rename_i h4
                    rw [if_pos h4]
                    rw [fN_eq, fN_eq] at h ⊢
                    exact hm _ _ _ _ _ _ _ _ _ _ hj h
                  · cases h
              · cases h
  · cases h
theorem frun_ok (Z : x_T) (Y : x_Y) (DT : Nat → Nat → Option (Instr × Nat)) (hDT : ∀ j M pc v, zM Z j = some M → DT j pc = some v → decode (xb M) pc = .ok v) : ∀ (f : Nat) (R : Option Value × List x_E) (d j : Nat) (M : x_M) (pc : Nat) (lv : List (Nat × Value)) (st : List Value) (hp : List x_E) (k n : Nat), zM Z j = some M → frun Z Y DT f d j pc lv st hp k n = some R → srun Z Y f d M pc lv st hp k n = some R := by
  intro f
  induction f with
  | zero => intro R d j M pc lv st hp k n _ h; cases h
  | succ f ih =>
    intro R d j M pc lv st hp k n hj h
    unfold frun at h
    rw [fN_eq, fG_eq, fS_eq] at h
    show sst (srun Z Y f) Z Y d M pc lv st hp k n = some R
    unfold sst
    rw [fN_eq, fG_eq, fS_eq]
    split at h
    · cases h
    · rename_i i len hd
      rw [hDT j M pc _ hj hd]
      rw [hj] at h
      dsimp only at h ⊢
      cases hk : xKi i with
      | none =>
        have e : gH i = gPl i := by cases i <;> first | rfl | (cases hk; done)
        rw [e] at h
        exact gPl_m hk (fun d pc lv st hp k n h2 => ih R d j M pc lv st hp k n hj h2) h
      | some z =>
        obtain ⟨ki, idx⟩ := z
        rcases xKi_inv hk with ⟨rfl, rfl⟩ | ⟨rfl, rfl⟩ | ⟨rfl, rfl⟩
        · exact gIn_m hj ih h
        · exact gIn_m hj ih h
        · exact gIn_m hj ih h
end
section
def dck (j : Nat) (q : Nat × Instr × Nat) : Bool := match xMf j with
  | none => false
  | some M => match decode (xb M) q.1 with
    | .ok w => decide (w = q.2)
    | .error _ => false
set_option maxRecDepth 100000 in
def dT25 : List (Nat × Instr × Nat) := [(0, .aload_n 0, 1), (1, .getfield 96, 3), (4, .sipush 5980, 3), (7, .if_icmp .le 5, 3), (10, .iconst 0, 1), (11, .ireturn, 1), (12, .aload_n 0, 1), (13, .iload_n 1, 1), (14, .invokevirtual 100, 3), (17, .aload_n 0, 1), (18, .iload_n 2, 1), (19, .invokevirtual 100, 3), (22, .aload_n 0, 1), (23, .iload_n 3, 1), (24, .invokevirtual 100, 3), (27, .aload_n 0, 1), (28, .iload 4, 2), (30, .invokevirtual 100, 3), (33, .aload_n 0, 1), (34, .iload 5, 2), (36, .invokevirtual 100, 3), (39, .iconst 1, 1), (40, .ireturn, 1)]
theorem dT25_ok : dT25.all (dck 25) = true := by decide +kernel
set_option maxRecDepth 100000 in
def dT26 : List (Nat × Instr × Nat) := [(0, .bipush 24, 2), (2, .istore_n 2, 1), (3, .iload_n 2, 1), (4, .ifCond .lt 42, 3), (7, .aload_n 0, 1), (8, .getfield 96, 3), (11, .sipush 6000, 3), (14, .if_icmp .ge 32, 3), (17, .aload_n 0, 1), (18, .getfield 9, 3), (21, .aload_n 0, 1), (22, .getfield 96, 3), (25, .iload_n 1, 1), (26, .iload_n 2, 1), (27, .iushr, 1), (28, .i2b, 1), (29, .bastore, 1), (30, .aload_n 0, 1), (31, .dup, 1), (32, .getfield 96, 3), (35, .iconst 1, 1), (36, .iadd, 1), (37, .putfield 96, 3), (40, .iinc 2 (-8), 3), (43, .goto (-40), 3), (46, .return_, 1)]
theorem dT26_ok : dT26.all (dck 26) = true := by decide +kernel
set_option maxRecDepth 100000 in
def dT27 : List (Nat × Instr × Nat) := [(0, .iload_n 1, 1), (1, .ifCond .lt 11, 3), (4, .iload_n 1, 1), (5, .aload_n 0, 1), (6, .getfield 96, 3), (9, .if_icmp .le 5, 3), (12, .iconst (-1), 1), (13, .ireturn, 1), (14, .aload_n 0, 1), (15, .iload_n 1, 1), (16, .iconst 0, 1), (17, .invokevirtual 104, 3), (20, .aload_n 0, 1), (21, .getfield 42, 3), (24, .invokevirtual 108, 3), (27, .aload_n 0, 1), (28, .getfield 16, 3), (31, .invokevirtual 111, 3), (34, .ifCond .ne 14, 3), (37, .aload_n 0, 1), (38, .aload_n 0, 1), (39, .getfield 51, 3), (42, .invokevirtual 115, 3), (45, .putfield 119, 3), (48, .aload_n 0, 1), (49, .getfield 16, 3), (52, .invokevirtual 111, 3), (55, .ifCond .ne 19, 3), (58, .aload_n 0, 1), (59, .getfield 23, 3), (62, .aload_n 0, 1), (63, .getfield 119, 3), (66, .invokevirtual 122, 3), (69, .aload_n 0, 1), (70, .iconst 1, 1), (71, .putfield 125, 3), (74, .aload_n 0, 1), (75, .getfield 16, 3), (78, .invokevirtual 128, 3), (81, .ireturn, 1)]
theorem dT27_ok : dT27.all (dck 27) = true := by decide +kernel
set_option maxRecDepth 100000 in
def dT28 : List (Nat × Instr × Nat) := [(0, .aload_n 0, 1), (1, .getfield 16, 3), (4, .aload_n 0, 1), (5, .getfield 9, 3), (8, .iload_n 1, 1), (9, .iload_n 2, 1), (10, .invokevirtual 191, 3), (13, .aload_n 0, 1), (14, .iconst 0, 1), (15, .putfield 96, 3), (18, .aload_n 0, 1), (19, .iconst 0, 1), (20, .putfield 125, 3), (23, .aload_n 0, 1), (24, .iconst 0, 1), (25, .putfield 160, 3), (28, .aload_n 0, 1), (29, .iconst 0, 1), (30, .putfield 164, 3), (33, .return_, 1)]
theorem dT28_ok : dT28.all (dck 28) = true := by decide +kernel
set_option maxRecDepth 100000 in
def dT29 : List (Nat × Instr × Nat) := [(0, .aload_n 0, 1), (1, .aload_n 1, 1), (2, .putfield 46, 3), (5, .aload_n 0, 1), (6, .aload_n 1, 1), (7, .ifnonnull 7, 3), (10, .iconst 0, 1), (11, .goto 13, 3), (14, .iconst 0, 1), (15, .iload_n 2, 1), (16, .aload_n 1, 1), (17, .arraylength, 1), (18, .invokestatic 50, 3), (21, .invokestatic 56, 3), (24, .putfield 59, 3), (27, .aload_n 0, 1), (28, .iload_n 3, 1), (29, .putfield 62, 3), (32, .aload_n 0, 1), (33, .iconst 0, 1), (34, .putfield 66, 3), (37, .aload_n 0, 1), (38, .iconst 0, 1), (39, .invokevirtual 69, 3), (42, .istore 4, 2), (44, .iconst 0, 1), (45, .istore 5, 2), (47, .iload 5, 2), (49, .sipush 1202, 3), (52, .if_icmp .ge 30, 3), (55, .iload 4, 2), (57, .aload_n 0, 1), (58, .getfield 59, 3), (61, .if_icmp .ge 21, 3), (64, .aload_n 0, 1), (65, .aload_n 0, 1), (66, .iload 4, 2), (68, .invokevirtual 73, 3), (71, .invokevirtual 69, 3), (74, .istore 4, 2), (76, .iinc 5 1, 3), (79, .goto (-32), 3), (82, .aload_n 0, 1), (83, .iconst 1, 1), (84, .aload_n 0, 1), (85, .getfield 59, 3), (88, .iconst 0, 1), (89, .lconst 0, 1), (90, .invokevirtual 76, 3), (93, .aload_n 0, 1), (94, .iconst 0, 1), (95, .putfield 80, 3), (98, .aload_n 0, 1), (99, .iconst (-1), 1), (100, .putfield 42, 3), (103, .return_, 1)]
theorem dT29_ok : dT29.all (dck 29) = true := by decide +kernel
set_option maxRecDepth 100000 in
def dT30 : List (Nat × Instr × Nat) := [(0, .iconst 0, 1), (1, .istore_n 2, 1), (2, .iload_n 1, 1), (3, .istore_n 3, 1), (4, .iload_n 3, 1), (5, .aload_n 0, 1), (6, .getfield 59, 3), (9, .if_icmp .ge 78, 3), (12, .aload_n 0, 1), (13, .iload_n 3, 1), (14, .invokevirtual 83, 3), (17, .istore 4, 2), (19, .iload_n 2, 1), (20, .ifCond .eq 19, 3), (23, .iload 4, 2), (25, .bipush 10, 2), (27, .if_icmp .eq 7, 3), (30, .iconst 1, 1), (31, .goto 4, 3), (34, .iconst 0, 1), (35, .istore_n 2, 1), (36, .goto 45, 3), (39, .iload 4, 2), (41, .bipush 37, 2), (43, .if_icmp .ne 8, 3), (46, .iconst 1, 1), (47, .istore_n 2, 1), (48, .goto 33, 3), (51, .iload 4, 2), (53, .bipush 9, 2), (55, .if_icmp .eq 26, 3), (58, .iload 4, 2), (60, .bipush 10, 2), (62, .if_icmp .eq 19, 3), (65, .iload 4, 2), (67, .bipush 13, 2), (69, .if_icmp .eq 12, 3), (72, .iload 4, 2), (74, .bipush 32, 2), (76, .if_icmp .eq 5, 3), (79, .iload_n 3, 1), (80, .ireturn, 1), (81, .iinc 3 1, 3), (84, .goto (-80), 3), (87, .aload_n 0, 1), (88, .getfield 59, 3), (91, .ireturn, 1)]
theorem dT30_ok : dT30.all (dck 30) = true := by decide +kernel
set_option maxRecDepth 100000 in
def dT31 : List (Nat × Instr × Nat) := [(0, .aload_n 0, 1), (1, .getfield 46, 3), (4, .ifnull 37, 3), (7, .iload_n 1, 1), (8, .ifCond .lt 33, 3), (11, .iload_n 1, 1), (12, .aload_n 0, 1), (13, .getfield 59, 3), (16, .if_icmp .ge 25, 3), (19, .iload_n 1, 1), (20, .aload_n 0, 1), (21, .getfield 46, 3), (24, .arraylength, 1), (25, .if_icmp .ge 16, 3), (28, .aload_n 0, 1), (29, .getfield 46, 3), (32, .iload_n 1, 1), (33, .baload, 1), (34, .sipush 255, 3), (37, .iand, 1), (38, .goto 4, 3), (41, .iconst (-1), 1), (42, .ireturn, 1)]
theorem dT31_ok : dT31.all (dck 31) = true := by decide +kernel
set_option maxRecDepth 100000 in
def dT36 : List (Nat × Instr × Nat) := [(0, .aload_n 0, 1), (1, .getfield 66, 3), (4, .sipush 1202, 3), (7, .if_icmp .gt 54, 3), (10, .aload_n 0, 1), (11, .getfield 9, 3), (14, .aload_n 0, 1), (15, .getfield 66, 3), (18, .iload_n 1, 1), (19, .iastore, 1), (20, .aload_n 0, 1), (21, .getfield 13, 3), (24, .aload_n 0, 1), (25, .getfield 66, 3), (28, .iload_n 2, 1), (29, .iastore, 1), (30, .aload_n 0, 1), (31, .getfield 16, 3), (34, .aload_n 0, 1), (35, .getfield 66, 3), (38, .iload_n 3, 1), (39, .iastore, 1), (40, .aload_n 0, 1), (41, .getfield 19, 3), (44, .aload_n 0, 1), (45, .getfield 66, 3), (48, .lload 4, 2), (50, .lastore, 1), (51, .aload_n 0, 1), (52, .dup, 1), (53, .getfield 66, 3), (56, .iconst 1, 1), (57, .iadd, 1), (58, .putfield 66, 3), (61, .return_, 1)]
theorem dT36_ok : dT36.all (dck 36) = true := by decide +kernel
set_option maxRecDepth 100000 in
def dT57 : List (Nat × Instr × Nat) := [(0, .aload_n 0, 1), (1, .getfield 7, 3), (4, .sipush 400, 3), (7, .bipush 20, 2), (9, .invokevirtual 13, 3), (12, .aload_n 0, 1), (13, .invokevirtual 19, 3), (16, .aload_n 0, 1), (17, .getfield 7, 3), (20, .invokevirtual 22, 3), (23, .return_, 1)]
theorem dT57_ok : dT57.all (dck 57) = true := by decide +kernel
set_option maxRecDepth 100000 in
def dT58 : List (Nat × Instr × Nat) := [(0, .aload_n 0, 1), (1, .iload_n 1, 1), (2, .putfield 139, 3), (5, .aload_n 0, 1), (6, .iload_n 2, 1), (7, .putfield 142, 3), (10, .aload_n 0, 1), (11, .iconst 0, 1), (12, .putfield 145, 3), (15, .aload_n 0, 1), (16, .iconst 0, 1), (17, .putfield 148, 3), (20, .aload_n 0, 1), (21, .iconst 0, 1), (22, .putfield 151, 3), (25, .return_, 1)]
theorem dT58_ok : dT58.all (dck 58) = true := by decide +kernel
set_option maxRecDepth 100000 in
def dT59 : List (Nat × Instr × Nat) := [(0, .aload_n 0, 1), (1, .getfield 7, 3), (4, .invokevirtual 25, 3), (7, .tableswitch 88 42 45 #[29, 36, 43, 81], 29), (36, .aload_n 0, 1), (37, .invokevirtual 29, 3), (40, .goto 59, 3), (43, .aload_n 0, 1), (44, .invokevirtual 32, 3), (47, .goto 52, 3), (50, .aload_n 0, 1), (51, .getfield 7, 3), (54, .invokevirtual 35, 3), (57, .aload_n 0, 1), (58, .getfield 7, 3), (61, .iconst 2, 1), (62, .invokevirtual 38, 3), (65, .aload_n 0, 1), (66, .getfield 7, 3), (69, .bipush 10, 2), (71, .invokevirtual 38, 3), (74, .aload_n 0, 1), (75, .invokevirtual 19, 3), (78, .aload_n 0, 1), (79, .getfield 7, 3), (82, .invokevirtual 42, 3), (85, .goto 14, 3), (88, .aload_n 0, 1), (89, .invokevirtual 45, 3), (92, .goto 7, 3), (95, .aload_n 0, 1), (96, .invokevirtual 48, 3), (99, .return_, 1)]
theorem dT59_ok : dT59.all (dck 59) = true := by decide +kernel
set_option maxRecDepth 100000 in
def dT60 : List (Nat × Instr × Nat) := [(0, .aload_n 0, 1), (1, .getfield 80, 3), (4, .ifCond .ne 26, 3), (7, .aload_n 0, 1), (8, .getfield 151, 3), (11, .aload_n 0, 1), (12, .getfield 66, 3), (15, .if_icmp .ge 15, 3), (18, .aload_n 0, 1), (19, .getfield 9, 3), (22, .aload_n 0, 1), (23, .getfield 151, 3), (26, .iaload, 1), (27, .goto 4, 3), (30, .iconst 0, 1), (31, .ireturn, 1)]
theorem dT60_ok : dT60.all (dck 60) = true := by decide +kernel
end
section
set_option maxRecDepth 100000 in
def dT61 : List (Nat × Instr × Nat) := [(0, .aload_n 0, 1), (1, .getfield 7, 3), (4, .invokevirtual 35, 3), (7, .aload_n 0, 1), (8, .getfield 7, 3), (11, .iconst 2, 1), (12, .invokevirtual 38, 3), (15, .aload_n 0, 1), (16, .getfield 7, 3), (19, .bipush 11, 2), (21, .invokevirtual 38, 3), (24, .aload_n 0, 1), (25, .invokevirtual 51, 3), (28, .aload_n 0, 1), (29, .getfield 7, 3), (32, .bipush 10, 2), (34, .invokevirtual 38, 3), (37, .aload_n 0, 1), (38, .invokevirtual 19, 3), (41, .aload_n 0, 1), (42, .getfield 7, 3), (45, .invokevirtual 42, 3), (48, .return_, 1)]
theorem dT61_ok : dT61.all (dck 61) = true := by decide +kernel
set_option maxRecDepth 100000 in
def dT62 : List (Nat × Instr × Nat) := [(0, .aload_n 0, 1), (1, .getfield 151, 3), (4, .istore_n 1, 1), (5, .aload_n 0, 1), (6, .invokevirtual 164, 3), (9, .aload_n 0, 1), (10, .dup, 1), (11, .getfield 145, 3), (14, .iconst 1, 1), (15, .iadd, 1), (16, .putfield 145, 3), (19, .aload_n 0, 1), (20, .getfield 145, 3), (23, .aload_n 0, 1), (24, .getfield 142, 3), (27, .if_icmp .le 10, 3), (30, .aload_n 0, 1), (31, .iconst 2, 1), (32, .iload_n 1, 1), (33, .invokevirtual 158, 3), (36, .pop, 1), (37, .return_, 1)]
theorem dT62_ok : dT62.all (dck 62) = true := by decide +kernel
set_option maxRecDepth 100000 in
def dT63 : List (Nat × Instr × Nat) := [(0, .aload_n 0, 1), (1, .getfield 148, 3), (4, .ifCond .ne 14, 3), (7, .aload_n 0, 1), (8, .getfield 151, 3), (11, .aload_n 0, 1), (12, .getfield 139, 3), (15, .if_icmp .lt 13, 3), (18, .aload_n 0, 1), (19, .iconst 2, 1), (20, .aload_n 0, 1), (21, .getfield 151, 3), (24, .invokevirtual 158, 3), (27, .pop, 1), (28, .aload_n 0, 1), (29, .getfield 151, 3), (32, .aload_n 0, 1), (33, .getfield 66, 3), (36, .iconst 1, 1), (37, .isub, 1), (38, .if_icmp .ge 13, 3), (41, .aload_n 0, 1), (42, .dup, 1), (43, .getfield 151, 3), (46, .iconst 1, 1), (47, .iadd, 1), (48, .putfield 151, 3), (51, .return_, 1)]
theorem dT63_ok : dT63.all (dck 63) = true := by decide +kernel
set_option maxRecDepth 100000 in
def dT64 : List (Nat × Instr × Nat) := [(0, .aload_n 0, 1), (1, .getfield 80, 3), (4, .ifCond .ne 37, 3), (7, .aload_n 0, 1), (8, .iload_n 1, 1), (9, .putfield 80, 3), (12, .aload_n 0, 1), (13, .iload_n 2, 1), (14, .ifCond .lt 20, 3), (17, .iload_n 2, 1), (18, .aload_n 0, 1), (19, .getfield 66, 3), (22, .if_icmp .ge 12, 3), (25, .aload_n 0, 1), (26, .getfield 13, 3), (29, .iload_n 2, 1), (30, .iaload, 1), (31, .goto 7, 3), (34, .aload_n 0, 1), (35, .getfield 59, 3), (38, .putfield 42, 3), (41, .iconst 0, 1), (42, .ireturn, 1)]
theorem dT64_ok : dT64.all (dck 64) = true := by decide +kernel
set_option maxRecDepth 100000 in
def dT65 : List (Nat × Instr × Nat) := [(0, .aload_n 0, 1), (1, .invokevirtual 161, 3), (4, .iload_n 1, 1), (5, .if_icmp .ne 10, 3), (8, .aload_n 0, 1), (9, .invokevirtual 164, 3), (12, .goto 7, 3), (15, .aload_n 0, 1), (16, .invokevirtual 167, 3), (19, .return_, 1)]
theorem dT65_ok : dT65.all (dck 65) = true := by decide +kernel
set_option maxRecDepth 100000 in
def dT66 : List (Nat × Instr × Nat) := [(0, .aload_n 0, 1), (1, .iconst 1, 1), (2, .aload_n 0, 1), (3, .getfield 151, 3), (6, .invokevirtual 158, 3), (9, .pop, 1), (10, .return_, 1)]
theorem dT66_ok : dT66.all (dck 66) = true := by decide +kernel
set_option maxRecDepth 100000 in
def dT67 : List (Nat × Instr × Nat) := [(0, .aload_n 0, 1), (1, .invokevirtual 105, 3), (4, .aload_n 0, 1), (5, .getfield 7, 3), (8, .bipush 28, 2), (10, .invokevirtual 73, 3), (13, .ifCond .eq 14, 3), (16, .aload_n 0, 1), (17, .invokevirtual 51, 3), (20, .aload_n 0, 1), (21, .getfield 7, 3), (24, .invokevirtual 42, 3), (27, .return_, 1)]
theorem dT67_ok : dT67.all (dck 67) = true := by decide +kernel
set_option maxRecDepth 100000 in
def dT68 : List (Nat × Instr × Nat) := [(0, .aload_n 0, 1), (1, .getfield 7, 3), (4, .invokevirtual 25, 3), (7, .lookupswitch 128 #[(2, 49), (14, 105), (20, 97), (40, 49), (41, 59)], 49), (56, .aload_n 0, 1), (57, .getfield 7, 3), (60, .invokevirtual 79, 3), (63, .goto 79, 3), (66, .aload_n 0, 1), (67, .getfield 7, 3), (70, .invokevirtual 35, 3), (73, .aload_n 0, 1), (74, .getfield 7, 3), (77, .iconst 2, 1), (78, .invokevirtual 38, 3), (81, .aload_n 0, 1), (82, .getfield 7, 3), (85, .bipush 10, 2), (87, .invokevirtual 38, 3), (90, .aload_n 0, 1), (91, .invokevirtual 51, 3), (94, .aload_n 0, 1), (95, .getfield 7, 3), (98, .invokevirtual 42, 3), (101, .goto 41, 3), (104, .aload_n 0, 1), (105, .iconst 1, 1), (106, .invokevirtual 82, 3), (109, .goto 33, 3), (112, .aload_n 0, 1), (113, .getfield 7, 3), (116, .invokevirtual 35, 3), (119, .aload_n 0, 1), (120, .invokevirtual 51, 3), (123, .aload_n 0, 1), (124, .getfield 7, 3), (127, .bipush 15, 2), (129, .invokevirtual 57, 3), (132, .goto 10, 3), (135, .aload_n 0, 1), (136, .getfield 7, 3), (139, .invokevirtual 92, 3), (142, .return_, 1)]
theorem dT68_ok : dT68.all (dck 68) = true := by decide +kernel
set_option maxRecDepth 100000 in
def dT69 : List (Nat × Instr × Nat) := [(0, .aload_n 0, 1), (1, .dup, 1), (2, .getfield 145, 3), (5, .iconst 1, 1), (6, .isub, 1), (7, .putfield 145, 3), (10, .return_, 1)]
theorem dT69_ok : dT69.all (dck 69) = true := by decide +kernel
set_option maxRecDepth 100000 in
def dT70 : List (Nat × Instr × Nat) := [(0, .aload_n 0, 1), (1, .getfield 7, 3), (4, .invokevirtual 35, 3), (7, .aload_n 0, 1), (8, .getfield 7, 3), (11, .invokevirtual 25, 3), (14, .bipush 21, 2), (16, .if_icmp .eq 65, 3), (19, .iconst 1, 1), (20, .istore_n 2, 1), (21, .iload_n 2, 1), (22, .bipush 9, 2), (24, .if_icmp .gt 57, 3), (27, .aload_n 0, 1), (28, .getfield 7, 3), (31, .iload_n 2, 1), (32, .bipush 8, 2), (34, .if_icmp .le 7, 3), (37, .iconst 1, 1), (38, .goto 4, 3), (41, .iconst 0, 1), (42, .invokevirtual 95, 3), (45, .iload_n 1, 1), (46, .ifCond .eq 10, 3), (49, .aload_n 0, 1), (50, .invokevirtual 51, 3), (53, .goto 7, 3), (56, .aload_n 0, 1), (57, .invokevirtual 19, 3), (60, .aload_n 0, 1), (61, .getfield 7, 3), (64, .bipush 12, 2), (66, .invokevirtual 63, 3), (69, .ifCond .ne 6, 3), (72, .goto 9, 3), (75, .iinc 2 1, 3), (78, .goto (-57), 3), (81, .aload_n 0, 1), (82, .getfield 7, 3), (85, .bipush 21, 2), (87, .invokevirtual 57, 3), (90, .return_, 1)]
theorem dT70_ok : dT70.all (dck 70) = true := by decide +kernel
set_option maxRecDepth 100000 in
def dT71 : List (Nat × Instr × Nat) := [(0, .aload_n 0, 1), (1, .iload_n 1, 1), (2, .putfield 148, 3), (5, .return_, 1)]
theorem dT71_ok : dT71.all (dck 71) = true := by decide +kernel
set_option maxRecDepth 100000 in
def dT72 : List (Nat × Instr × Nat) := [(0, .aload_n 0, 1), (1, .invokevirtual 161, 3), (4, .iload_n 1, 1), (5, .if_icmp .eq 5, 3), (8, .iconst 0, 1), (9, .ireturn, 1), (10, .aload_n 0, 1), (11, .invokevirtual 164, 3), (14, .iconst 1, 1), (15, .ireturn, 1)]
theorem dT72_ok : dT72.all (dck 72) = true := by decide +kernel
set_option maxRecDepth 100000 in
def dT73 : List (Nat × Instr × Nat) := [(0, .aload_n 0, 1), (1, .iload_n 1, 1), (2, .invokevirtual 173, 3), (5, .aload_n 0, 1), (6, .invokevirtual 176, 3), (9, .return_, 1)]
theorem dT73_ok : dT73.all (dck 73) = true := by decide +kernel
set_option maxRecDepth 100000 in
def dT74 : List (Nat × Instr × Nat) := [(0, .aload_n 0, 1), (1, .invokevirtual 161, 3), (4, .iload_n 1, 1), (5, .if_icmp .eq 5, 3), (8, .iconst 0, 1), (9, .ireturn, 1), (10, .aload_n 0, 1), (11, .invokevirtual 170, 3), (14, .iconst 1, 1), (15, .ireturn, 1)]
theorem dT74_ok : dT74.all (dck 74) = true := by decide +kernel
set_option maxRecDepth 100000 in
def dT75 : List (Nat × Instr × Nat) := [(0, .aload_n 0, 1), (1, .getfield 7, 3), (4, .invokevirtual 35, 3), (7, .aload_n 0, 1), (8, .getfield 7, 3), (11, .iconst 2, 1), (12, .invokevirtual 38, 3), (15, .aload_n 0, 1), (16, .getfield 7, 3), (19, .bipush 14, 2), (21, .invokevirtual 54, 3), (24, .aload_n 0, 1), (25, .getfield 7, 3), (28, .iconst 2, 1), (29, .invokevirtual 38, 3), (32, .aload_n 0, 1), (33, .getfield 7, 3), (36, .bipush 11, 2), (38, .invokevirtual 38, 3), (41, .aload_n 0, 1), (42, .invokevirtual 51, 3), (45, .aload_n 0, 1), (46, .getfield 7, 3), (49, .bipush 15, 2), (51, .invokevirtual 57, 3), (54, .aload_n 0, 1), (55, .getfield 7, 3), (58, .bipush 11, 2), (60, .invokevirtual 38, 3), (63, .aload_n 0, 1), (64, .invokevirtual 51, 3), (67, .aload_n 0, 1), (68, .getfield 7, 3), (71, .bipush 10, 2), (73, .invokevirtual 38, 3), (76, .aload_n 0, 1), (77, .invokevirtual 19, 3), (80, .aload_n 0, 1), (81, .getfield 7, 3), (84, .invokevirtual 42, 3), (87, .return_, 1)]
theorem dT75_ok : dT75.all (dck 75) = true := by decide +kernel
set_option maxRecDepth 100000 in
def dT76 : List (Nat × Instr × Nat) := [(0, .aload_n 0, 1), (1, .invokevirtual 161, 3), (4, .iload_n 1, 1), (5, .if_icmp .ne 10, 3), (8, .aload_n 0, 1), (9, .invokevirtual 170, 3), (12, .goto 7, 3), (15, .aload_n 0, 1), (16, .invokevirtual 167, 3), (19, .return_, 1)]
theorem dT76_ok : dT76.all (dck 76) = true := by decide +kernel
set_option maxRecDepth 100000 in
def dT77 : List (Nat × Instr × Nat) := [(0, .aload_n 0, 1), (1, .getfield 7, 3), (4, .invokevirtual 35, 3), (7, .aload_n 0, 1), (8, .getfield 7, 3), (11, .iconst 2, 1), (12, .invokevirtual 38, 3), (15, .aload_n 0, 1), (16, .getfield 7, 3), (19, .bipush 26, 2), (21, .invokevirtual 38, 3), (24, .aload_n 0, 1), (25, .invokevirtual 19, 3), (28, .aload_n 0, 1), (29, .getfield 7, 3), (32, .bipush 46, 2), (34, .invokevirtual 38, 3), (37, .aload_n 0, 1), (38, .invokevirtual 19, 3), (41, .aload_n 0, 1), (42, .getfield 7, 3), (45, .invokevirtual 42, 3), (48, .return_, 1)]
theorem dT77_ok : dT77.all (dck 77) = true := by decide +kernel
set_option maxRecDepth 100000 in
def dT78 : List (Nat × Instr × Nat) := [(0, .aload_n 0, 1), (1, .invokevirtual 60, 3), (4, .iconst 0, 1), (5, .istore_n 1, 1), (6, .iload_n 1, 1), (7, .sipush 1202, 3), (10, .if_icmp .ge 37, 3), (13, .aload_n 0, 1), (14, .getfield 7, 3), (17, .bipush 23, 2), (19, .invokevirtual 63, 3), (22, .ifCond .ne 15, 3), (25, .aload_n 0, 1), (26, .getfield 7, 3), (29, .bipush 24, 2), (31, .invokevirtual 63, 3), (34, .ifCond .eq 13, 3), (37, .aload_n 0, 1), (38, .invokevirtual 60, 3), (41, .iinc 1 1, 3), (44, .goto (-38), 3), (47, .return_, 1)]
theorem dT78_ok : dT78.all (dck 78) = true := by decide +kernel
end
section
set_option maxRecDepth 100000 in
def dT79 : List (Nat × Instr × Nat) := [(0, .aload_n 0, 1), (1, .invokevirtual 67, 3), (4, .iconst 0, 1), (5, .istore_n 1, 1), (6, .iload_n 1, 1), (7, .sipush 1202, 3), (10, .if_icmp .ge 25, 3), (13, .aload_n 0, 1), (14, .getfield 7, 3), (17, .bipush 25, 2), (19, .invokevirtual 63, 3), (22, .ifCond .eq 13, 3), (25, .aload_n 0, 1), (26, .invokevirtual 67, 3), (29, .iinc 1 1, 3), (32, .goto (-26), 3), (35, .return_, 1)]
theorem dT79_ok : dT79.all (dck 79) = true := by decide +kernel
set_option maxRecDepth 100000 in
def dT80 : List (Nat × Instr × Nat) := [(0, .aload_n 0, 1), (1, .invokevirtual 70, 3), (4, .iconst 0, 1), (5, .istore_n 1, 1), (6, .iload_n 1, 1), (7, .sipush 1202, 3), (10, .if_icmp .ge 54, 3), (13, .aload_n 0, 1), (14, .getfield 7, 3), (17, .bipush 16, 2), (19, .invokevirtual 73, 3), (22, .ifCond .eq 19, 3), (25, .aload_n 0, 1), (26, .invokevirtual 51, 3), (29, .aload_n 0, 1), (30, .getfield 7, 3), (33, .bipush 17, 2), (35, .invokevirtual 57, 3), (38, .goto 20, 3), (41, .aload_n 0, 1), (42, .getfield 7, 3), (45, .invokevirtual 25, 3), (48, .invokestatic 76, 3), (51, .ifCond .eq 13, 3), (54, .aload_n 0, 1), (55, .invokevirtual 70, 3), (58, .iinc 1 1, 3), (61, .goto (-55), 3), (64, .return_, 1)]
theorem dT80_ok : dT80.all (dck 80) = true := by decide +kernel
set_option maxRecDepth 100000 in
def dT81 : List (Nat × Instr × Nat) := [(0, .aload_n 0, 1), (1, .getfield 7, 3), (4, .invokevirtual 25, 3), (7, .lookupswitch 130 #[(2, 57), (3, 57), (14, 67), (20, 90), (22, 98), (47, 123)], 57), (64, .aload_n 0, 1), (65, .getfield 7, 3), (68, .invokevirtual 79, 3), (71, .goto 73, 3), (74, .aload_n 0, 1), (75, .getfield 7, 3), (78, .invokevirtual 35, 3), (81, .aload_n 0, 1), (82, .invokevirtual 19, 3), (85, .aload_n 0, 1), (86, .getfield 7, 3), (89, .bipush 15, 2), (91, .invokevirtual 57, 3), (94, .goto 50, 3), (97, .aload_n 0, 1), (98, .iconst 0, 1), (99, .invokevirtual 82, 3), (102, .goto 42, 3), (105, .aload_n 0, 1), (106, .getfield 7, 3), (109, .invokevirtual 35, 3), (112, .aload_n 0, 1), (113, .invokevirtual 86, 3), (116, .aload_n 0, 1), (117, .invokevirtual 70, 3), (120, .aload_n 0, 1), (121, .getfield 7, 3), (124, .invokevirtual 42, 3), (127, .goto 17, 3), (130, .aload_n 0, 1), (131, .invokevirtual 89, 3), (134, .goto 10, 3), (137, .aload_n 0, 1), (138, .getfield 7, 3), (141, .invokevirtual 92, 3), (144, .return_, 1)]
theorem dT81_ok : dT81.all (dck 81) = true := by decide +kernel
set_option maxRecDepth 100000 in
def dT82 : List (Nat × Instr × Nat) := [(0, .aload_n 0, 1), (1, .getfield 7, 3), (4, .aload_n 0, 1), (5, .getfield 7, 3), (8, .invokevirtual 98, 3), (11, .invokevirtual 101, 3), (14, .istore_n 1, 1), (15, .aload_n 0, 1), (16, .getfield 7, 3), (19, .invokevirtual 25, 3), (22, .iconst 3, 1), (23, .if_icmp .ne 14, 3), (26, .iload_n 1, 1), (27, .ifCond .ne 10, 3), (30, .aload_n 0, 1), (31, .getfield 7, 3), (34, .invokevirtual 92, 3), (37, .aload_n 0, 1), (38, .getfield 7, 3), (41, .iload_n 1, 1), (42, .bipush 8, 2), (44, .if_icmp .le 7, 3), (47, .iconst 1, 1), (48, .goto 4, 3), (51, .iconst 0, 1), (52, .invokevirtual 95, 3), (55, .aload_n 0, 1), (56, .getfield 7, 3), (59, .iconst 3, 1), (60, .invokevirtual 38, 3), (63, .return_, 1)]
theorem dT82_ok : dT82.all (dck 82) = true := by decide +kernel
set_option maxRecDepth 100000 in
def dT83 : List (Nat × Instr × Nat) := [(0, .aload_n 0, 1), (1, .getfield 151, 3), (4, .ireturn, 1)]
theorem dT83_ok : dT83.all (dck 83) = true := by decide +kernel
set_option maxRecDepth 100000 in
def dT84 : List (Nat × Instr × Nat) := [(0, .iload_n 1, 1), (1, .ifCond .lt 20, 3), (4, .iload_n 1, 1), (5, .aload_n 0, 1), (6, .getfield 66, 3), (9, .if_icmp .ge 12, 3), (12, .aload_n 0, 1), (13, .getfield 16, 3), (16, .iload_n 1, 1), (17, .iaload, 1), (18, .goto 4, 3), (21, .iconst 0, 1), (22, .ireturn, 1)]
theorem dT84_ok : dT84.all (dck 84) = true := by decide +kernel
set_option maxRecDepth 100000 in
def dT85 : List (Nat × Instr × Nat) := [(0, .aload_n 0, 1), (1, .getfield 7, 3), (4, .invokevirtual 79, 3), (7, .aload_n 0, 1), (8, .getfield 7, 3), (11, .bipush 14, 2), (13, .invokevirtual 54, 3), (16, .aload_n 0, 1), (17, .invokevirtual 19, 3), (20, .aload_n 0, 1), (21, .getfield 7, 3), (24, .bipush 12, 2), (26, .invokevirtual 38, 3), (29, .aload_n 0, 1), (30, .invokevirtual 19, 3), (33, .aload_n 0, 1), (34, .getfield 7, 3), (37, .bipush 12, 2), (39, .invokevirtual 38, 3), (42, .aload_n 0, 1), (43, .invokevirtual 19, 3), (46, .aload_n 0, 1), (47, .getfield 7, 3), (50, .bipush 15, 2), (52, .invokevirtual 57, 3), (55, .return_, 1)]
theorem dT85_ok : dT85.all (dck 85) = true := by decide +kernel
set_option maxRecDepth 100000 in
def dT86 : List (Nat × Instr × Nat) := [(0, .iload_n 0, 1), (1, .iconst 3, 1), (2, .if_icmp .eq 32, 3), (5, .iload_n 0, 1), (6, .iconst 2, 1), (7, .if_icmp .eq 27, 3), (10, .iload_n 0, 1), (11, .bipush 14, 2), (13, .if_icmp .eq 21, 3), (16, .iload_n 0, 1), (17, .bipush 20, 2), (19, .if_icmp .eq 15, 3), (22, .iload_n 0, 1), (23, .bipush 22, 2), (25, .if_icmp .eq 9, 3), (28, .iload_n 0, 1), (29, .bipush 47, 2), (31, .if_icmp .ne 7, 3), (34, .iconst 1, 1), (35, .goto 4, 3), (38, .iconst 0, 1), (39, .ireturn, 1)]
theorem dT86_ok : dT86.all (dck 86) = true := by decide +kernel
set_option maxRecDepth 100000 in
def dT87 : List (Nat × Instr × Nat) := [(0, .aload_n 0, 1), (1, .invokevirtual 161, 3), (4, .iconst 1, 1), (5, .if_icmp .eq 7, 3), (8, .aload_n 0, 1), (9, .invokevirtual 167, 3), (12, .return_, 1)]
theorem dT87_ok : dT87.all (dck 87) = true := by decide +kernel
set_option maxRecDepth 100000 in
def dT88 : List (Nat × Instr × Nat) := [(0, .aload_n 0, 1), (1, .getfield 80, 3), (4, .ifCond .eq 7, 3), (7, .iconst 1, 1), (8, .goto 4, 3), (11, .iconst 0, 1), (12, .ireturn, 1)]
theorem dT88_ok : dT88.all (dck 88) = true := by decide +kernel
set_option maxRecDepth 100000 in
def dT90 : List (Nat × Instr × Nat) := [(0, .aload_n 0, 1), (1, .iconst 0, 1), (2, .iload_n 1, 1), (3, .aload_n 0, 1), (4, .getfield 66, 3), (7, .iconst 1, 1), (8, .isub, 1), (9, .invokestatic 50, 3), (12, .invokestatic 56, 3), (15, .putfield 151, 3), (18, .return_, 1)]
theorem dT90_ok : dT90.all (dck 90) = true := by decide +kernel
set_option maxRecDepth 100000 in
def dT104 : List (Nat × Instr × Nat) := [(0, .aload_n 0, 1), (1, .aload_n 0, 1), (2, .getfield 151, 3), (5, .iload_n 1, 1), (6, .iadd, 1), (7, .invokevirtual 154, 3), (10, .return_, 1)]
theorem dT104_ok : dT104.all (dck 104) = true := by decide +kernel
set_option maxRecDepth 100000 in
def dT108 : List (Nat × Instr × Nat) := [(0, .iload_n 1, 1), (1, .ifCond .lt 20, 3), (4, .iload_n 1, 1), (5, .aload_n 0, 1), (6, .getfield 66, 3), (9, .if_icmp .ge 12, 3), (12, .aload_n 0, 1), (13, .getfield 19, 3), (16, .iload_n 1, 1), (17, .laload, 1), (18, .goto 4, 3), (21, .lconst 0, 1), (22, .lreturn, 1)]
theorem dT108_ok : dT108.all (dck 108) = true := by decide +kernel
set_option maxRecDepth 100000 in
def dT175 : List (Nat × Instr × Nat) := [(0, .aload_n 0, 1), (1, .getfield 80, 3), (4, .ireturn, 1)]
theorem dT175_ok : dT175.all (dck 175) = true := by decide +kernel
set_option maxRecDepth 100000 in
def dT176 : List (Nat × Instr × Nat) := [(0, .iload_n 1, 1), (1, .ifCond .lt 11, 3), (4, .iload_n 1, 1), (5, .aload_n 0, 1), (6, .getfield 96, 3), (9, .if_icmp .le 5, 3), (12, .iconst (-1), 1), (13, .ireturn, 1), (14, .aload_n 0, 1), (15, .iload_n 1, 1), (16, .iconst 1, 1), (17, .invokevirtual 104, 3), (20, .aload_n 0, 1), (21, .getfield 67, 3), (24, .invokevirtual 131, 3), (27, .aload_n 0, 1), (28, .getfield 16, 3), (31, .invokevirtual 111, 3), (34, .ifCond .ne 10, 3), (37, .aload_n 0, 1), (38, .getfield 83, 3), (41, .invokevirtual 132, 3), (44, .aload_n 0, 1), (45, .getfield 16, 3), (48, .invokevirtual 111, 3), (51, .ifCond .ne 15, 3), (54, .aload_n 0, 1), (55, .getfield 74, 3), (58, .invokevirtual 134, 3), (61, .aload_n 0, 1), (62, .iconst 2, 1), (63, .putfield 125, 3), (66, .aload_n 0, 1), (67, .getfield 16, 3), (70, .invokevirtual 128, 3), (73, .ireturn, 1)]
theorem dT176_ok : dT176.all (dck 176) = true := by decide +kernel
set_option maxRecDepth 100000 in
def dT177 : List (Nat × Instr × Nat) := [(0, .aload_n 0, 1), (1, .getfield 13, 3), (4, .sipush 1200, 3), (7, .bipush 30, 2), (9, .invokevirtual 21, 3), (12, .aload_n 0, 1), (13, .iconst 0, 1), (14, .putfield 17, 3), (17, .iconst 1, 1), (18, .istore_n 1, 1), (19, .iconst 0, 1), (20, .istore_n 2, 1), (21, .iload_n 2, 1), (22, .bipush 40, 2), (24, .if_icmp .gt 119, 3), (27, .iload_n 1, 1), (28, .ifCond .eq 115, 3), (31, .aload_n 0, 1), (32, .getfield 13, 3), (35, .iload_n 2, 1), (36, .bipush 40, 2), (38, .if_icmp .lt 7, 3), (41, .iconst 1, 1), (42, .goto 4, 3), (45, .iconst 0, 1), (46, .invokevirtual 27, 3), (49, .aload_n 0, 1), (50, .invokevirtual 31, 3), (53, .iconst 1, 1), (54, .istore_n 3, 1), (55, .iconst 0, 1), (56, .istore 4, 2), (58, .iload 4, 2), (60, .sipush 1202, 3), (63, .if_icmp .ge 57, 3), (66, .iload_n 3, 1), (67, .ifCond .eq 53, 3), (70, .aload_n 0, 1), (71, .getfield 13, 3), (74, .invokevirtual 34, 3), (77, .ifCond .ne 43, 3), (80, .aload_n 0, 1), (81, .getfield 13, 3), (84, .invokevirtual 38, 3), (87, .bipush 74, 2), (89, .if_icmp .eq 19, 3), (92, .aload_n 0, 1), (93, .getfield 13, 3), (96, .invokevirtual 38, 3), (99, .bipush 75, 2), (101, .if_icmp .eq 7, 3), (104, .iconst 1, 1), (105, .goto 4, 3), (108, .iconst 0, 1), (109, .istore_n 3, 1), (110, .aload_n 0, 1), (111, .invokevirtual 42, 3), (114, .iinc 4 1, 3), (117, .goto (-59), 3), (120, .aload_n 0, 1), (121, .getfield 13, 3), (124, .invokevirtual 38, 3), (127, .iconst 2, 1), (128, .if_icmp .ne 7, 3), (131, .iconst 1, 1), (132, .goto 4, 3), (135, .iconst 0, 1), (136, .istore_n 1, 1), (137, .iinc 2 1, 3), (140, .goto (-119), 3), (143, .aload_n 0, 1), (144, .getfield 13, 3), (147, .invokevirtual 45, 3), (150, .return_, 1)]
theorem dT177_ok : dT177.all (dck 177) = true := by decide +kernel
end
section
set_option maxRecDepth 100000 in
def dT178 : List (Nat × Instr × Nat) := [(0, .aload_n 0, 1), (1, .getfield 17, 3), (4, .bipush 40, 2), (6, .if_icmp .ge 29, 3), (9, .aload_n 0, 1), (10, .getfield 9, 3), (13, .aload_n 0, 1), (14, .getfield 17, 3), (17, .aload_n 0, 1), (18, .getfield 13, 3), (21, .invokevirtual 48, 3), (24, .iastore, 1), (25, .aload_n 0, 1), (26, .dup, 1), (27, .getfield 17, 3), (30, .iconst 1, 1), (31, .iadd, 1), (32, .putfield 17, 3), (35, .aload_n 0, 1), (36, .getfield 13, 3), (39, .iconst 2, 1), (40, .invokevirtual 51, 3), (43, .aload_n 0, 1), (44, .getfield 13, 3), (47, .bipush 11, 2), (49, .invokevirtual 51, 3), (52, .aload_n 0, 1), (53, .invokevirtual 55, 3), (56, .aload_n 0, 1), (57, .invokevirtual 58, 3), (60, .return_, 1)]
theorem dT178_ok : dT178.all (dck 178) = true := by decide +kernel
set_option maxRecDepth 100000 in
def dT179 : List (Nat × Instr × Nat) := [(0, .aload_n 0, 1), (1, .getfield 13, 3), (4, .bipush 16, 2), (6, .invokevirtual 61, 3), (9, .ifCond .ne 4, 3), (12, .return_, 1), (13, .aload_n 0, 1), (14, .getfield 13, 3), (17, .iconst 2, 1), (18, .invokevirtual 51, 3), (21, .iconst 1, 1), (22, .istore_n 1, 1), (23, .iload_n 1, 1), (24, .bipush 16, 2), (26, .if_icmp .gt 45, 3), (29, .aload_n 0, 1), (30, .getfield 13, 3), (33, .invokevirtual 38, 3), (36, .iconst 2, 1), (37, .if_icmp .ne 34, 3), (40, .aload_n 0, 1), (41, .getfield 13, 3), (44, .iload_n 1, 1), (45, .bipush 16, 2), (47, .if_icmp .lt 7, 3), (50, .iconst 1, 1), (51, .goto 4, 3), (54, .iconst 0, 1), (55, .invokevirtual 27, 3), (58, .aload_n 0, 1), (59, .getfield 13, 3), (62, .invokevirtual 65, 3), (65, .iinc 1 1, 3), (68, .goto (-45), 3), (71, .aload_n 0, 1), (72, .getfield 13, 3), (75, .bipush 17, 2), (77, .invokevirtual 68, 3), (80, .return_, 1)]
theorem dT179_ok : dT179.all (dck 179) = true := by decide +kernel
set_option maxRecDepth 100000 in
def dT180 : List (Nat × Instr × Nat) := [(0, .aload_n 0, 1), (1, .getfield 13, 3), (4, .bipush 18, 2), (6, .invokevirtual 71, 3), (9, .aload_n 0, 1), (10, .getfield 13, 3), (13, .invokevirtual 38, 3), (16, .bipush 19, 2), (18, .if_icmp .eq 38, 3), (21, .aload_n 0, 1), (22, .invokevirtual 74, 3), (25, .iconst 0, 1), (26, .istore_n 1, 1), (27, .iload_n 1, 1), (28, .sipush 1202, 3), (31, .if_icmp .ge 25, 3), (34, .aload_n 0, 1), (35, .getfield 13, 3), (38, .bipush 12, 2), (40, .invokevirtual 77, 3), (43, .ifCond .eq 13, 3), (46, .aload_n 0, 1), (47, .invokevirtual 74, 3), (50, .iinc 1 1, 3), (53, .goto (-26), 3), (56, .aload_n 0, 1), (57, .getfield 13, 3), (60, .bipush 19, 2), (62, .invokevirtual 68, 3), (65, .return_, 1)]
theorem dT180_ok : dT180.all (dck 180) = true := by decide +kernel
set_option maxRecDepth 100000 in
def dT181 : List (Nat × Instr × Nat) := [(0, .aload_n 0, 1), (1, .getfield 13, 3), (4, .iconst 4, 1), (5, .invokevirtual 51, 3), (8, .aload_n 0, 1), (9, .getfield 13, 3), (12, .bipush 11, 2), (14, .invokevirtual 51, 3), (17, .aload_n 0, 1), (18, .invokevirtual 80, 3), (21, .return_, 1)]
theorem dT181_ok : dT181.all (dck 181) = true := by decide +kernel
set_option maxRecDepth 100000 in
def dT182 : List (Nat × Instr × Nat) := [(0, .aload_n 0, 1), (1, .getfield 13, 3), (4, .invokevirtual 38, 3), (7, .lookupswitch 130 #[(2, 49), (20, 59), (60, 49), (61, 67), (62, 92)], 49), (56, .aload_n 0, 1), (57, .getfield 13, 3), (60, .invokevirtual 65, 3), (63, .goto 81, 3), (66, .aload_n 0, 1), (67, .iconst 1, 1), (68, .invokevirtual 83, 3), (71, .goto 73, 3), (74, .aload_n 0, 1), (75, .getfield 13, 3), (78, .invokevirtual 86, 3), (81, .aload_n 0, 1), (82, .invokevirtual 55, 3), (85, .aload_n 0, 1), (86, .invokevirtual 58, 3), (89, .aload_n 0, 1), (90, .getfield 13, 3), (93, .invokevirtual 89, 3), (96, .goto 48, 3), (99, .aload_n 0, 1), (100, .getfield 13, 3), (103, .invokevirtual 86, 3), (106, .aload_n 0, 1), (107, .getfield 13, 3), (110, .iconst 2, 1), (111, .invokevirtual 51, 3), (114, .aload_n 0, 1), (115, .getfield 13, 3), (118, .bipush 10, 2), (120, .invokevirtual 51, 3), (123, .aload_n 0, 1), (124, .invokevirtual 80, 3), (127, .aload_n 0, 1), (128, .getfield 13, 3), (131, .invokevirtual 89, 3), (134, .goto 10, 3), (137, .aload_n 0, 1), (138, .getfield 13, 3), (141, .invokevirtual 92, 3), (144, .return_, 1)]
theorem dT182_ok : dT182.all (dck 182) = true := by decide +kernel
set_option maxRecDepth 100000 in
def dT183 : List (Nat × Instr × Nat) := [(0, .aload_n 0, 1), (1, .getfield 13, 3), (4, .bipush 20, 2), (6, .invokevirtual 71, 3), (9, .aload_n 0, 1), (10, .getfield 13, 3), (13, .invokevirtual 38, 3), (16, .bipush 21, 2), (18, .if_icmp .eq 68, 3), (21, .iconst 1, 1), (22, .istore_n 2, 1), (23, .iload_n 2, 1), (24, .bipush 9, 2), (26, .if_icmp .gt 60, 3), (29, .aload_n 0, 1), (30, .getfield 13, 3), (33, .iload_n 2, 1), (34, .bipush 8, 2), (36, .if_icmp .le 7, 3), (39, .iconst 1, 1), (40, .goto 4, 3), (43, .iconst 0, 1), (44, .invokevirtual 27, 3), (47, .aload_n 0, 1), (48, .invokevirtual 80, 3), (51, .iload_n 1, 1), (52, .ifCond .eq 13, 3), (55, .aload_n 0, 1), (56, .getfield 13, 3), (59, .bipush 27, 2), (61, .invokevirtual 77, 3), (64, .pop, 1), (65, .aload_n 0, 1), (66, .getfield 13, 3), (69, .bipush 12, 2), (71, .invokevirtual 77, 3), (74, .ifCond .ne 6, 3), (77, .goto 9, 3), (80, .iinc 2 1, 3), (83, .goto (-60), 3), (86, .aload_n 0, 1), (87, .getfield 13, 3), (90, .bipush 21, 2), (92, .invokevirtual 68, 3), (95, .return_, 1)]
theorem dT183_ok : dT183.all (dck 183) = true := by decide +kernel
set_option maxRecDepth 100000 in
def dT184 : List (Nat × Instr × Nat) := [(0, .aload_n 0, 1), (1, .getfield 13, 3), (4, .invokevirtual 38, 3), (7, .istore_n 1, 1), (8, .iload_n 1, 1), (9, .bipush 65, 2), (11, .if_icmp .lt 9, 3), (14, .iload_n 1, 1), (15, .bipush 75, 2), (17, .if_icmp .le 11, 3), (20, .aload_n 0, 1), (21, .getfield 13, 3), (24, .invokevirtual 92, 3), (27, .return_, 1), (28, .aload_n 0, 1), (29, .getfield 13, 3), (32, .invokevirtual 65, 3), (35, .iload_n 1, 1), (36, .tableswitch 168 65 74 #[56, 67, 67, 67, 82, 93, 117, 56, 133, 161], 56), (92, .aload_n 0, 1), (93, .invokevirtual 95, 3), (96, .aload_n 0, 1), (97, .invokevirtual 98, 3), (100, .goto 104, 3), (103, .aload_n 0, 1), (104, .invokevirtual 95, 3), (107, .aload_n 0, 1), (108, .invokevirtual 95, 3), (111, .aload_n 0, 1), (112, .invokevirtual 98, 3), (115, .goto 89, 3), (118, .aload_n 0, 1), (119, .invokevirtual 95, 3), (122, .aload_n 0, 1), (123, .invokevirtual 101, 3), (126, .goto 78, 3), (129, .aload_n 0, 1), (130, .invokevirtual 101, 3), (133, .aload_n 0, 1), (134, .getfield 13, 3), (137, .bipush 12, 2), (139, .invokevirtual 51, 3), (142, .aload_n 0, 1), (143, .getfield 13, 3), (146, .iconst 4, 1), (147, .invokevirtual 51, 3), (150, .goto 54, 3), (153, .aload_n 0, 1), (154, .getfield 13, 3), (157, .iconst 4, 1), (158, .invokevirtual 51, 3), (161, .aload_n 0, 1), (162, .iconst 0, 1), (163, .invokevirtual 83, 3), (166, .goto 38, 3), (169, .aload_n 0, 1), (170, .getfield 13, 3), (173, .iconst 2, 1), (174, .invokevirtual 51, 3), (177, .aload_n 0, 1), (178, .getfield 13, 3), (181, .bipush 12, 2), (183, .invokevirtual 51, 3), (186, .aload_n 0, 1), (187, .invokevirtual 95, 3), (190, .aload_n 0, 1), (191, .invokevirtual 98, 3), (194, .goto 10, 3), (197, .aload_n 0, 1), (198, .invokevirtual 98, 3), (201, .goto 3, 3), (204, .aload_n 0, 1), (205, .getfield 13, 3), (208, .bipush 13, 2), (210, .invokevirtual 51, 3), (213, .return_, 1)]
theorem dT184_ok : dT184.all (dck 184) = true := by decide +kernel
set_option maxRecDepth 100000 in
def dT185 : List (Nat × Instr × Nat) := [(0, .aload_n 0, 1), (1, .getfield 13, 3), (4, .iconst 4, 1), (5, .invokevirtual 51, 3), (8, .aload_n 0, 1), (9, .getfield 13, 3), (12, .bipush 12, 2), (14, .invokevirtual 51, 3), (17, .return_, 1)]
theorem dT185_ok : dT185.all (dck 185) = true := by decide +kernel
set_option maxRecDepth 100000 in
def dT186 : List (Nat × Instr × Nat) := [(0, .aload_n 0, 1), (1, .getfield 13, 3), (4, .invokevirtual 38, 3), (7, .lookupswitch 84 #[(2, 49), (3, 49), (4, 49), (24, 59), (63, 77)], 49), (56, .aload_n 0, 1), (57, .getfield 13, 3), (60, .invokevirtual 65, 3), (63, .goto 35, 3), (66, .aload_n 0, 1), (67, .getfield 13, 3), (70, .invokevirtual 65, 3), (73, .aload_n 0, 1), (74, .getfield 13, 3), (77, .iconst 3, 1), (78, .invokevirtual 51, 3), (81, .goto 17, 3), (84, .aload_n 0, 1), (85, .invokevirtual 108, 3), (88, .goto 10, 3), (91, .aload_n 0, 1), (92, .getfield 13, 3), (95, .invokevirtual 92, 3), (98, .iconst 0, 1), (99, .istore_n 1, 1), (100, .iload_n 1, 1), (101, .sipush 1202, 3), (104, .if_icmp .ge 34, 3), (107, .aload_n 0, 1), (108, .getfield 13, 3), (111, .bipush 16, 2), (113, .invokevirtual 61, 3), (116, .ifCond .eq 22, 3), (119, .aload_n 0, 1), (120, .invokevirtual 80, 3), (123, .aload_n 0, 1), (124, .getfield 13, 3), (127, .bipush 17, 2), (129, .invokevirtual 68, 3), (132, .iinc 1 1, 3), (135, .goto (-35), 3), (138, .return_, 1)]
theorem dT186_ok : dT186.all (dck 186) = true := by decide +kernel
set_option maxRecDepth 100000 in
def dT187 : List (Nat × Instr × Nat) := [(0, .aload_n 0, 1), (1, .getfield 13, 3), (4, .invokevirtual 86, 3), (7, .aload_n 0, 1), (8, .getfield 13, 3), (11, .bipush 16, 2), (13, .invokevirtual 71, 3), (16, .aload_n 0, 1), (17, .invokevirtual 80, 3), (20, .aload_n 0, 1), (21, .getfield 13, 3), (24, .bipush 12, 2), (26, .invokevirtual 51, 3), (29, .aload_n 0, 1), (30, .invokevirtual 98, 3), (33, .aload_n 0, 1), (34, .getfield 13, 3), (37, .bipush 17, 2), (39, .invokevirtual 68, 3), (42, .aload_n 0, 1), (43, .getfield 13, 3), (46, .bipush 64, 2), (48, .invokevirtual 51, 3), (51, .aload_n 0, 1), (52, .invokevirtual 80, 3), (55, .aload_n 0, 1), (56, .getfield 13, 3), (59, .invokevirtual 89, 3), (62, .return_, 1)]
theorem dT187_ok : dT187.all (dck 187) = true := by decide +kernel
end
section
set_option maxRecDepth 100000 in
def dT188 : List (Nat × Instr × Nat) := [(0, .aload_n 0, 1), (1, .getfield 13, 3), (4, .iconst 4, 1), (5, .invokevirtual 51, 3), (8, .aload_n 0, 1), (9, .getfield 13, 3), (12, .bipush 14, 2), (14, .invokevirtual 71, 3), (17, .aload_n 0, 1), (18, .getfield 13, 3), (21, .aload_n 0, 1), (22, .getfield 13, 3), (25, .aload_n 0, 1), (26, .getfield 13, 3), (29, .invokevirtual 48, 3), (32, .invokevirtual 104, 3), (35, .bipush 7, 2), (37, .if_icmp .le 7, 3), (40, .iconst 1, 1), (41, .goto 4, 3), (44, .iconst 0, 1), (45, .invokevirtual 27, 3), (48, .aload_n 0, 1), (49, .getfield 13, 3), (52, .iconst 3, 1), (53, .invokevirtual 51, 3), (56, .aload_n 0, 1), (57, .getfield 13, 3), (60, .bipush 15, 2), (62, .invokevirtual 68, 3), (65, .return_, 1)]
theorem dT188_ok : dT188.all (dck 188) = true := by decide +kernel
set_option maxRecDepth 100000 in
def dT192 : List (Nat × Instr × Nat) := [(0, .aload_n 0, 1), (1, .getfield 17, 3), (4, .ireturn, 1)]
theorem dT192_ok : dT192.all (dck 192) = true := by decide +kernel
set_option maxRecDepth 100000 in
def dT193 : List (Nat × Instr × Nat) := [(0, .iload_n 1, 1), (1, .ifCond .lt 20, 3), (4, .iload_n 1, 1), (5, .aload_n 0, 1), (6, .getfield 17, 3), (9, .if_icmp .ge 12, 3), (12, .aload_n 0, 1), (13, .getfield 9, 3), (16, .iload_n 1, 1), (17, .iaload, 1), (18, .goto 4, 3), (21, .iconst 0, 1), (22, .ireturn, 1)]
theorem dT193_ok : dT193.all (dck 193) = true := by decide +kernel
set_option maxRecDepth 100000 in
def dT250 : List (Nat × Instr × Nat) := [(0, .aload_n 0, 1), (1, .getfield 16, 3), (4, .invokevirtual 137, 3), (7, .ireturn, 1)]
theorem dT250_ok : dT250.all (dck 250) = true := by decide +kernel
set_option maxRecDepth 100000 in
def dT251 : List (Nat × Instr × Nat) := [(0, .aload_n 0, 1), (1, .getfield 42, 3), (4, .ireturn, 1)]
theorem dT251_ok : dT251.all (dck 251) = true := by decide +kernel
set_option maxRecDepth 100000 in
def dT252 : List (Nat × Instr × Nat) := [(0, .aload_n 0, 1), (1, .getfield 125, 3), (4, .iconst 1, 1), (5, .if_icmp .ne 14, 3), (8, .aload_n 0, 1), (9, .getfield 23, 3), (12, .iload_n 1, 1), (13, .invokevirtual 140, 3), (16, .goto 4, 3), (19, .iconst (-1), 1), (20, .ireturn, 1)]
theorem dT252_ok : dT252.all (dck 252) = true := by decide +kernel
set_option maxRecDepth 100000 in
def dT254 : List (Nat × Instr × Nat) := [(0, .aload_n 0, 1), (1, .getfield 125, 3), (4, .iconst 2, 1), (5, .if_icmp .ne 14, 3), (8, .aload_n 0, 1), (9, .getfield 74, 3), (12, .iload_n 1, 1), (13, .invokevirtual 144, 3), (16, .goto 4, 3), (19, .iconst (-1), 1), (20, .ireturn, 1)]
theorem dT254_ok : dT254.all (dck 254) = true := by decide +kernel
set_option maxRecDepth 100000 in
def dT256 : List (Nat × Instr × Nat) := [(0, .aload_n 0, 1), (1, .getfield 125, 3), (4, .iconst 2, 1), (5, .if_icmp .ne 14, 3), (8, .aload_n 0, 1), (9, .getfield 74, 3), (12, .iload_n 1, 1), (13, .invokevirtual 147, 3), (16, .goto 4, 3), (19, .iconst (-1), 1), (20, .ireturn, 1)]
theorem dT256_ok : dT256.all (dck 256) = true := by decide +kernel
set_option maxRecDepth 100000 in
def dT257 : List (Nat × Instr × Nat) := [(0, .iload_n 1, 1), (1, .ifCond .lt 28, 3), (4, .iload_n 1, 1), (5, .sipush 20000, 3), (8, .if_icmp .gt 21, 3), (11, .iload_n 2, 1), (12, .ifCond .lt 17, 3), (15, .iload_n 2, 1), (16, .sipush 20000, 3), (19, .if_icmp .gt 10, 3), (22, .aload_n 0, 1), (23, .invokevirtual 150, 3), (26, .ifCond .ne 5, 3), (29, .iconst (-1), 1), (30, .ireturn, 1), (31, .aload_n 0, 1), (32, .getfield 30, 3), (35, .iload_n 2, 1), (36, .invokevirtual 153, 3), (39, .aload_n 0, 1), (40, .getfield 125, 3), (43, .iconst 1, 1), (44, .if_icmp .ne 14, 3), (47, .aload_n 0, 1), (48, .getfield 60, 3), (51, .iload_n 1, 1), (52, .invokevirtual 156, 3), (55, .goto 11, 3), (58, .aload_n 0, 1), (59, .getfield 92, 3), (62, .iload_n 1, 1), (63, .invokevirtual 159, 3), (66, .istore_n 3, 1), (67, .aload_n 0, 1), (68, .iconst 1, 1), (69, .putfield 160, 3), (72, .aload_n 0, 1), (73, .iload_n 3, 1), (74, .ifCond .ne 7, 3), (77, .iconst 1, 1), (78, .goto 4, 3), (81, .iconst 0, 1), (82, .putfield 164, 3), (85, .iload_n 3, 1), (86, .ireturn, 1)]
theorem dT257_ok : dT257.all (dck 257) = true := by decide +kernel
set_option maxRecDepth 100000 in
def dT258 : List (Nat × Instr × Nat) := [(0, .aload_n 0, 1), (1, .getfield 125, 3), (4, .iconst 2, 1), (5, .if_icmp .eq 25, 3), (8, .aload_n 0, 1), (9, .getfield 125, 3), (12, .iconst 1, 1), (13, .if_icmp .ne 21, 3), (16, .aload_n 0, 1), (17, .getfield 119, 3), (20, .aload_n 0, 1), (21, .getfield 23, 3), (24, .invokevirtual 195, 3), (27, .if_icmp .ne 7, 3), (30, .iconst 1, 1), (31, .goto 4, 3), (34, .iconst 0, 1), (35, .ireturn, 1)]
theorem dT258_ok : dT258.all (dck 258) = true := by decide +kernel
set_option maxRecDepth 100000 in
def dT300 : List (Nat × Instr × Nat) := [(0, .aload_n 0, 1), (1, .getfield 160, 3), (4, .ifCond .eq 10, 3), (7, .aload_n 0, 1), (8, .getfield 164, 3), (11, .ifCond .ne 5, 3), (14, .iconst 0, 1), (15, .ireturn, 1), (16, .aload_n 0, 1), (17, .getfield 125, 3), (20, .iconst 1, 1), (21, .if_icmp .ne 13, 3), (24, .aload_n 0, 1), (25, .getfield 60, 3), (28, .invokevirtual 167, 3), (31, .goto 11, 3), (34, .aload_n 0, 1), (35, .getfield 92, 3), (38, .iconst 1, 1), (39, .invokevirtual 170, 3), (42, .ireturn, 1)]
theorem dT300_ok : dT300.all (dck 300) = true := by decide +kernel
set_option maxRecDepth 100000 in
def dT302 : List (Nat × Instr × Nat) := [(0, .iload_n 1, 1), (1, .tableswitch 151 0 6 #[43, 62, 78, 105, 121, 126, 131], 43), (44, .aload_n 0, 1), (45, .getfield 160, 3), (48, .ifCond .eq 13, 3), (51, .aload_n 0, 1), (52, .getfield 30, 3), (55, .invokevirtual 173, 3), (58, .goto 4, 3), (61, .iconst 0, 1), (62, .ireturn, 1), (63, .aload_n 0, 1), (64, .getfield 160, 3), (67, .ifCond .eq 10, 3), (70, .aload_n 0, 1), (71, .invokevirtual 176, 3), (74, .goto 4, 3), (77, .iconst 0, 1), (78, .ireturn, 1), (79, .aload_n 0, 1), (80, .getfield 160, 3), (83, .ifCond .eq 21, 3), (86, .aload_n 0, 1), (87, .getfield 125, 3), (90, .iconst 1, 1), (91, .if_icmp .ne 13, 3), (94, .aload_n 0, 1), (95, .getfield 60, 3), (98, .invokevirtual 179, 3), (101, .goto 4, 3), (104, .iconst 0, 1), (105, .ireturn, 1), (106, .aload_n 0, 1), (107, .getfield 160, 3), (110, .ifCond .eq 10, 3), (113, .aload_n 0, 1), (114, .invokevirtual 182, 3), (117, .goto 4, 3), (120, .iconst 0, 1), (121, .ireturn, 1), (122, .aload_n 0, 1), (123, .getfield 125, 3), (126, .ireturn, 1), (127, .aload_n 0, 1), (128, .getfield 96, 3), (131, .ireturn, 1), (132, .aload_n 0, 1), (133, .getfield 125, 3), (136, .iconst 2, 1), (137, .if_icmp .ne 13, 3), (140, .aload_n 0, 1), (141, .getfield 74, 3), (144, .invokevirtual 185, 3), (147, .goto 4, 3), (150, .iconst 0, 1), (151, .ireturn, 1), (152, .iconst (-1), 1), (153, .ireturn, 1)]
theorem dT302_ok : dT302.all (dck 302) = true := by decide +kernel
set_option maxRecDepth 100000 in
def dT304 : List (Nat × Instr × Nat) := [(0, .aload_n 0, 1), (1, .getfield 125, 3), (4, .iconst 1, 1), (5, .if_icmp .ne 13, 3), (8, .aload_n 0, 1), (9, .getfield 60, 3), (12, .invokevirtual 198, 3), (15, .goto 10, 3), (18, .aload_n 0, 1), (19, .getfield 92, 3), (22, .invokevirtual 201, 3), (25, .ireturn, 1)]
theorem dT304_ok : dT304.all (dck 304) = true := by decide +kernel
set_option maxRecDepth 100000 in
def dT308 : List (Nat × Instr × Nat) := [(0, .aload_n 0, 1), (1, .getfield 125, 3), (4, .iconst 1, 1), (5, .if_icmp .ne 13, 3), (8, .aload_n 0, 1), (9, .getfield 60, 3), (12, .invokevirtual 204, 3), (15, .goto 10, 3), (18, .aload_n 0, 1), (19, .getfield 92, 3), (22, .invokevirtual 207, 3), (25, .ireturn, 1)]
theorem dT308_ok : dT308.all (dck 308) = true := by decide +kernel
set_option maxRecDepth 100000 in
def dT312 : List (Nat × Instr × Nat) := [(0, .aload_n 0, 1), (1, .getfield 160, 3), (4, .ifCond .eq 22, 3), (7, .aload_n 0, 1), (8, .getfield 125, 3), (11, .iconst 2, 1), (12, .if_icmp .ne 14, 3), (15, .aload_n 0, 1), (16, .getfield 92, 3), (19, .iload_n 1, 1), (20, .invokevirtual 170, 3), (23, .goto 4, 3), (26, .iconst 0, 1), (27, .ireturn, 1)]
theorem dT312_ok : dT312.all (dck 312) = true := by decide +kernel
set_option maxRecDepth 100000 in
def dT313 : List (Nat × Instr × Nat) := [(0, .aload_n 0, 1), (1, .getfield 160, 3), (4, .ifCond .eq 22, 3), (7, .aload_n 0, 1), (8, .getfield 125, 3), (11, .iconst 2, 1), (12, .if_icmp .ne 14, 3), (15, .aload_n 0, 1), (16, .getfield 30, 3), (19, .iload_n 1, 1), (20, .invokevirtual 188, 3), (23, .goto 4, 3), (26, .iconst 0, 1), (27, .ireturn, 1)]
theorem dT313_ok : dT313.all (dck 313) = true := by decide +kernel
set_option maxRecDepth 100000 in
def dT315 : List (Nat × Instr × Nat) := [(0, .aload_n 0, 1), (1, .getfield 237, 3), (4, .bipush 20, 2), (6, .iadd, 1), (7, .sipush 6000, 3), (10, .if_icmp .le 5, 3), (13, .iconst 0, 1), (14, .ireturn, 1), (15, .aload_n 0, 1), (16, .iload_n 1, 1), (17, .invokevirtual 240, 3), (20, .aload_n 0, 1), (21, .iload_n 2, 1), (22, .invokevirtual 240, 3), (25, .aload_n 0, 1), (26, .iload_n 3, 1), (27, .invokevirtual 240, 3), (30, .aload_n 0, 1), (31, .iload 4, 2), (33, .invokevirtual 240, 3), (36, .aload_n 0, 1), (37, .iload 5, 2), (39, .invokevirtual 240, 3), (42, .iconst 1, 1), (43, .ireturn, 1)]
theorem dT315_ok : dT315.all (dck 315) = true := by decide +kernel
set_option maxRecDepth 100000 in
def dT316 : List (Nat × Instr × Nat) := [(0, .iconst 3, 1), (1, .istore_n 2, 1), (2, .iload_n 2, 1), (3, .ifCond .lt 38, 3), (6, .aload_n 0, 1), (7, .getfield 7, 3), (10, .aload_n 0, 1), (11, .getfield 237, 3), (14, .iload_n 1, 1), (15, .bipush 8, 2), (17, .iload_n 2, 1), (18, .imul, 1), (19, .ishr, 1), (20, .sipush 255, 3), (23, .iand, 1), (24, .iastore, 1), (25, .aload_n 0, 1), (26, .aload_n 0, 1), (27, .getfield 237, 3), (30, .iconst 1, 1), (31, .iadd, 1), (32, .putfield 237, 3), (35, .iinc 2 (-1), 3), (38, .goto (-36), 3), (41, .return_, 1)]
theorem dT316_ok : dT316.all (dck 316) = true := by decide +kernel
end
section
set_option maxRecDepth 100000 in
def dT317 : List (Nat × Instr × Nat) := [(0, .iload_n 1, 1), (1, .ifCond .lt 11, 3), (4, .iload_n 1, 1), (5, .aload_n 0, 1), (6, .getfield 237, 3), (9, .if_icmp .le 5, 3), (12, .iconst (-1), 1), (13, .ireturn, 1), (14, .aload_n 0, 1), (15, .iconst 0, 1), (16, .putfield 237, 3), (19, .aload_n 0, 1), (20, .iconst 0, 1), (21, .iload_n 1, 1), (22, .invokevirtual 571, 3), (25, .aload_n 0, 1), (26, .iconst 0, 1), (27, .putfield 575, 3), (30, .aload_n 0, 1), (31, .invokevirtual 578, 3), (34, .aload_n 0, 1), (35, .iconst 0, 1), (36, .putfield 325, 3), (39, .aload_n 0, 1), (40, .invokevirtual 581, 3), (43, .aload_n 0, 1), (44, .getfield 319, 3), (47, .ifCond .ne 12, 3), (50, .aload_n 0, 1), (51, .iconst 1, 1), (52, .putfield 325, 3), (55, .aload_n 0, 1), (56, .invokevirtual 581, 3), (59, .aload_n 0, 1), (60, .invokevirtual 584, 3), (63, .ifCond .eq 8, 3), (66, .aload_n 0, 1), (67, .getfield 319, 3), (70, .ireturn, 1), (71, .aload_n 0, 1), (72, .iconst 1, 1), (73, .putfield 575, 3), (76, .iconst 0, 1), (77, .ireturn, 1)]
theorem dT317_ok : dT317.all (dck 317) = true := by decide +kernel
set_option maxRecDepth 100000 in
def dT318 : List (Nat × Instr × Nat) := [(0, .aload_n 0, 1), (1, .iload_n 1, 1), (2, .putfield 299, 3), (5, .aload_n 0, 1), (6, .iload_n 2, 1), (7, .putfield 244, 3), (10, .iconst 0, 1), (11, .istore_n 3, 1), (12, .iload_n 3, 1), (13, .iload_n 2, 1), (14, .if_icmp .ge 21, 3), (17, .aload_n 0, 1), (18, .getfield 13, 3), (21, .iload_n 3, 1), (22, .aload_n 0, 1), (23, .getfield 7, 3), (26, .iload_n 3, 1), (27, .iaload, 1), (28, .iastore, 1), (29, .iinc 3 1, 3), (32, .goto (-20), 3), (35, .aload_n 0, 1), (36, .iconst 0, 1), (37, .putfield 319, 3), (40, .aload_n 0, 1), (41, .iconst 0, 1), (42, .putfield 331, 3), (45, .return_, 1)]
theorem dT318_ok : dT318.all (dck 318) = true := by decide +kernel
set_option maxRecDepth 100000 in
def dT319 : List (Nat × Instr × Nat) := [(0, .aload_n 0, 1), (1, .iconst 0, 1), (2, .putfield 593, 3), (5, .aload_n 0, 1), (6, .iconst 0, 1), (7, .putfield 641, 3), (10, .aload_n 0, 1), (11, .iconst 0, 1), (12, .putfield 623, 3), (15, .aload_n 0, 1), (16, .iconst 0, 1), (17, .putfield 644, 3), (20, .aload_n 0, 1), (21, .iconst 0, 1), (22, .putfield 614, 3), (25, .aload_n 0, 1), (26, .iconst 0, 1), (27, .putfield 878, 3), (30, .return_, 1)]
theorem dT319_ok : dT319.all (dck 319) = true := by decide +kernel
set_option maxRecDepth 100000 in
def dT320 : List (Nat × Instr × Nat) := [(0, .aload_n 0, 1), (1, .sipush 400, 3), (4, .putfield 254, 3), (7, .aload_n 0, 1), (8, .invokevirtual 587, 3), (11, .aload_n 0, 1), (12, .iconst 0, 1), (13, .putfield 371, 3), (16, .aload_n 0, 1), (17, .iconst 0, 1), (18, .putfield 374, 3), (21, .aload_n 0, 1), (22, .iconst 0, 1), (23, .putfield 490, 3), (26, .aload_n 0, 1), (27, .iconst 0, 1), (28, .putfield 393, 3), (31, .aload_n 0, 1), (32, .iconst 0, 1), (33, .putfield 414, 3), (36, .aload_n 0, 1), (37, .iconst 0, 1), (38, .putfield 436, 3), (41, .aload_n 0, 1), (42, .iconst 0, 1), (43, .putfield 548, 3), (46, .aload_n 0, 1), (47, .iconst 0, 1), (48, .putfield 430, 3), (51, .aload_n 0, 1), (52, .iconst 1, 1), (53, .putfield 551, 3), (56, .aload_n 0, 1), (57, .iconst 0, 1), (58, .putfield 433, 3), (61, .aload_n 0, 1), (62, .getfield 68, 3), (65, .iconst 0, 1), (66, .iconst 0, 1), (67, .iastore, 1), (68, .aload_n 0, 1), (69, .getfield 71, 3), (72, .iconst 0, 1), (73, .iconst 0, 1), (74, .iastore, 1), (75, .aload_n 0, 1), (76, .aload_n 0, 1), (77, .invokevirtual 380, 3), (80, .putfield 508, 3), (83, .aload_n 0, 1), (84, .iconst 0, 1), (85, .invokevirtual 377, 3), (88, .aload_n 0, 1), (89, .aload_n 0, 1), (90, .getfield 508, 3), (93, .invokevirtual 384, 3), (96, .pop, 1), (97, .aload_n 0, 1), (98, .aload_n 0, 1), (99, .invokevirtual 469, 3), (102, .putfield 590, 3), (105, .aload_n 0, 1), (106, .invokevirtual 337, 3), (109, .ifCond .ne 14, 3), (112, .aload_n 0, 1), (113, .getfield 273, 3), (116, .ifCond .eq 7, 3), (119, .aload_n 0, 1), (120, .invokevirtual 347, 3), (123, .aload_n 0, 1), (124, .bipush 14, 2), (126, .iconst 0, 1), (127, .invokevirtual 496, 3), (130, .pop, 1), (131, .aload_n 0, 1), (132, .getfield 325, 3), (135, .ifCond .eq 26, 3), (138, .aload_n 0, 1), (139, .invokevirtual 337, 3), (142, .ifCond .ne 19, 3), (145, .aload_n 0, 1), (146, .getfield 331, 3), (149, .ifCond .ne 12, 3), (152, .aload_n 0, 1), (153, .iconst 0, 1), (154, .aload_n 0, 1), (155, .getfield 430, 3), (158, .invokevirtual 554, 3), (161, .return_, 1)]
theorem dT320_ok : dT320.all (dck 320) = true := by decide +kernel
set_option maxRecDepth 100000 in
def dT321 : List (Nat × Instr × Nat) := [(0, .aload_n 0, 1), (1, .iconst 0, 1), (2, .putfield 264, 3), (5, .aload_n 0, 1), (6, .iconst 0, 1), (7, .putfield 251, 3), (10, .aload_n 0, 1), (11, .iconst 0, 1), (12, .putfield 353, 3), (15, .aload_n 0, 1), (16, .invokevirtual 344, 3), (19, .return_, 1)]
theorem dT321_ok : dT321.all (dck 321) = true := by decide +kernel
set_option maxRecDepth 100000 in
def dT322 : List (Nat × Instr × Nat) := [(0, .aload_n 0, 1), (1, .getfield 251, 3), (4, .aload_n 0, 1), (5, .getfield 254, 3), (8, .if_icmp .le 12, 3), (11, .aload_n 0, 1), (12, .iconst 2, 1), (13, .aload_n 0, 1), (14, .getfield 257, 3), (17, .invokevirtual 260, 3), (20, .aload_n 0, 1), (21, .aload_n 0, 1), (22, .aload_n 0, 1), (23, .getfield 264, 3), (26, .invokevirtual 267, 3), (29, .putfield 257, 3), (32, .aload_n 0, 1), (33, .iconst 0, 1), (34, .putfield 270, 3), (37, .aload_n 0, 1), (38, .aload_n 0, 1), (39, .getfield 257, 3), (42, .invokevirtual 247, 3), (45, .istore_n 1, 1), (46, .iload_n 1, 1), (47, .ifCond .ge 17, 3), (50, .aload_n 0, 1), (51, .iconst 0, 1), (52, .putfield 273, 3), (55, .aload_n 0, 1), (56, .aload_n 0, 1), (57, .getfield 257, 3), (60, .putfield 264, 3), (63, .return_, 1), (64, .aload_n 0, 1), (65, .aload_n 0, 1), (66, .getfield 251, 3), (69, .iconst 1, 1), (70, .iadd, 1), (71, .putfield 251, 3), (74, .iload_n 1, 1), (75, .invokestatic 276, 3), (78, .ifCond .eq 10, 3), (81, .aload_n 0, 1), (82, .invokevirtual 280, 3), (85, .goto 22, 3), (88, .iload_n 1, 1), (89, .invokestatic 283, 3), (92, .ifCond .eq 10, 3), (95, .aload_n 0, 1), (96, .invokevirtual 286, 3), (99, .goto 8, 3), (102, .aload_n 0, 1), (103, .iload_n 1, 1), (104, .invokevirtual 289, 3), (107, .return_, 1)]
theorem dT322_ok : dT322.all (dck 322) = true := by decide +kernel
set_option maxRecDepth 100000 in
def dT323 : List (Nat × Instr × Nat) := [(0, .aload_n 0, 1), (1, .getfield 319, 3), (4, .ifCond .eq 4, 3), (7, .return_, 1), (8, .aload_n 0, 1), (9, .iload_n 1, 1), (10, .putfield 319, 3), (13, .aload_n 0, 1), (14, .iload_n 2, 1), (15, .putfield 322, 3), (18, .return_, 1)]
theorem dT323_ok : dT323.all (dck 323) = true := by decide +kernel
set_option maxRecDepth 100000 in
def dT324 : List (Nat × Instr × Nat) := [(0, .iload_n 1, 1), (1, .istore_n 2, 1), (2, .iconst 1, 1), (3, .istore_n 3, 1), (4, .iload_n 3, 1), (5, .ifCond .eq 83, 3), (8, .aload_n 0, 1), (9, .iload_n 2, 1), (10, .invokevirtual 247, 3), (13, .istore 4, 2), (15, .iload 4, 2), (17, .bipush 9, 2), (19, .if_icmp .eq 24, 3), (22, .iload 4, 2), (24, .bipush 10, 2), (26, .if_icmp .eq 17, 3), (29, .iload 4, 2), (31, .bipush 13, 2), (33, .if_icmp .eq 10, 3), (36, .iload 4, 2), (38, .bipush 32, 2), (40, .if_icmp .ne 10, 3), (43, .iload_n 2, 1), (44, .iconst 1, 1), (45, .iadd, 1), (46, .istore_n 2, 1), (47, .goto 38, 3), (50, .iload 4, 2), (52, .bipush 37, 2), (54, .if_icmp .ne 29, 3), (57, .iload_n 2, 1), (58, .aload_n 0, 1), (59, .getfield 244, 3), (62, .if_icmp .ge 23, 3), (65, .aload_n 0, 1), (66, .getfield 13, 3), (69, .iload_n 2, 1), (70, .iaload, 1), (71, .bipush 10, 2), (73, .if_icmp .eq 12, 3), (76, .iload_n 2, 1), (77, .iconst 1, 1), (78, .iadd, 1), (79, .istore_n 2, 1), (80, .goto (-23), 3), (83, .iconst 0, 1), (84, .istore_n 3, 1), (85, .goto (-81), 3), (88, .iload_n 2, 1), (89, .ireturn, 1)]
theorem dT324_ok : dT324.all (dck 324) = true := by decide +kernel
set_option maxRecDepth 100000 in
def dT325 : List (Nat × Instr × Nat) := [(0, .iload_n 1, 1), (1, .aload_n 0, 1), (2, .getfield 244, 3), (5, .if_icmp .ge 12, 3), (8, .aload_n 0, 1), (9, .getfield 13, 3), (12, .iload_n 1, 1), (13, .iaload, 1), (14, .goto 4, 3), (17, .iconst (-1), 1), (18, .ireturn, 1)]
theorem dT325_ok : dT325.all (dck 325) = true := by decide +kernel
set_option maxRecDepth 100000 in
def dT326 : List (Nat × Instr × Nat) := [(0, .iload_n 0, 1), (1, .bipush 65, 2), (3, .if_icmp .lt 9, 3), (6, .iload_n 0, 1), (7, .bipush 90, 2), (9, .if_icmp .le 15, 3), (12, .iload_n 0, 1), (13, .bipush 97, 2), (15, .if_icmp .lt 13, 3), (18, .iload_n 0, 1), (19, .bipush 122, 2), (21, .if_icmp .gt 7, 3), (24, .iconst 1, 1), (25, .goto 4, 3), (28, .iconst 0, 1), (29, .ireturn, 1)]
theorem dT326_ok : dT326.all (dck 326) = true := by decide +kernel
end
section
set_option maxRecDepth 100000 in
def dT328 : List (Nat × Instr × Nat) := [(0, .iload_n 0, 1), (1, .bipush 48, 2), (3, .if_icmp .lt 13, 3), (6, .iload_n 0, 1), (7, .bipush 57, 2), (9, .if_icmp .gt 7, 3), (12, .iconst 1, 1), (13, .goto 4, 3), (16, .iconst 0, 1), (17, .ireturn, 1)]
theorem dT328_ok : dT328.all (dck 328) = true := by decide +kernel
set_option maxRecDepth 100000 in
def dT333 : List (Nat × Instr × Nat) := [(0, .aload_n 0, 1), (1, .getfield 34, 3), (4, .aload_n 0, 1), (5, .getfield 371, 3), (8, .aload_n 0, 1), (9, .getfield 374, 3), (12, .iastore, 1), (13, .aload_n 0, 1), (14, .aload_n 0, 1), (15, .getfield 371, 3), (18, .iconst 1, 1), (19, .iadd, 1), (20, .putfield 371, 3), (23, .aload_n 0, 1), (24, .getfield 371, 3), (27, .iconst 1, 1), (28, .isub, 1), (29, .ireturn, 1)]
theorem dT333_ok : dT333.all (dck 333) = true := by decide +kernel
set_option maxRecDepth 100000 in
def dT334 : List (Nat × Instr × Nat) := [(0, .aload_n 0, 1), (1, .getfield 31, 3), (4, .aload_n 0, 1), (5, .getfield 374, 3), (8, .iload_n 1, 1), (9, .iastore, 1), (10, .aload_n 0, 1), (11, .aload_n 0, 1), (12, .getfield 374, 3), (15, .iconst 1, 1), (16, .iadd, 1), (17, .putfield 374, 3), (20, .return_, 1)]
theorem dT334_ok : dT334.all (dck 334) = true := by decide +kernel
set_option maxRecDepth 100000 in
def dT335 : List (Nat × Instr × Nat) := [(0, .aload_n 0, 1), (1, .getfield 37, 3), (4, .iload_n 1, 1), (5, .aload_n 0, 1), (6, .getfield 374, 3), (9, .aload_n 0, 1), (10, .getfield 34, 3), (13, .iload_n 1, 1), (14, .iaload, 1), (15, .isub, 1), (16, .iastore, 1), (17, .iload_n 1, 1), (18, .ireturn, 1)]
theorem dT335_ok : dT335.all (dck 335) = true := by decide +kernel
set_option maxRecDepth 100000 in
def dT336 : List (Nat × Instr × Nat) := [(0, .aload_n 0, 1), (1, .invokevirtual 337, 3), (4, .ifCond .eq 5, 3), (7, .iconst (-1), 1), (8, .ireturn, 1), (9, .aload_n 0, 1), (10, .iconst 2, 1), (11, .invokevirtual 350, 3), (14, .ifCond .eq 8, 3), (17, .aload_n 0, 1), (18, .invokevirtual 445, 3), (21, .ireturn, 1), (22, .aload_n 0, 1), (23, .iconst 3, 1), (24, .invokevirtual 350, 3), (27, .ifCond .eq 8, 3), (30, .aload_n 0, 1), (31, .invokevirtual 448, 3), (34, .ireturn, 1), (35, .aload_n 0, 1), (36, .iconst 4, 1), (37, .invokevirtual 350, 3), (40, .ifCond .eq 8, 3), (43, .aload_n 0, 1), (44, .invokevirtual 451, 3), (47, .ireturn, 1), (48, .aload_n 0, 1), (49, .iconst 5, 1), (50, .invokevirtual 350, 3), (53, .ifCond .eq 8, 3), (56, .aload_n 0, 1), (57, .invokevirtual 454, 3), (60, .ireturn, 1), (61, .aload_n 0, 1), (62, .invokevirtual 457, 3), (65, .ireturn, 1)]
theorem dT336_ok : dT336.all (dck 336) = true := by decide +kernel
set_option maxRecDepth 100000 in
def dT337 : List (Nat × Instr × Nat) := [(0, .aload_n 0, 1), (1, .getfield 319, 3), (4, .ifCond .eq 7, 3), (7, .iconst 1, 1), (8, .goto 4, 3), (11, .iconst 0, 1), (12, .ireturn, 1)]
theorem dT337_ok : dT337.all (dck 337) = true := by decide +kernel
set_option maxRecDepth 100000 in
def dT338 : List (Nat × Instr × Nat) := [(0, .aload_n 0, 1), (1, .getfield 273, 3), (4, .iconst 4, 1), (5, .if_icmp .ne 15, 3), (8, .aload_n 0, 1), (9, .getfield 270, 3), (12, .iload_n 1, 1), (13, .if_icmp .ne 7, 3), (16, .iconst 1, 1), (17, .goto 4, 3), (20, .iconst 0, 1), (21, .ireturn, 1)]
theorem dT338_ok : dT338.all (dck 338) = true := by decide +kernel
set_option maxRecDepth 100000 in
def dT340 : List (Nat × Instr × Nat) := [(0, .aload_n 0, 1), (1, .invokevirtual 337, 3), (4, .ifCond .eq 4, 3), (7, .return_, 1), (8, .aload_n 0, 1), (9, .getfield 353, 3), (12, .aload_n 0, 1), (13, .getfield 299, 3), (16, .ifCond .eq 8, 3), (19, .bipush 30, 2), (21, .goto 5, 3), (24, .bipush 20, 2), (26, .if_icmp .ne 12, 3), (29, .aload_n 0, 1), (30, .iconst 2, 1), (31, .aload_n 0, 1), (32, .getfield 257, 3), (35, .invokevirtual 260, 3), (38, .aload_n 0, 1), (39, .aload_n 0, 1), (40, .getfield 353, 3), (43, .iconst 1, 1), (44, .iadd, 1), (45, .putfield 353, 3), (48, .aload_n 0, 1), (49, .invokevirtual 337, 3), (52, .ifCond .ne 7, 3), (55, .aload_n 0, 1), (56, .invokevirtual 344, 3), (59, .return_, 1)]
theorem dT340_ok : dT340.all (dck 340) = true := by decide +kernel
set_option maxRecDepth 100000 in
def dT341 : List (Nat × Instr × Nat) := [(0, .aload_n 0, 1), (1, .aload_n 0, 1), (2, .getfield 292, 3), (5, .putfield 362, 3), (8, .aload_n 0, 1), (9, .aload_n 0, 1), (10, .getfield 296, 3), (13, .putfield 365, 3), (16, .aload_n 0, 1), (17, .aload_n 0, 1), (18, .getfield 257, 3), (21, .putfield 368, 3), (24, .aload_n 0, 1), (25, .invokevirtual 337, 3), (28, .ifCond .eq 4, 3), (31, .return_, 1), (32, .aload_n 0, 1), (33, .getfield 273, 3), (36, .iconst 1, 1), (37, .if_icmp .ne 10, 3), (40, .aload_n 0, 1), (41, .invokevirtual 344, 3), (44, .goto 7, 3), (47, .aload_n 0, 1), (48, .invokevirtual 347, 3), (51, .return_, 1)]
theorem dT341_ok : dT341.all (dck 341) = true := by decide +kernel
set_option maxRecDepth 100000 in
def dT342 : List (Nat × Instr × Nat) := [(0, .aload_n 0, 1), (1, .iconst 1, 1), (2, .aload_n 0, 1), (3, .getfield 257, 3), (6, .invokevirtual 260, 3), (9, .return_, 1)]
theorem dT342_ok : dT342.all (dck 342) = true := by decide +kernel
set_option maxRecDepth 100000 in
def dT343 : List (Nat × Instr × Nat) := [(0, .aload_n 0, 1), (1, .invokevirtual 337, 3), (4, .ifCond .eq 4, 3), (7, .return_, 1), (8, .aload_n 0, 1), (9, .iload_n 1, 1), (10, .invokevirtual 341, 3), (13, .ifCond .eq 10, 3), (16, .aload_n 0, 1), (17, .invokevirtual 344, 3), (20, .goto 7, 3), (23, .aload_n 0, 1), (24, .invokevirtual 347, 3), (27, .return_, 1)]
theorem dT343_ok : dT343.all (dck 343) = true := by decide +kernel
set_option maxRecDepth 100000 in
def dT344 : List (Nat × Instr × Nat) := [(0, .aload_n 0, 1), (1, .getfield 273, 3), (4, .iconst 3, 1), (5, .if_icmp .ne 15, 3), (8, .aload_n 0, 1), (9, .getfield 270, 3), (12, .iload_n 1, 1), (13, .if_icmp .ne 7, 3), (16, .iconst 1, 1), (17, .goto 4, 3), (20, .iconst 0, 1), (21, .ireturn, 1)]
theorem dT344_ok : dT344.all (dck 344) = true := by decide +kernel
set_option maxRecDepth 100000 in
def dT351 : List (Nat × Instr × Nat) := [(0, .aload_n 0, 1), (1, .aload_n 0, 1), (2, .getfield 353, 3), (5, .iconst 1, 1), (6, .isub, 1), (7, .putfield 353, 3), (10, .return_, 1)]
theorem dT351_ok : dT351.all (dck 351) = true := by decide +kernel
set_option maxRecDepth 100000 in
def dT352 : List (Nat × Instr × Nat) := [(0, .aload_n 0, 1), (1, .invokevirtual 337, 3), (4, .ifCond .ne 11, 3), (7, .aload_n 0, 1), (8, .iload_n 1, 1), (9, .invokevirtual 341, 3), (12, .ifCond .ne 5, 3), (15, .iconst 0, 1), (16, .ireturn, 1), (17, .aload_n 0, 1), (18, .invokevirtual 344, 3), (21, .iconst 1, 1), (22, .ireturn, 1)]
theorem dT352_ok : dT352.all (dck 352) = true := by decide +kernel
set_option maxRecDepth 100000 in
def dT353 : List (Nat × Instr × Nat) := [(0, .aload_n 0, 1), (1, .aload_n 0, 1), (2, .getfield 353, 3), (5, .iconst 1, 1), (6, .isub, 1), (7, .putfield 353, 3), (10, .aload_n 0, 1), (11, .iload_n 1, 1), (12, .invokevirtual 359, 3), (15, .return_, 1)]
theorem dT353_ok : dT353.all (dck 353) = true := by decide +kernel
set_option maxRecDepth 100000 in
def dT355 : List (Nat × Instr × Nat) := [(0, .aload_n 0, 1), (1, .getfield 53, 3), (4, .aload_n 0, 1), (5, .getfield 430, 3), (8, .iload_n 1, 1), (9, .iastore, 1), (10, .aload_n 0, 1), (11, .getfield 56, 3), (14, .aload_n 0, 1), (15, .getfield 430, 3), (18, .iload_n 2, 1), (19, .iastore, 1), (20, .aload_n 0, 1), (21, .getfield 59, 3), (24, .aload_n 0, 1), (25, .getfield 430, 3), (28, .iconst (-1), 1), (29, .iastore, 1), (30, .aload_n 0, 1), (31, .getfield 62, 3), (34, .aload_n 0, 1), (35, .getfield 430, 3), (38, .aload_n 0, 1), (39, .getfield 433, 3), (42, .iastore, 1), (43, .aload_n 0, 1), (44, .aload_n 0, 1), (45, .getfield 430, 3), (48, .iconst 1, 1), (49, .iadd, 1), (50, .putfield 430, 3), (53, .aload_n 0, 1), (54, .getfield 430, 3), (57, .iconst 1, 1), (58, .isub, 1), (59, .ireturn, 1)]
theorem dT355_ok : dT355.all (dck 355) = true := by decide +kernel
set_option maxRecDepth 100000 in
def dT366 : List (Nat × Instr × Nat) := [(0, .aload_n 0, 1), (1, .invokevirtual 337, 3), (4, .ifCond .eq 4, 3), (7, .return_, 1), (8, .aload_n 0, 1), (9, .iload_n 1, 1), (10, .invokevirtual 341, 3), (13, .ifCond .eq 10, 3), (16, .aload_n 0, 1), (17, .invokevirtual 356, 3), (20, .goto 7, 3), (23, .aload_n 0, 1), (24, .invokevirtual 347, 3), (27, .return_, 1)]
theorem dT366_ok : dT366.all (dck 366) = true := by decide +kernel
set_option maxRecDepth 100000 in
def dT372 : List (Nat × Instr × Nat) := [(0, .aload_n 0, 1), (1, .invokevirtual 337, 3), (4, .ifCond .eq 4, 3), (7, .return_, 1), (8, .aload_n 0, 1), (9, .iload_n 1, 1), (10, .invokevirtual 350, 3), (13, .ifCond .eq 10, 3), (16, .aload_n 0, 1), (17, .invokevirtual 344, 3), (20, .goto 7, 3), (23, .aload_n 0, 1), (24, .invokevirtual 347, 3), (27, .return_, 1)]
theorem dT372_ok : dT372.all (dck 372) = true := by decide +kernel
set_option maxRecDepth 100000 in
def dT373 : List (Nat × Instr × Nat) := [(0, .aload_n 0, 1), (1, .getfield 257, 3), (4, .istore_n 1, 1), (5, .aload_n 0, 1), (6, .invokevirtual 502, 3), (9, .istore_n 2, 1), (10, .aload_n 0, 1), (11, .invokevirtual 337, 3), (14, .ifCond .ne 104, 3), (17, .aload_n 0, 1), (18, .bipush 43, 2), (20, .invokevirtual 341, 3), (23, .ifCond .ne 12, 3), (26, .aload_n 0, 1), (27, .bipush 45, 2), (29, .invokevirtual 341, 3), (32, .ifCond .eq 86, 3), (35, .aload_n 0, 1), (36, .getfield 270, 3), (39, .bipush 43, 2), (41, .if_icmp .ne 7, 3), (44, .iconst 5, 1), (45, .goto 5, 3), (48, .bipush 6, 2), (50, .istore_n 3, 1), (51, .aload_n 0, 1), (52, .iload_n 2, 1), (53, .iload_n 1, 1), (54, .invokevirtual 505, 3), (57, .istore 4, 2), (59, .aload_n 0, 1), (60, .invokevirtual 344, 3), (63, .aload_n 0, 1), (64, .getfield 257, 3), (67, .istore 5, 2), (69, .aload_n 0, 1), (70, .aload_n 0, 1), (71, .invokevirtual 502, 3), (74, .iload 5, 2), (76, .invokevirtual 505, 3), (79, .ifCond .eq 12, 3), (82, .iload 4, 2), (84, .ifCond .eq 7, 3), (87, .iconst 1, 1), (88, .goto 4, 3), (91, .iconst 0, 1), (92, .istore 4, 2), (94, .aload_n 0, 1), (95, .iload_n 3, 1), (96, .iconst 0, 1), (97, .invokevirtual 496, 3), (100, .pop, 1), (101, .iload 4, 2), (103, .ifCond .eq 10, 3), (106, .aload_n 0, 1), (107, .getfield 508, 3), (110, .goto 4, 3), (113, .iconst (-1), 1), (114, .istore_n 2, 1), (115, .goto (-105), 3), (118, .iload_n 2, 1), (119, .ireturn, 1)]
theorem dT373_ok : dT373.all (dck 373) = true := by decide +kernel
end
section
set_option maxRecDepth 100000 in
def dT374 : List (Nat × Instr × Nat) := [(0, .aload_n 0, 1), (1, .getfield 257, 3), (4, .istore_n 1, 1), (5, .aload_n 0, 1), (6, .invokevirtual 511, 3), (9, .istore_n 2, 1), (10, .aload_n 0, 1), (11, .invokevirtual 337, 3), (14, .ifCond .ne 76, 3), (17, .aload_n 0, 1), (18, .bipush 42, 2), (20, .invokevirtual 341, 3), (23, .ifCond .eq 67, 3), (26, .aload_n 0, 1), (27, .iload_n 2, 1), (28, .iload_n 1, 1), (29, .invokevirtual 505, 3), (32, .istore_n 3, 1), (33, .aload_n 0, 1), (34, .invokevirtual 344, 3), (37, .aload_n 0, 1), (38, .getfield 257, 3), (41, .istore 4, 2), (43, .aload_n 0, 1), (44, .aload_n 0, 1), (45, .invokevirtual 511, 3), (48, .iload 4, 2), (50, .invokevirtual 505, 3), (53, .ifCond .eq 11, 3), (56, .iload_n 3, 1), (57, .ifCond .eq 7, 3), (60, .iconst 1, 1), (61, .goto 4, 3), (64, .iconst 0, 1), (65, .istore_n 3, 1), (66, .aload_n 0, 1), (67, .bipush 7, 2), (69, .iconst 0, 1), (70, .invokevirtual 496, 3), (73, .pop, 1), (74, .iload_n 3, 1), (75, .ifCond .eq 10, 3), (78, .aload_n 0, 1), (79, .getfield 508, 3), (82, .goto 4, 3), (85, .iconst (-1), 1), (86, .istore_n 2, 1), (87, .goto (-77), 3), (90, .iload_n 2, 1), (91, .ireturn, 1)]
theorem dT374_ok : dT374.all (dck 374) = true := by decide +kernel
set_option maxRecDepth 100000 in
def dT375 : List (Nat × Instr × Nat) := [(0, .aload_n 0, 1), (1, .getfield 257, 3), (4, .istore_n 1, 1), (5, .aload_n 0, 1), (6, .invokevirtual 514, 3), (9, .istore_n 2, 1), (10, .iconst 1, 1), (11, .istore_n 3, 1), (12, .iload_n 3, 1), (13, .ifCond .eq 51, 3), (16, .aload_n 0, 1), (17, .invokevirtual 337, 3), (20, .ifCond .ne 44, 3), (23, .aload_n 0, 1), (24, .bipush 91, 2), (26, .invokevirtual 341, 3), (29, .ifCond .eq 13, 3), (32, .aload_n 0, 1), (33, .iload_n 2, 1), (34, .iload_n 1, 1), (35, .invokevirtual 517, 3), (38, .istore_n 2, 1), (39, .goto (-27), 3), (42, .aload_n 0, 1), (43, .invokevirtual 520, 3), (46, .ifCond .eq 13, 3), (49, .aload_n 0, 1), (50, .iload_n 2, 1), (51, .iload_n 1, 1), (52, .invokevirtual 523, 3), (55, .istore_n 2, 1), (56, .goto (-44), 3), (59, .iconst 0, 1), (60, .istore_n 3, 1), (61, .goto (-49), 3), (64, .iload_n 2, 1), (65, .ireturn, 1)]
theorem dT375_ok : dT375.all (dck 375) = true := by decide +kernel
set_option maxRecDepth 100000 in
def dT376 : List (Nat × Instr × Nat) := [(0, .aload_n 0, 1), (1, .invokevirtual 337, 3), (4, .ifCond .eq 5, 3), (7, .iconst (-1), 1), (8, .ireturn, 1), (9, .aload_n 0, 1), (10, .getfield 257, 3), (13, .istore_n 1, 1), (14, .aload_n 0, 1), (15, .getfield 273, 3), (18, .iconst 2, 1), (19, .if_icmp .ne 22, 3), (22, .aload_n 0, 1), (23, .iconst 0, 1), (24, .aload_n 0, 1), (25, .getfield 316, 3), (28, .invokevirtual 496, 3), (31, .pop, 1), (32, .aload_n 0, 1), (33, .invokevirtual 344, 3), (36, .aload_n 0, 1), (37, .getfield 508, 3), (40, .ireturn, 1), (41, .aload_n 0, 1), (42, .getfield 273, 3), (45, .iconst 1, 1), (46, .if_icmp .ne 8, 3), (49, .aload_n 0, 1), (50, .invokevirtual 533, 3), (53, .ireturn, 1), (54, .aload_n 0, 1), (55, .bipush 40, 2), (57, .invokevirtual 341, 3), (60, .ifCond .eq 20, 3), (63, .aload_n 0, 1), (64, .invokevirtual 356, 3), (67, .aload_n 0, 1), (68, .invokevirtual 469, 3), (71, .istore_n 2, 1), (72, .aload_n 0, 1), (73, .bipush 41, 2), (75, .invokevirtual 424, 3), (78, .iload_n 2, 1), (79, .ireturn, 1), (80, .aload_n 0, 1), (81, .bipush 60, 2), (83, .invokevirtual 341, 3), (86, .ifCond .eq 8, 3), (89, .aload_n 0, 1), (90, .invokevirtual 536, 3), (93, .ireturn, 1), (94, .aload_n 0, 1), (95, .bipush 35, 2), (97, .invokevirtual 341, 3), (100, .ifCond .eq 8, 3), (103, .aload_n 0, 1), (104, .invokevirtual 539, 3), (107, .ireturn, 1), (108, .aload_n 0, 1), (109, .bipush 7, 2), (111, .invokevirtual 350, 3), (114, .ifCond .eq 8, 3), (117, .aload_n 0, 1), (118, .invokevirtual 542, 3), (121, .ireturn, 1), (122, .aload_n 0, 1), (123, .invokevirtual 347, 3), (126, .iconst (-1), 1), (127, .ireturn, 1)]
theorem dT376_ok : dT376.all (dck 376) = true := by decide +kernel
set_option maxRecDepth 100000 in
def dT380 : List (Nat × Instr × Nat) := [(0, .aload_n 0, 1), (1, .getfield 273, 3), (4, .iconst 2, 1), (5, .if_icmp .eq 47, 3), (8, .aload_n 0, 1), (9, .getfield 273, 3), (12, .iconst 1, 1), (13, .if_icmp .eq 39, 3), (16, .aload_n 0, 1), (17, .bipush 7, 2), (19, .invokevirtual 350, 3), (22, .ifCond .ne 30, 3), (25, .aload_n 0, 1), (26, .bipush 40, 2), (28, .invokevirtual 341, 3), (31, .ifCond .ne 21, 3), (34, .aload_n 0, 1), (35, .bipush 60, 2), (37, .invokevirtual 341, 3), (40, .ifCond .ne 12, 3), (43, .aload_n 0, 1), (44, .bipush 35, 2), (46, .invokevirtual 341, 3), (49, .ifCond .eq 7, 3), (52, .iconst 1, 1), (53, .goto 4, 3), (56, .iconst 0, 1), (57, .ireturn, 1)]
theorem dT380_ok : dT380.all (dck 380) = true := by decide +kernel
set_option maxRecDepth 100000 in
def dT390 : List (Nat × Instr × Nat) := [(0, .aload_n 0, 1), (1, .getfield 319, 3), (4, .ifCond .ne 26, 3), (7, .aload_n 0, 1), (8, .getfield 331, 3), (11, .ifCond .eq 19, 3), (14, .aload_n 0, 1), (15, .aload_n 0, 1), (16, .getfield 331, 3), (19, .putfield 319, 3), (22, .aload_n 0, 1), (23, .aload_n 0, 1), (24, .getfield 334, 3), (27, .putfield 322, 3), (30, .aload_n 0, 1), (31, .aload_n 0, 1), (32, .getfield 319, 3), (35, .ifCond .ne 7, 3), (38, .iconst (-1), 1), (39, .goto 7, 3), (42, .aload_n 0, 1), (43, .getfield 322, 3), (46, .putfield 16, 3), (49, .aload_n 0, 1), (50, .getfield 319, 3), (53, .ireturn, 1)]
theorem dT390_ok : dT390.all (dck 390) = true := by decide +kernel
set_option maxRecDepth 100000 in
def dT391 : List (Nat × Instr × Nat) := [(0, .aload_n 0, 1), (1, .getfield 575, 3), (4, .iconst 1, 1), (5, .if_icmp .ne 7, 3), (8, .iload_n 1, 1), (9, .ifCond .ge 5, 3), (12, .iconst (-1), 1), (13, .ireturn, 1), (14, .aload_n 0, 1), (15, .aload_n 0, 1), (16, .getfield 34, 3), (19, .aload_n 0, 1), (20, .getfield 590, 3), (23, .iaload, 1), (24, .invokevirtual 676, 3), (27, .iload_n 1, 1), (28, .aload_n 0, 1), (29, .getfield 654, 3), (32, .if_icmp .ge 12, 3), (35, .aload_n 0, 1), (36, .getfield 113, 3), (39, .iload_n 1, 1), (40, .iaload, 1), (41, .goto 4, 3), (44, .iconst (-1), 1), (45, .ireturn, 1)]
theorem dT391_ok : dT391.all (dck 391) = true := by decide +kernel
set_option maxRecDepth 100000 in
def dT398 : List (Nat × Instr × Nat) := [(0, .iload_n 1, 1), (1, .ifCond .lt 11, 3), (4, .iload_n 1, 1), (5, .aload_n 0, 1), (6, .getfield 237, 3), (9, .if_icmp .le 5, 3), (12, .iconst (-1), 1), (13, .ireturn, 1), (14, .aload_n 0, 1), (15, .iconst 0, 1), (16, .putfield 237, 3), (19, .aload_n 0, 1), (20, .iconst 1, 1), (21, .iload_n 1, 1), (22, .invokevirtual 571, 3), (25, .aload_n 0, 1), (26, .iconst 0, 1), (27, .putfield 575, 3), (30, .aload_n 0, 1), (31, .invokevirtual 578, 3), (34, .aload_n 0, 1), (35, .iconst 0, 1), (36, .putfield 325, 3), (39, .aload_n 0, 1), (40, .iconst 0, 1), (41, .putfield 754, 3), (44, .aload_n 0, 1), (45, .iconst 0, 1), (46, .putfield 679, 3), (49, .aload_n 0, 1), (50, .iconst 0, 1), (51, .putfield 682, 3), (54, .aload_n 0, 1), (55, .iconst 0, 1), (56, .putfield 697, 3), (59, .aload_n 0, 1), (60, .aload_n 0, 1), (61, .iconst 0, 1), (62, .iconst 0, 1), (63, .iconst 0, 1), (64, .iconst 0, 1), (65, .invokevirtual 712, 3), (68, .putfield 688, 3), (71, .aload_n 0, 1), (72, .invokevirtual 757, 3), (75, .aload_n 0, 1), (76, .getfield 319, 3), (79, .ifCond .ne 26, 3), (82, .aload_n 0, 1), (83, .iconst 1, 1), (84, .putfield 325, 3), (87, .aload_n 0, 1), (88, .invokevirtual 757, 3), (91, .aload_n 0, 1), (92, .iconst 0, 1), (93, .putfield 331, 3), (96, .aload_n 0, 1), (97, .iconst 1, 1), (98, .putfield 754, 3), (101, .aload_n 0, 1), (102, .invokevirtual 757, 3), (105, .aload_n 0, 1), (106, .invokevirtual 584, 3), (109, .ifCond .eq 8, 3), (112, .aload_n 0, 1), (113, .getfield 319, 3), (116, .ireturn, 1), (117, .aload_n 0, 1), (118, .iconst 2, 1), (119, .putfield 575, 3), (122, .aload_n 0, 1), (123, .invokevirtual 760, 3), (126, .iconst 0, 1), (127, .ireturn, 1)]
theorem dT398_ok : dT398.all (dck 398) = true := by decide +kernel
set_option maxRecDepth 100000 in
def dT399 : List (Nat × Instr × Nat) := [(0, .aload_n 0, 1), (1, .getfield 128, 3), (4, .aload_n 0, 1), (5, .getfield 679, 3), (8, .iload_n 1, 1), (9, .iastore, 1), (10, .aload_n 0, 1), (11, .getfield 131, 3), (14, .aload_n 0, 1), (15, .getfield 679, 3), (18, .iload_n 2, 1), (19, .iastore, 1), (20, .aload_n 0, 1), (21, .getfield 134, 3), (24, .aload_n 0, 1), (25, .getfield 679, 3), (28, .iload_n 3, 1), (29, .iastore, 1), (30, .aload_n 0, 1), (31, .getfield 143, 3), (34, .aload_n 0, 1), (35, .getfield 679, 3), (38, .iload 4, 2), (40, .iastore, 1), (41, .aload_n 0, 1), (42, .getfield 137, 3), (45, .aload_n 0, 1), (46, .getfield 679, 3), (49, .aload_n 0, 1), (50, .getfield 682, 3), (53, .iastore, 1), (54, .aload_n 0, 1), (55, .getfield 140, 3), (58, .aload_n 0, 1), (59, .getfield 679, 3), (62, .iconst 0, 1), (63, .iastore, 1), (64, .aload_n 0, 1), (65, .aload_n 0, 1), (66, .getfield 679, 3), (69, .iconst 1, 1), (70, .iadd, 1), (71, .putfield 679, 3), (74, .aload_n 0, 1), (75, .getfield 679, 3), (78, .iconst 1, 1), (79, .isub, 1), (80, .ireturn, 1)]
theorem dT399_ok : dT399.all (dck 399) = true := by decide +kernel
end
section
set_option maxRecDepth 100000 in
def dT400 : List (Nat × Instr × Nat) := [(0, .aload_n 0, 1), (1, .sipush 1200, 3), (4, .putfield 254, 3), (7, .aload_n 0, 1), (8, .invokevirtual 587, 3), (11, .aload_n 0, 1), (12, .iconst 0, 1), (13, .putfield 685, 3), (16, .aload_n 0, 1), (17, .iconst 0, 1), (18, .putfield 716, 3), (21, .aload_n 0, 1), (22, .iconst 0, 1), (23, .putfield 763, 3), (26, .aload_n 0, 1), (27, .iconst 0, 1), (28, .putfield 766, 3), (31, .iconst 1, 1), (32, .istore_n 1, 1), (33, .iload_n 1, 1), (34, .ifCond .eq 37, 3), (37, .aload_n 0, 1), (38, .invokevirtual 337, 3), (41, .ifCond .ne 30, 3), (44, .aload_n 0, 1), (45, .invokevirtual 769, 3), (48, .aload_n 0, 1), (49, .invokevirtual 337, 3), (52, .ifCond .ne 14, 3), (55, .aload_n 0, 1), (56, .getfield 273, 3), (59, .ifCond .eq 7, 3), (62, .iconst 1, 1), (63, .goto 4, 3), (66, .iconst 0, 1), (67, .istore_n 1, 1), (68, .goto (-35), 3), (71, .aload_n 0, 1), (72, .aload_n 0, 1), (73, .getfield 763, 3), (76, .putfield 772, 3), (79, .return_, 1)]
theorem dT400_ok : dT400.all (dck 400) = true := by decide +kernel
set_option maxRecDepth 100000 in
def dT401 : List (Nat × Instr × Nat) := [(0, .aload_n 0, 1), (1, .getfield 257, 3), (4, .istore_n 1, 1), (5, .aload_n 0, 1), (6, .invokevirtual 337, 3), (9, .ifCond .ne 29, 3), (12, .aload_n 0, 1), (13, .getfield 273, 3), (16, .iconst 1, 1), (17, .if_icmp .ne 21, 3), (20, .aload_n 0, 1), (21, .getfield 763, 3), (24, .bipush 40, 2), (26, .if_icmp .ne 12, 3), (29, .aload_n 0, 1), (30, .iconst 2, 1), (31, .aload_n 0, 1), (32, .getfield 257, 3), (35, .invokevirtual 260, 3), (38, .aload_n 0, 1), (39, .invokevirtual 411, 3), (42, .aload_n 0, 1), (43, .invokevirtual 337, 3), (46, .ifCond .eq 4, 3), (49, .return_, 1), (50, .aload_n 0, 1), (51, .getfield 763, 3), (54, .istore_n 2, 1), (55, .aload_n 0, 1), (56, .getfield 754, 3), (59, .ifCond .ne 26, 3), (62, .aload_n 0, 1), (63, .getfield 189, 3), (66, .iload_n 2, 1), (67, .aload_n 0, 1), (68, .getfield 362, 3), (71, .lastore, 1), (72, .aload_n 0, 1), (73, .getfield 192, 3), (76, .iload_n 2, 1), (77, .aload_n 0, 1), (78, .getfield 365, 3), (81, .iastore, 1), (82, .goto 25, 3), (85, .aload_n 0, 1), (86, .aload_n 0, 1), (87, .getfield 362, 3), (90, .aload_n 0, 1), (91, .getfield 365, 3), (94, .iload_n 2, 1), (95, .invokevirtual 775, 3), (98, .ifCond .lt 9, 3), (101, .aload_n 0, 1), (102, .iconst 3, 1), (103, .iload_n 1, 1), (104, .invokevirtual 427, 3), (107, .aload_n 0, 1), (108, .aload_n 0, 1), (109, .getfield 763, 3), (112, .iconst 1, 1), (113, .iadd, 1), (114, .putfield 763, 3), (117, .aload_n 0, 1), (118, .bipush 58, 2), (120, .invokevirtual 359, 3), (123, .aload_n 0, 1), (124, .iconst 0, 1), (125, .putfield 685, 3), (128, .aload_n 0, 1), (129, .getfield 697, 3), (132, .istore_n 3, 1), (133, .aload_n 0, 1), (134, .invokevirtual 700, 3), (137, .istore 4, 2), (139, .aload_n 0, 1), (140, .getfield 726, 3), (143, .istore 5, 2), (145, .aload_n 0, 1), (146, .getfield 732, 3), (149, .ifCond .le 14, 3), (152, .aload_n 0, 1), (153, .getfield 729, 3), (156, .ifCond .ne 7, 3), (159, .iconst 1, 1), (160, .goto 4, 3), (163, .iconst 0, 1), (164, .istore 6, 2), (166, .aload_n 0, 1), (167, .getfield 257, 3), (170, .istore 7, 2), (172, .aload_n 0, 1), (173, .iload_n 3, 1), (174, .iload 4, 2), (176, .invokevirtual 703, 3), (179, .istore 8, 2), (181, .aload_n 0, 1), (182, .invokevirtual 337, 3), (185, .ifCond .eq 4, 3), (188, .return_, 1), (189, .aload_n 0, 1), (190, .getfield 754, 3), (193, .ifCond .ne 11, 3), (196, .aload_n 0, 1), (197, .getfield 195, 3), (200, .iload_n 2, 1), (201, .iload 8, 2), (203, .iastore, 1), (204, .iload_n 2, 1), (205, .ifCond .ne 15, 3), (208, .iload 6, 2), (210, .ifCond .eq 10, 3), (213, .aload_n 0, 1), (214, .iconst 5, 1), (215, .iload 5, 2), (217, .invokevirtual 427, 3), (220, .iload_n 2, 1), (221, .ifCond .ne 24, 3), (224, .aload_n 0, 1), (225, .getfield 735, 3), (228, .ifCond .le 17, 3), (231, .aload_n 0, 1), (232, .getfield 738, 3), (235, .ifCond .ne 10, 3), (238, .aload_n 0, 1), (239, .iconst 5, 1), (240, .iload 7, 2), (242, .invokevirtual 427, 3), (245, .aload_n 0, 1), (246, .iload 8, 2), (248, .invokevirtual 779, 3), (251, .aload_n 0, 1), (252, .getfield 198, 3), (255, .iload_n 2, 1), (256, .aload_n 0, 1), (257, .getfield 766, 3), (260, .iastore, 1), (261, .iconst 0, 1), (262, .istore 9, 2), (264, .iload 9, 2), (266, .ifCond .ne 42, 3), (269, .aload_n 0, 1), (270, .invokevirtual 337, 3), (273, .ifCond .ne 35, 3), (276, .aload_n 0, 1), (277, .bipush 14, 2), (279, .invokevirtual 350, 3), (282, .ifCond .ne 12, 3), (285, .aload_n 0, 1), (286, .bipush 15, 2), (288, .invokevirtual 350, 3), (291, .ifCond .eq 7, 3), (294, .iconst 1, 1), (295, .goto 4, 3), (298, .iconst 0, 1), (299, .istore 9, 2), (301, .aload_n 0, 1), (302, .invokevirtual 782, 3), (305, .goto (-41), 3), (308, .return_, 1)]
theorem dT401_ok : dT401.all (dck 401) = true := by decide +kernel
set_option maxRecDepth 100000 in
def dT443 : List (Nat × Instr × Nat) := [(0, .aload_n 0, 1), (1, .getfield 575, 3), (4, .iconst 2, 1), (5, .if_icmp .ne 35, 3), (8, .iload_n 1, 1), (9, .sipush 8192, 3), (12, .if_icmp .lt 28, 3), (15, .iload_n 1, 1), (16, .sipush 8192, 3), (19, .aload_n 0, 1), (20, .getfield 842, 3), (23, .iadd, 1), (24, .if_icmp .ge 16, 3), (27, .aload_n 0, 1), (28, .getfield 228, 3), (31, .iload_n 1, 1), (32, .sipush 8192, 3), (35, .isub, 1), (36, .iaload, 1), (37, .goto 4, 3), (40, .iconst (-1), 1), (41, .ireturn, 1)]
theorem dT443_ok : dT443.all (dck 443) = true := by decide +kernel
set_option maxRecDepth 100000 in
def dT444 : List (Nat × Instr × Nat) := [(0, .aload_n 0, 1), (1, .getfield 575, 3), (4, .iconst 2, 1), (5, .if_icmp .ne 24, 3), (8, .iload_n 1, 1), (9, .ifCond .lt 20, 3), (12, .iload_n 1, 1), (13, .aload_n 0, 1), (14, .getfield 763, 3), (17, .if_icmp .ge 12, 3), (20, .aload_n 0, 1), (21, .getfield 201, 3), (24, .iload_n 1, 1), (25, .iaload, 1), (26, .goto 4, 3), (29, .iconst (-1), 1), (30, .ireturn, 1)]
theorem dT444_ok : dT444.all (dck 444) = true := by decide +kernel
set_option maxRecDepth 100000 in
def dT445 : List (Nat × Instr × Nat) := [(0, .aload_n 0, 1), (1, .getfield 575, 3), (4, .ifCond .eq 25, 3), (7, .iload_n 1, 1), (8, .ifCond .lt 21, 3), (11, .iload_n 1, 1), (12, .sipush 20000, 3), (15, .if_icmp .gt 14, 3), (18, .iload_n 2, 1), (19, .ifCond .lt 10, 3), (22, .iload_n 2, 1), (23, .sipush 20000, 3), (26, .if_icmp .le 5, 3), (29, .iconst (-1), 1), (30, .ireturn, 1), (31, .aload_n 0, 1), (32, .getfield 575, 3), (35, .iconst 1, 1), (36, .if_icmp .ne 16, 3), (39, .aload_n 0, 1), (40, .aload_n 0, 1), (41, .getfield 590, 3), (44, .invokevirtual 442, 3), (47, .ifCond .ne 5, 3), (50, .iconst (-1), 1), (51, .ireturn, 1), (52, .aload_n 0, 1), (53, .invokevirtual 578, 3), (56, .aload_n 0, 1), (57, .iload_n 2, 1), (58, .putfield 596, 3), (61, .aload_n 0, 1), (62, .iconst 0, 1), (63, .putfield 632, 3), (66, .aload_n 0, 1), (67, .aload_n 0, 1), (68, .getfield 575, 3), (71, .iconst 2, 1), (72, .if_icmp .ne 7, 3), (75, .iconst 1, 1), (76, .goto 4, 3), (79, .iconst 0, 1), (80, .putfield 878, 3), (83, .aload_n 0, 1), (84, .getfield 575, 3), (87, .iconst 1, 1), (88, .if_icmp .ne 11, 3), (91, .aload_n 0, 1), (92, .iload_n 1, 1), (93, .invokevirtual 888, 3), (96, .goto 8, 3), (99, .aload_n 0, 1), (100, .iload_n 1, 1), (101, .invokevirtual 891, 3), (104, .ireturn, 1)]
theorem dT445_ok : dT445.all (dck 445) = true := by decide +kernel
set_option maxRecDepth 100000 in
def dT460 : List (Nat × Instr × Nat) := [(0, .aload_n 0, 1), (1, .getfield 16, 3), (4, .ireturn, 1)]
theorem dT460_ok : dT460.all (dck 460) = true := by decide +kernel
set_option maxRecDepth 100000 in
def dT461 : List (Nat × Instr × Nat) := [(0, .aload_n 0, 1), (1, .getfield 614, 3), (4, .ireturn, 1)]
theorem dT461_ok : dT461.all (dck 461) = true := by decide +kernel
set_option maxRecDepth 100000 in
def dT462 : List (Nat × Instr × Nat) := [(0, .iload_n 1, 1), (1, .tableswitch 90 0 6 #[43, 48, 53, 58, 63, 68, 73], 43), (44, .aload_n 0, 1), (45, .getfield 593, 3), (48, .ireturn, 1), (49, .aload_n 0, 1), (50, .getfield 641, 3), (53, .ireturn, 1), (54, .aload_n 0, 1), (55, .getfield 623, 3), (58, .ireturn, 1), (59, .aload_n 0, 1), (60, .getfield 644, 3), (63, .ireturn, 1), (64, .aload_n 0, 1), (65, .getfield 575, 3), (68, .ireturn, 1), (69, .aload_n 0, 1), (70, .getfield 237, 3), (73, .ireturn, 1), (74, .aload_n 0, 1), (75, .getfield 575, 3), (78, .iconst 2, 1), (79, .if_icmp .ne 10, 3), (82, .aload_n 0, 1), (83, .getfield 842, 3), (86, .goto 4, 3), (89, .iconst 0, 1), (90, .ireturn, 1), (91, .iconst (-1), 1), (92, .ireturn, 1)]
theorem dT462_ok : dT462.all (dck 462) = true := by decide +kernel
end
section
set_option maxRecDepth 100000 in
def dT463 : List (Nat × Instr × Nat) := [(0, .aload_n 0, 1), (1, .getfield 878, 3), (4, .ifCond .eq 23, 3), (7, .iload_n 1, 1), (8, .iconst 1, 1), (9, .if_icmp .lt 18, 3), (12, .iload_n 1, 1), (13, .bipush 15, 2), (15, .if_icmp .gt 12, 3), (18, .aload_n 0, 1), (19, .getfield 231, 3), (22, .iload_n 1, 1), (23, .iaload, 1), (24, .goto 4, 3), (27, .iconst 0, 1), (28, .ireturn, 1)]
theorem dT463_ok : dT463.all (dck 463) = true := by decide +kernel
set_option maxRecDepth 100000 in
def dT464 : List (Nat × Instr × Nat) := [(0, .aload_n 0, 1), (1, .getfield 878, 3), (4, .ifCond .eq 24, 3), (7, .iload_n 1, 1), (8, .ifCond .lt 20, 3), (11, .iload_n 1, 1), (12, .aload_n 0, 1), (13, .getfield 593, 3), (16, .if_icmp .ge 12, 3), (19, .aload_n 0, 1), (20, .getfield 234, 3), (23, .iload_n 1, 1), (24, .iaload, 1), (25, .goto 4, 3), (28, .iconst 0, 1), (29, .ireturn, 1)]
theorem dT464_ok : dT464.all (dck 464) = true := by decide +kernel
end
section
def dTL (j : Nat) : List (Nat × Instr × Nat) := match j with
  | 25 => dT25
  | 26 => dT26
  | 27 => dT27
  | 28 => dT28
  | 29 => dT29
  | 30 => dT30
  | 31 => dT31
  | 36 => dT36
  | 57 => dT57
  | 58 => dT58
  | 59 => dT59
  | 60 => dT60
  | 61 => dT61
  | 62 => dT62
  | 63 => dT63
  | 64 => dT64
  | 65 => dT65
  | 66 => dT66
  | 67 => dT67
  | 68 => dT68
  | 69 => dT69
  | 70 => dT70
  | 71 => dT71
  | 72 => dT72
  | 73 => dT73
  | 74 => dT74
  | 75 => dT75
  | 76 => dT76
  | 77 => dT77
  | 78 => dT78
  | 79 => dT79
  | 80 => dT80
  | 81 => dT81
  | 82 => dT82
  | 83 => dT83
  | 84 => dT84
  | 85 => dT85
  | 86 => dT86
  | 87 => dT87
  | 88 => dT88
  | 90 => dT90
  | 104 => dT104
  | 108 => dT108
  | 175 => dT175
  | 176 => dT176
  | 177 => dT177
  | 178 => dT178
  | 179 => dT179
  | 180 => dT180
  | 181 => dT181
  | 182 => dT182
  | 183 => dT183
  | 184 => dT184
  | 185 => dT185
  | 186 => dT186
  | 187 => dT187
  | 188 => dT188
  | 192 => dT192
  | 193 => dT193
  | 250 => dT250
  | 251 => dT251
  | 252 => dT252
  | 254 => dT254
  | 256 => dT256
  | 257 => dT257
  | 258 => dT258
  | 300 => dT300
  | 302 => dT302
  | 304 => dT304
  | 308 => dT308
  | 312 => dT312
  | 313 => dT313
  | 315 => dT315
  | 316 => dT316
  | 317 => dT317
  | 318 => dT318
  | 319 => dT319
  | 320 => dT320
  | 321 => dT321
  | 322 => dT322
  | 323 => dT323
  | 324 => dT324
  | 325 => dT325
  | 326 => dT326
  | 328 => dT328
  | 333 => dT333
  | 334 => dT334
  | 335 => dT335
  | 336 => dT336
  | 337 => dT337
  | 338 => dT338
  | 340 => dT340
  | 341 => dT341
  | 342 => dT342
  | 343 => dT343
  | 344 => dT344
  | 351 => dT351
  | 352 => dT352
  | 353 => dT353
  | 355 => dT355
  | 366 => dT366
  | 372 => dT372
  | 373 => dT373
  | 374 => dT374
  | 375 => dT375
  | 376 => dT376
  | 380 => dT380
  | 390 => dT390
  | 391 => dT391
  | 398 => dT398
  | 399 => dT399
  | 400 => dT400
  | 401 => dT401
  | 443 => dT443
  | 444 => dT444
  | 445 => dT445
  | 460 => dT460
  | 461 => dT461
  | 462 => dT462
  | 463 => dT463
  | 464 => dT464
  | _ => []
def xDT (j pc : Nat) : Option (Instr × Nat) := xlk (dTL j) pc
theorem dTL_ok (j : Nat) : (dTL j).all (dck j) = true := by
  unfold dTL
  split
  · exact dT25_ok
  · exact dT26_ok
  · exact dT27_ok
  · exact dT28_ok
  · exact dT29_ok
  · exact dT30_ok
  · exact dT31_ok
  · exact dT36_ok
  · exact dT57_ok
  · exact dT58_ok
  · exact dT59_ok
  · exact dT60_ok
  · exact dT61_ok
  · exact dT62_ok
  · exact dT63_ok
  · exact dT64_ok
  · exact dT65_ok
  · exact dT66_ok
  · exact dT67_ok
  · exact dT68_ok
  · exact dT69_ok
  · exact dT70_ok
  · exact dT71_ok
  · exact dT72_ok
  · exact dT73_ok
  · exact dT74_ok
  · exact dT75_ok
  · exact dT76_ok
  · exact dT77_ok
  · exact dT78_ok
  · exact dT79_ok
  · exact dT80_ok
  · exact dT81_ok
  · exact dT82_ok
  · exact dT83_ok
  · exact dT84_ok
  · exact dT85_ok
  · exact dT86_ok
  · exact dT87_ok
  · exact dT88_ok
  · exact dT90_ok
  · exact dT104_ok
  · exact dT108_ok
  · exact dT175_ok
  · exact dT176_ok
  · exact dT177_ok
  · exact dT178_ok
  · exact dT179_ok
  · exact dT180_ok
  · exact dT181_ok
  · exact dT182_ok
  · exact dT183_ok
  · exact dT184_ok
  · exact dT185_ok
  · exact dT186_ok
  · exact dT187_ok
  · exact dT188_ok
  · exact dT192_ok
  · exact dT193_ok
  · exact dT250_ok
  · exact dT251_ok
  · exact dT252_ok
  · exact dT254_ok
  · exact dT256_ok
  · exact dT257_ok
  · exact dT258_ok
  · exact dT300_ok
  · exact dT302_ok
  · exact dT304_ok
  · exact dT308_ok
  · exact dT312_ok
  · exact dT313_ok
  · exact dT315_ok
  · exact dT316_ok
  · exact dT317_ok
  · exact dT318_ok
  · exact dT319_ok
  · exact dT320_ok
  · exact dT321_ok
  · exact dT322_ok
  · exact dT323_ok
  · exact dT324_ok
  · exact dT325_ok
  · exact dT326_ok
  · exact dT328_ok
  · exact dT333_ok
  · exact dT334_ok
  · exact dT335_ok
  · exact dT336_ok
  · exact dT337_ok
  · exact dT338_ok
  · exact dT340_ok
  · exact dT341_ok
  · exact dT342_ok
  · exact dT343_ok
  · exact dT344_ok
  · exact dT351_ok
  · exact dT352_ok
  · exact dT353_ok
  · exact dT355_ok
  · exact dT366_ok
  · exact dT372_ok
  · exact dT373_ok
  · exact dT374_ok
  · exact dT375_ok
  · exact dT376_ok
  · exact dT380_ok
  · exact dT390_ok
  · exact dT391_ok
  · exact dT398_ok
  · exact dT399_ok
  · exact dT400_ok
  · exact dT401_ok
  · exact dT443_ok
  · exact dT444_ok
  · exact dT445_ok
  · exact dT460_ok
  · exact dT461_ok
  · exact dT462_ok
  · exact dT463_ok
  · exact dT464_ok
  · rfl
theorem xDT_ok : ∀ j M pc v, zM xZ j = some M → xDT j pc = some v → decode (xb M) pc = .ok v := by
  intro j M pc v hj h
  have h1 := List.all_eq_true.mp (dTL_ok j) _ (xlk_mem h)
  unfold dck at h1
  have hj' : xMf j = some M := hj
  rw [hj'] at h1
  dsimp only at h1
  split at h1
  · rename_i w hw
    rw [hw, of_decide_eq_true h1]
  · cases h1
def xgf (b : Bool) (f d j : Nat) (hp : List x_E) (avs : List Value) : Option (Option Value × List x_E) := frun xZ (xY (xfm b)) xDT f d j 0 (lv_args 0 avs) [] hp 0 0
/-- a call on each of the two: their answers are alike -/
def xbt (b : Bool) (jx jm : Nat) (ax am : List Value) : Bool := match xgf b 3000 20 jx (xh2 b) ax with
  | some (some (.int r), hp) => (match xgf b 3000 20 jm hp am with
    | some (some (.int q), _) => decide (r = q)
    | _ => false)
  | _ => false
end
section
/-! THE CLAIM OUT OF ONE WALK OF THE LAW'S BODY. Your part is whole_start (and what it stands on); all else here is the same for every law, but numbers. -/
def R_law : String := "TypedDescentLaw"
def lw_P (b : Addr) (xs : List Int32) (args : Array Value) (s : State) : Prop := args = #[.ref b] ∧ s.IntsAt b xs ∧ xs.length ≤ 6 ∧ (Jvm.Cond.and given_1 narrow_1).before args s = true
def lw_Q (_ : Array Value) (s : State) (o : Outcome) (t : State) : Prop := o = .returned (some (.int 1)) ∧ Framed s o t [] 600000 7302249
def lw_Z (below : List Frame) (a : Array Value) (s : State) : State → Prop := fun t => ∃ o, t.status = .running ∧ Ended t below o ∧ lw_Q a s o t
/-- the law's own end, with 1 on the stack, nothing written that was there before, its room as the claim has it -/
theorem lw_ret {p : Program} {l : Launch} {e : Env} {s : State} {m : MethodId} {below : List Frame} {meth : Method} {c : Code} {b : Nat} (hx : p.tables.exec = Jvm.exec) (hb : c.code = code) (hr : meth.sig.returnType = ret) (hlocks : meth.locks = false) {pc : Nat} {H : Heap} {ls : Array Slot} (hdg : decode code pc = .ok (.ireturn, 1)) : W p l e room_1 s m #[Value.ref b] below meth c H [] 600000 7302249 (lw_Z below #[Value.ref b] s) (F0 m pc ls [.int 1]) := by
  intro T hT X
  obtain ⟨fs, hret, hrun, hended, hW, hframe⟩ := X.leave (v := some (.int 1)) (hlocks := hlocks) (fun h => by rw [hr] at h; cases h)
  have hmeth' : T.vm.method? m = some meth := X.method'
  refine ⟨T.setFrames fs, ?_, .returned (some (.int 1)), hrun, hended, rfl, ⟨_, rfl⟩, hW, hframe⟩
  jvm_step X.here [X.here.top, hx, hb, hdg, hmeth', hr, ret, narrow_b1]
  (try refine ⟨rfl, ?_⟩); (try refine ⟨rfl, ?_⟩)
  first | (intro acts; rw [hret _ acts rfl rfl rfl]) | rw [hret _ _ rfl rfl rfl]
  exact Steps.refl _
/-- what holds at the law's entry: the machine, the code, the tables' words (any of lw_tbl by 'hts w (by decide +kernel)'), the script of L ints xs at the cell b, what the Statement gives of the start (any of its parts by flat_of_before) -/
def lw_At (p : Program) (s : State) (m : MethodId) (meth : Method) (c : Code) (b L : Nat) (xs : Nat → Int32) : Prop :=
  p.tables.exec = Jvm.exec ∧ c.code = code ∧ meth.sig.returnType = ret ∧ c.maxLocals = 4 ∧ s.vm.findClass R_law = some m.cls ∧ (∀ w ∈ lw_tbl, w.before #[Value.ref b] s = true) ∧ va_X b L xs s s.heap ∧ b < s.heap.size ∧ meth.locks = false ∧ (Jvm.Cond.and given_1 narrow_1).before #[Value.ref b] s = true

theorem dl_0 : decode code 0 = .ok (.new 7, 3) := by decide +kernel
theorem dl_3 : decode code 3 = .ok (.dup, 1) := by decide +kernel
theorem dl_4 : decode code 4 = .ok (.invokespecial 9, 3) := by decide +kernel
theorem dl_7 : decode code 7 = .ok (.astore_n 1, 1) := by decide +kernel
theorem dl_8 : decode code 8 = .ok (.new 10, 3) := by decide +kernel
theorem dl_11 : decode code 11 = .ok (.dup, 1) := by decide +kernel
theorem dl_12 : decode code 12 = .ok (.invokespecial 12, 3) := by decide +kernel
theorem dl_15 : decode code 15 = .ok (.astore_n 2, 1) := by decide +kernel
theorem dl_16 : decode code 16 = .ok (.iconst 0, 1) := by decide +kernel
theorem dl_17 : decode code 17 = .ok (.istore_n 3, 1) := by decide +kernel
theorem dl_18 : decode code 18 = .ok (.iload_n 3, 1) := by decide +kernel
theorem dl_19 : decode code 19 = .ok (.aload_n 0, 1) := by decide +kernel
theorem dl_20 : decode code 20 = .ok (.arraylength, 1) := by decide +kernel
theorem dl_21 : decode code 21 = .ok (.bipush 6, 2) := by decide +kernel
theorem dl_23 : decode code 23 = .ok (.isub, 1) := by decide +kernel
theorem dl_24 : decode code 24 = .ok (.if_icmp .gt 384, 3) := by decide +kernel
theorem dl_27 : decode code 27 = .ok (.aload_n 0, 1) := by decide +kernel
theorem dl_28 : decode code 28 = .ok (.iload_n 3, 1) := by decide +kernel
theorem dl_29 : decode code 29 = .ok (.iaload, 1) := by decide +kernel
theorem dl_30 : decode code 30 = .ok (.bipush 15, 2) := by decide +kernel
theorem dl_32 : decode code 32 = .ok (.iand, 1) := by decide +kernel
theorem dl_33 : decode code 33 = .ok (.tableswitch 369 0 11 #[63, 126, 149, 172, 185, 208, 231, 254, 287, 300, 323, 346], 63) := by decide +kernel
theorem dl_96 : decode code 96 = .ok (.aload_n 1, 1) := by decide +kernel
theorem dl_97 : decode code 97 = .ok (.aload_n 0, 1) := by decide +kernel
theorem dl_98 : decode code 98 = .ok (.iload_n 3, 1) := by decide +kernel
theorem dl_99 : decode code 99 = .ok (.iconst 1, 1) := by decide +kernel
theorem dl_100 : decode code 100 = .ok (.iadd, 1) := by decide +kernel
theorem dl_101 : decode code 101 = .ok (.iaload, 1) := by decide +kernel
theorem dl_102 : decode code 102 = .ok (.aload_n 0, 1) := by decide +kernel
theorem dl_103 : decode code 103 = .ok (.iload_n 3, 1) := by decide +kernel
theorem dl_104 : decode code 104 = .ok (.iconst 2, 1) := by decide +kernel
theorem dl_105 : decode code 105 = .ok (.iadd, 1) := by decide +kernel
theorem dl_106 : decode code 106 = .ok (.iaload, 1) := by decide +kernel
theorem dl_107 : decode code 107 = .ok (.aload_n 0, 1) := by decide +kernel
theorem dl_108 : decode code 108 = .ok (.iload_n 3, 1) := by decide +kernel
theorem dl_109 : decode code 109 = .ok (.iconst 3, 1) := by decide +kernel
theorem dl_110 : decode code 110 = .ok (.iadd, 1) := by decide +kernel
theorem dl_111 : decode code 111 = .ok (.iaload, 1) := by decide +kernel
theorem dl_112 : decode code 112 = .ok (.aload_n 0, 1) := by decide +kernel
theorem dl_113 : decode code 113 = .ok (.iload_n 3, 1) := by decide +kernel
theorem dl_114 : decode code 114 = .ok (.iconst 4, 1) := by decide +kernel
theorem dl_115 : decode code 115 = .ok (.iadd, 1) := by decide +kernel
theorem dl_116 : decode code 116 = .ok (.iaload, 1) := by decide +kernel
theorem dl_117 : decode code 117 = .ok (.aload_n 0, 1) := by decide +kernel
theorem dl_118 : decode code 118 = .ok (.iload_n 3, 1) := by decide +kernel
theorem dl_119 : decode code 119 = .ok (.iconst 5, 1) := by decide +kernel
theorem dl_120 : decode code 120 = .ok (.iadd, 1) := by decide +kernel
theorem dl_121 : decode code 121 = .ok (.iaload, 1) := by decide +kernel
theorem dl_122 : decode code 122 = .ok (.invokevirtual 13, 3) := by decide +kernel
theorem dl_125 : decode code 125 = .ok (.aload_n 2, 1) := by decide +kernel
theorem dl_126 : decode code 126 = .ok (.aload_n 0, 1) := by decide +kernel
theorem dl_127 : decode code 127 = .ok (.iload_n 3, 1) := by decide +kernel
theorem dl_128 : decode code 128 = .ok (.iconst 1, 1) := by decide +kernel
theorem dl_129 : decode code 129 = .ok (.iadd, 1) := by decide +kernel
theorem dl_130 : decode code 130 = .ok (.iaload, 1) := by decide +kernel
theorem dl_131 : decode code 131 = .ok (.aload_n 0, 1) := by decide +kernel
theorem dl_132 : decode code 132 = .ok (.iload_n 3, 1) := by decide +kernel
theorem dl_133 : decode code 133 = .ok (.iconst 2, 1) := by decide +kernel
theorem dl_134 : decode code 134 = .ok (.iadd, 1) := by decide +kernel
theorem dl_135 : decode code 135 = .ok (.iaload, 1) := by decide +kernel
theorem dl_136 : decode code 136 = .ok (.aload_n 0, 1) := by decide +kernel
theorem dl_137 : decode code 137 = .ok (.iload_n 3, 1) := by decide +kernel
theorem dl_138 : decode code 138 = .ok (.iconst 3, 1) := by decide +kernel
theorem dl_139 : decode code 139 = .ok (.iadd, 1) := by decide +kernel
theorem dl_140 : decode code 140 = .ok (.iaload, 1) := by decide +kernel
theorem dl_141 : decode code 141 = .ok (.aload_n 0, 1) := by decide +kernel
theorem dl_142 : decode code 142 = .ok (.iload_n 3, 1) := by decide +kernel
theorem dl_143 : decode code 143 = .ok (.iconst 4, 1) := by decide +kernel
theorem dl_144 : decode code 144 = .ok (.iadd, 1) := by decide +kernel
theorem dl_145 : decode code 145 = .ok (.iaload, 1) := by decide +kernel
theorem dl_146 : decode code 146 = .ok (.aload_n 0, 1) := by decide +kernel
theorem dl_147 : decode code 147 = .ok (.iload_n 3, 1) := by decide +kernel
theorem dl_148 : decode code 148 = .ok (.iconst 5, 1) := by decide +kernel
theorem dl_149 : decode code 149 = .ok (.iadd, 1) := by decide +kernel
theorem dl_150 : decode code 150 = .ok (.iaload, 1) := by decide +kernel
theorem dl_151 : decode code 151 = .ok (.invokevirtual 17, 3) := by decide +kernel
theorem dl_154 : decode code 154 = .ok (.if_icmp .eq 248, 3) := by decide +kernel
theorem dl_157 : decode code 157 = .ok (.iconst 0, 1) := by decide +kernel
theorem dl_158 : decode code 158 = .ok (.ireturn, 1) := by decide +kernel
theorem dl_159 : decode code 159 = .ok (.aload_n 1, 1) := by decide +kernel
theorem dl_160 : decode code 160 = .ok (.aload_n 0, 1) := by decide +kernel
theorem dl_161 : decode code 161 = .ok (.iload_n 3, 1) := by decide +kernel
theorem dl_162 : decode code 162 = .ok (.iconst 1, 1) := by decide +kernel
theorem dl_163 : decode code 163 = .ok (.iadd, 1) := by decide +kernel
theorem dl_164 : decode code 164 = .ok (.iaload, 1) := by decide +kernel
theorem dl_165 : decode code 165 = .ok (.invokevirtual 18, 3) := by decide +kernel
theorem dl_168 : decode code 168 = .ok (.aload_n 2, 1) := by decide +kernel
theorem dl_169 : decode code 169 = .ok (.aload_n 0, 1) := by decide +kernel
theorem dl_170 : decode code 170 = .ok (.iload_n 3, 1) := by decide +kernel
theorem dl_171 : decode code 171 = .ok (.iconst 1, 1) := by decide +kernel
theorem dl_172 : decode code 172 = .ok (.iadd, 1) := by decide +kernel
theorem dl_173 : decode code 173 = .ok (.iaload, 1) := by decide +kernel
theorem dl_174 : decode code 174 = .ok (.invokevirtual 22, 3) := by decide +kernel
theorem dl_177 : decode code 177 = .ok (.if_icmp .eq 225, 3) := by decide +kernel
theorem dl_180 : decode code 180 = .ok (.iconst 0, 1) := by decide +kernel
theorem dl_181 : decode code 181 = .ok (.ireturn, 1) := by decide +kernel
theorem dl_182 : decode code 182 = .ok (.aload_n 1, 1) := by decide +kernel
theorem dl_183 : decode code 183 = .ok (.aload_n 0, 1) := by decide +kernel
theorem dl_184 : decode code 184 = .ok (.iload_n 3, 1) := by decide +kernel
theorem dl_185 : decode code 185 = .ok (.iconst 1, 1) := by decide +kernel
theorem dl_186 : decode code 186 = .ok (.iadd, 1) := by decide +kernel
theorem dl_187 : decode code 187 = .ok (.iaload, 1) := by decide +kernel
theorem dl_188 : decode code 188 = .ok (.invokevirtual 23, 3) := by decide +kernel
theorem dl_191 : decode code 191 = .ok (.aload_n 2, 1) := by decide +kernel
theorem dl_192 : decode code 192 = .ok (.aload_n 0, 1) := by decide +kernel
theorem dl_193 : decode code 193 = .ok (.iload_n 3, 1) := by decide +kernel
theorem dl_194 : decode code 194 = .ok (.iconst 1, 1) := by decide +kernel
theorem dl_195 : decode code 195 = .ok (.iadd, 1) := by decide +kernel
theorem dl_196 : decode code 196 = .ok (.iaload, 1) := by decide +kernel
theorem dl_197 : decode code 197 = .ok (.invokevirtual 26, 3) := by decide +kernel
theorem dl_200 : decode code 200 = .ok (.if_icmp .eq 202, 3) := by decide +kernel
theorem dl_203 : decode code 203 = .ok (.iconst 0, 1) := by decide +kernel
theorem dl_204 : decode code 204 = .ok (.ireturn, 1) := by decide +kernel
theorem dl_205 : decode code 205 = .ok (.aload_n 1, 1) := by decide +kernel
theorem dl_206 : decode code 206 = .ok (.invokevirtual 27, 3) := by decide +kernel
theorem dl_209 : decode code 209 = .ok (.aload_n 2, 1) := by decide +kernel
theorem dl_210 : decode code 210 = .ok (.invokevirtual 31, 3) := by decide +kernel
theorem dl_213 : decode code 213 = .ok (.if_icmp .eq 189, 3) := by decide +kernel
theorem dl_216 : decode code 216 = .ok (.iconst 0, 1) := by decide +kernel
theorem dl_217 : decode code 217 = .ok (.ireturn, 1) := by decide +kernel
theorem dl_218 : decode code 218 = .ok (.aload_n 1, 1) := by decide +kernel
theorem dl_219 : decode code 219 = .ok (.aload_n 0, 1) := by decide +kernel
theorem dl_220 : decode code 220 = .ok (.iload_n 3, 1) := by decide +kernel
theorem dl_221 : decode code 221 = .ok (.iconst 1, 1) := by decide +kernel
theorem dl_222 : decode code 222 = .ok (.iadd, 1) := by decide +kernel
theorem dl_223 : decode code 223 = .ok (.iaload, 1) := by decide +kernel
theorem dl_224 : decode code 224 = .ok (.invokevirtual 32, 3) := by decide +kernel
theorem dl_227 : decode code 227 = .ok (.aload_n 2, 1) := by decide +kernel
theorem dl_228 : decode code 228 = .ok (.aload_n 0, 1) := by decide +kernel
theorem dl_229 : decode code 229 = .ok (.iload_n 3, 1) := by decide +kernel
theorem dl_230 : decode code 230 = .ok (.iconst 1, 1) := by decide +kernel
theorem dl_231 : decode code 231 = .ok (.iadd, 1) := by decide +kernel
theorem dl_232 : decode code 232 = .ok (.iaload, 1) := by decide +kernel
theorem dl_233 : decode code 233 = .ok (.invokevirtual 35, 3) := by decide +kernel
theorem dl_236 : decode code 236 = .ok (.if_icmp .eq 166, 3) := by decide +kernel
theorem dl_239 : decode code 239 = .ok (.iconst 0, 1) := by decide +kernel
theorem dl_240 : decode code 240 = .ok (.ireturn, 1) := by decide +kernel
theorem dl_241 : decode code 241 = .ok (.aload_n 1, 1) := by decide +kernel
theorem dl_242 : decode code 242 = .ok (.aload_n 0, 1) := by decide +kernel
theorem dl_243 : decode code 243 = .ok (.iload_n 3, 1) := by decide +kernel
theorem dl_244 : decode code 244 = .ok (.iconst 1, 1) := by decide +kernel
theorem dl_245 : decode code 245 = .ok (.iadd, 1) := by decide +kernel
theorem dl_246 : decode code 246 = .ok (.iaload, 1) := by decide +kernel
theorem dl_247 : decode code 247 = .ok (.invokevirtual 36, 3) := by decide +kernel
theorem dl_250 : decode code 250 = .ok (.aload_n 2, 1) := by decide +kernel
theorem dl_251 : decode code 251 = .ok (.aload_n 0, 1) := by decide +kernel
theorem dl_252 : decode code 252 = .ok (.iload_n 3, 1) := by decide +kernel
theorem dl_253 : decode code 253 = .ok (.iconst 1, 1) := by decide +kernel
theorem dl_254 : decode code 254 = .ok (.iadd, 1) := by decide +kernel
theorem dl_255 : decode code 255 = .ok (.iaload, 1) := by decide +kernel
theorem dl_256 : decode code 256 = .ok (.invokevirtual 39, 3) := by decide +kernel
theorem dl_259 : decode code 259 = .ok (.if_icmp .eq 143, 3) := by decide +kernel
theorem dl_262 : decode code 262 = .ok (.iconst 0, 1) := by decide +kernel
theorem dl_263 : decode code 263 = .ok (.ireturn, 1) := by decide +kernel
theorem dl_264 : decode code 264 = .ok (.aload_n 1, 1) := by decide +kernel
theorem dl_265 : decode code 265 = .ok (.aload_n 0, 1) := by decide +kernel
theorem dl_266 : decode code 266 = .ok (.iload_n 3, 1) := by decide +kernel
theorem dl_267 : decode code 267 = .ok (.iconst 1, 1) := by decide +kernel
theorem dl_268 : decode code 268 = .ok (.iadd, 1) := by decide +kernel
theorem dl_269 : decode code 269 = .ok (.iaload, 1) := by decide +kernel
theorem dl_270 : decode code 270 = .ok (.invokevirtual 40, 3) := by decide +kernel
theorem dl_273 : decode code 273 = .ok (.aload_n 2, 1) := by decide +kernel
theorem dl_274 : decode code 274 = .ok (.aload_n 0, 1) := by decide +kernel
theorem dl_275 : decode code 275 = .ok (.iload_n 3, 1) := by decide +kernel
theorem dl_276 : decode code 276 = .ok (.iconst 1, 1) := by decide +kernel
theorem dl_277 : decode code 277 = .ok (.iadd, 1) := by decide +kernel
theorem dl_278 : decode code 278 = .ok (.iaload, 1) := by decide +kernel
theorem dl_279 : decode code 279 = .ok (.invokevirtual 43, 3) := by decide +kernel
theorem dl_282 : decode code 282 = .ok (.if_icmp .eq 120, 3) := by decide +kernel
theorem dl_285 : decode code 285 = .ok (.iconst 0, 1) := by decide +kernel
theorem dl_286 : decode code 286 = .ok (.ireturn, 1) := by decide +kernel
theorem dl_287 : decode code 287 = .ok (.aload_n 1, 1) := by decide +kernel
theorem dl_288 : decode code 288 = .ok (.aload_n 0, 1) := by decide +kernel
theorem dl_289 : decode code 289 = .ok (.iload_n 3, 1) := by decide +kernel
theorem dl_290 : decode code 290 = .ok (.iconst 1, 1) := by decide +kernel
theorem dl_291 : decode code 291 = .ok (.iadd, 1) := by decide +kernel
theorem dl_292 : decode code 292 = .ok (.iaload, 1) := by decide +kernel
theorem dl_293 : decode code 293 = .ok (.aload_n 0, 1) := by decide +kernel
theorem dl_294 : decode code 294 = .ok (.iload_n 3, 1) := by decide +kernel
theorem dl_295 : decode code 295 = .ok (.iconst 2, 1) := by decide +kernel
theorem dl_296 : decode code 296 = .ok (.iadd, 1) := by decide +kernel
theorem dl_297 : decode code 297 = .ok (.iaload, 1) := by decide +kernel
theorem dl_298 : decode code 298 = .ok (.invokevirtual 44, 3) := by decide +kernel
theorem dl_301 : decode code 301 = .ok (.aload_n 2, 1) := by decide +kernel
theorem dl_302 : decode code 302 = .ok (.aload_n 0, 1) := by decide +kernel
theorem dl_303 : decode code 303 = .ok (.iload_n 3, 1) := by decide +kernel
theorem dl_304 : decode code 304 = .ok (.iconst 1, 1) := by decide +kernel
theorem dl_305 : decode code 305 = .ok (.iadd, 1) := by decide +kernel
theorem dl_306 : decode code 306 = .ok (.iaload, 1) := by decide +kernel
theorem dl_307 : decode code 307 = .ok (.aload_n 0, 1) := by decide +kernel
theorem dl_308 : decode code 308 = .ok (.iload_n 3, 1) := by decide +kernel
theorem dl_309 : decode code 309 = .ok (.iconst 2, 1) := by decide +kernel
theorem dl_310 : decode code 310 = .ok (.iadd, 1) := by decide +kernel
theorem dl_311 : decode code 311 = .ok (.iaload, 1) := by decide +kernel
theorem dl_312 : decode code 312 = .ok (.invokevirtual 48, 3) := by decide +kernel
theorem dl_315 : decode code 315 = .ok (.if_icmp .eq 87, 3) := by decide +kernel
theorem dl_318 : decode code 318 = .ok (.iconst 0, 1) := by decide +kernel
theorem dl_319 : decode code 319 = .ok (.ireturn, 1) := by decide +kernel
theorem dl_320 : decode code 320 = .ok (.aload_n 1, 1) := by decide +kernel
theorem dl_321 : decode code 321 = .ok (.invokevirtual 49, 3) := by decide +kernel
theorem dl_324 : decode code 324 = .ok (.aload_n 2, 1) := by decide +kernel
theorem dl_325 : decode code 325 = .ok (.invokevirtual 52, 3) := by decide +kernel
theorem dl_328 : decode code 328 = .ok (.if_icmp .eq 74, 3) := by decide +kernel
theorem dl_331 : decode code 331 = .ok (.iconst 0, 1) := by decide +kernel
theorem dl_332 : decode code 332 = .ok (.ireturn, 1) := by decide +kernel
theorem dl_333 : decode code 333 = .ok (.aload_n 1, 1) := by decide +kernel
theorem dl_334 : decode code 334 = .ok (.aload_n 0, 1) := by decide +kernel
theorem dl_335 : decode code 335 = .ok (.iload_n 3, 1) := by decide +kernel
theorem dl_336 : decode code 336 = .ok (.iconst 1, 1) := by decide +kernel
theorem dl_337 : decode code 337 = .ok (.iadd, 1) := by decide +kernel
theorem dl_338 : decode code 338 = .ok (.iaload, 1) := by decide +kernel
theorem dl_339 : decode code 339 = .ok (.invokevirtual 53, 3) := by decide +kernel
theorem dl_342 : decode code 342 = .ok (.aload_n 2, 1) := by decide +kernel
theorem dl_343 : decode code 343 = .ok (.aload_n 0, 1) := by decide +kernel
theorem dl_344 : decode code 344 = .ok (.iload_n 3, 1) := by decide +kernel
theorem dl_345 : decode code 345 = .ok (.iconst 1, 1) := by decide +kernel
theorem dl_346 : decode code 346 = .ok (.iadd, 1) := by decide +kernel
theorem dl_347 : decode code 347 = .ok (.iaload, 1) := by decide +kernel
theorem dl_348 : decode code 348 = .ok (.invokevirtual 56, 3) := by decide +kernel
theorem dl_351 : decode code 351 = .ok (.if_icmp .eq 51, 3) := by decide +kernel
theorem dl_354 : decode code 354 = .ok (.iconst 0, 1) := by decide +kernel
theorem dl_355 : decode code 355 = .ok (.ireturn, 1) := by decide +kernel
theorem dl_356 : decode code 356 = .ok (.aload_n 1, 1) := by decide +kernel
theorem dl_357 : decode code 357 = .ok (.aload_n 0, 1) := by decide +kernel
theorem dl_358 : decode code 358 = .ok (.iload_n 3, 1) := by decide +kernel
theorem dl_359 : decode code 359 = .ok (.iconst 1, 1) := by decide +kernel
theorem dl_360 : decode code 360 = .ok (.iadd, 1) := by decide +kernel
theorem dl_361 : decode code 361 = .ok (.iaload, 1) := by decide +kernel
theorem dl_362 : decode code 362 = .ok (.invokevirtual 57, 3) := by decide +kernel
theorem dl_365 : decode code 365 = .ok (.aload_n 2, 1) := by decide +kernel
theorem dl_366 : decode code 366 = .ok (.aload_n 0, 1) := by decide +kernel
theorem dl_367 : decode code 367 = .ok (.iload_n 3, 1) := by decide +kernel
theorem dl_368 : decode code 368 = .ok (.iconst 1, 1) := by decide +kernel
theorem dl_369 : decode code 369 = .ok (.iadd, 1) := by decide +kernel
theorem dl_370 : decode code 370 = .ok (.iaload, 1) := by decide +kernel
theorem dl_371 : decode code 371 = .ok (.invokevirtual 60, 3) := by decide +kernel
theorem dl_374 : decode code 374 = .ok (.if_icmp .eq 28, 3) := by decide +kernel
theorem dl_377 : decode code 377 = .ok (.iconst 0, 1) := by decide +kernel
theorem dl_378 : decode code 378 = .ok (.ireturn, 1) := by decide +kernel
theorem dl_379 : decode code 379 = .ok (.aload_n 1, 1) := by decide +kernel
theorem dl_380 : decode code 380 = .ok (.aload_n 0, 1) := by decide +kernel
theorem dl_381 : decode code 381 = .ok (.iload_n 3, 1) := by decide +kernel
theorem dl_382 : decode code 382 = .ok (.iconst 1, 1) := by decide +kernel
theorem dl_383 : decode code 383 = .ok (.iadd, 1) := by decide +kernel
theorem dl_384 : decode code 384 = .ok (.iaload, 1) := by decide +kernel
theorem dl_385 : decode code 385 = .ok (.invokevirtual 61, 3) := by decide +kernel
theorem dl_388 : decode code 388 = .ok (.aload_n 2, 1) := by decide +kernel
theorem dl_389 : decode code 389 = .ok (.aload_n 0, 1) := by decide +kernel
theorem dl_390 : decode code 390 = .ok (.iload_n 3, 1) := by decide +kernel
theorem dl_391 : decode code 391 = .ok (.iconst 1, 1) := by decide +kernel
theorem dl_392 : decode code 392 = .ok (.iadd, 1) := by decide +kernel
theorem dl_393 : decode code 393 = .ok (.iaload, 1) := by decide +kernel
theorem dl_394 : decode code 394 = .ok (.invokevirtual 64, 3) := by decide +kernel
theorem dl_397 : decode code 397 = .ok (.if_icmp .eq 5, 3) := by decide +kernel
theorem dl_400 : decode code 400 = .ok (.iconst 0, 1) := by decide +kernel
theorem dl_401 : decode code 401 = .ok (.ireturn, 1) := by decide +kernel
theorem dl_402 : decode code 402 = .ok (.iinc 3 6, 3) := by decide +kernel
theorem dl_405 : decode code 405 = .ok (.goto (-387), 3) := by decide +kernel
theorem dl_408 : decode code 408 = .ok (.iconst 1, 1) := by decide +kernel
theorem dl_409 : decode code 409 = .ok (.ireturn, 1) := by decide +kernel
def lwT : List (Nat × Nat × Nat × Nat × Nat × Nat × Nat) := [(25, 13, 2024, 2025, 2026, 5, 0), (315, 17, 9051, 9052, 9053, 5, 12), (27, 18, 2032, 2033, 2034, 1, 0), (317, 22, 9059, 9060, 9061, 1, 12), (176, 23, 4196, 4197, 4198, 1, 0), (398, 26, 10146, 10147, 10148, 1, 12), (250, 27, 6054, 6055, 6056, 0, 0), (460, 31, 11155, 11156, 11157, 0, 12), (252, 32, 6062, 6063, 6064, 1, 0), (391, 35, 10118, 10119, 10120, 1, 12), (254, 36, 6070, 6071, 6072, 1, 0), (443, 39, 11086, 11087, 11088, 1, 12), (256, 40, 6078, 6079, 6080, 1, 0), (444, 43, 11090, 11091, 11092, 1, 12), (257, 44, 6083, 6084, 6085, 2, 0), (445, 48, 11094, 11095, 11096, 2, 12), (300, 49, 7029, 7030, 7031, 0, 0), (461, 52, 11159, 11160, 11161, 0, 12), (302, 53, 7038, 7039, 7040, 1, 0), (462, 56, 11163, 11164, 11165, 1, 12), (312, 57, 7078, 7079, 7080, 1, 0), (463, 60, 11167, 11168, 11169, 1, 12), (313, 61, 7082, 7083, 7084, 1, 0), (464, 64, 11171, 11172, 11173, 1, 12)]
def lwK (e : Nat × Nat × Nat × Nat × Nat × Nat × Nat) : Bool := match xMf e.1 with
  | none => false
  | some M => xis e.2.2.1 (.methodLink R_law e.2.1 (xy M)) && xis e.2.2.2.1 (.instanceMethod (xy M)) && xis e.2.2.2.2.1 (.selects (xy M).cls (xy M) (xy M)) && decide (xa M = e.2.2.2.2.2.1) && decide (xo M = e.2.2.2.2.2.2) && decide (xmc M = 0) && decide (xms M = 0) && decide (e.2.2.2.2.2.1 + 1 ≤ xn M)
theorem lwT_ok : lwT.all lwK = true := by decide +kernel
def xbr (b : Bool) (f d j : Nat) (hp : List x_E) (avs : List Value) : Option (Option Value × List x_E) := match xMf j with
  | none => none
  | some M => brun xZ (xY (xfm b)) f d M 0 (lv_args 0 avs) [] hp 0 0
theorem xTs_sub {w : Cond} (h : w ∈ xTs) : w ∈ lw_tbl := (List.mem_filter.mp h).1
theorem xfm_ok (b : Bool) : xfm b = .null ∨ xfm b = .ref 2000000 := by cases b <;> first | exact Or.inl rfl | exact Or.inr rfl
/-- what the law's walk stands on -/
def lwC (p : Program) (s : State) (m : MethodId) (c : Code) (args : Array Value) (D : va_G) (cA : Nat → ClassId) (b : Bool) (ρ0 : Nat → Nat) : Prop :=
  p.tables.exec = Jvm.exec ∧ c.code = code ∧ c.maxLocals = 4 ∧ s.vm.findClass R_law = some m.cls ∧ (∀ w ∈ lw_tbl, w.before args s = true) ∧ va_K D xcl (x_tys cA) s ∧ xEnv xZ (xY (xfm b)) ρ0 (fun q => s.heap.size ≤ q) s s.heap
/-- the world of the law's walk -/
def lwW (s : State) (D : va_G) (cA : Nat → ClassId) (ρ0 ρ : Nat → Nat) (hp : List x_E) (H : Heap) (locs : List Loc) : Prop :=
  va_P D xcl (xw ρ cA hp) H ∧ va_D (fun q => s.heap.size ≤ q) (xw ρ cA hp) ∧ va_S (fun q => s.heap.size ≤ q) s.heap H locs ∧ ∀ i, 1000000 ≤ i → ρ i = ρ0 i
theorem xsl_len (v : Nat) (as : List Int32) : (lg_sl (.ref v :: as.map Value.int)).length = as.length + 1 := by
  have : ∀ as : List Int32, (lg_sl (as.map Value.int)).length = as.length := by
    intro as
    induction as with
    | nil => rfl
    | cons a r ih => simp only [lg_sl, List.map_cons, List.flatMap_cons, List.length_append] at ih ⊢; rw [ih]; simp [Value.category]; omega
  have h := this as
  simp only [lg_sl, List.flatMap_cons, List.length_append] at h ⊢
  rw [h]
  simp [Value.category]
  omega
theorem xall_range {α : Type} (l : List α) : (List.range l.length).map (fun i => l[i]?) = l.map some := by
  apply List.ext_getElem?
  intro q
  rw [List.getElem?_map, List.getElem?_map]
  by_cases hq : q < l.length
  · rw [List.getElem?_range hq]
    simp [hq]
  · rw [List.getElem?_eq_none (by simpa using hq), List.getElem?_eq_none (by simpa using hq)]
    rfl
section LW
variable {p : Program} {l : Launch} {e : Env} {s : State} {m : MethodId} {args : Array Value} {below : List Frame} {meth : Method} {c : Code} {H : Heap} {locs : List Loc} {cells slots : Nat} {Q : State → Prop}
set_option maxHeartbeats 4000000 in
/-- a call from the law -/
theorem lw_v {D : va_G} {cA : Nat → ClassId} {b : Bool} {ρ0 ρ : Nat → Nat} {hp hp1 : List x_E} (C : lwC p s m c args D cA b ρ0) (hw : lwW s D cA ρ0 ρ hp H locs) {ls : Array Slot} {pc f d v : Nat} {as : List Int32} {r : Int32} {rest : List Value} (hls : ls.size = 4) (k : Nat) {j idx i1 i2 i3 na own : Nat} (hk : lwT[k]? = some (j, idx, i1, i2, i3, na, own)) (hna : as.length = na) (hd : d ≤ 1000) (hrun : xbr b f d j hp (.ref v :: as.map .int) = some (some (.int r), hp1)) {fs : List Value} (hv : hp[v]? = some (.inr (own, fs))) (hcells : cells ≤ 600000) (hslots : slots ≤ 7302249) (hcat : (rest.map fun v => v.category).sum ≤ 8) (hdg : decode code pc = .ok (.invokevirtual idx, 3))
    (kk : ∀ (ρ1 : Nat → Nat) (H1 : Heap) (locs1 : List Loc), (∀ i, i < hp.length → ρ1 i = ρ i) → lwW s D cA ρ0 ρ1 hp1 H1 locs1 → W p l e room_1 s m args below meth c H1 locs1 cells slots Q (F0 m (pc + 3) ls (.int r :: rest))) : W p l e room_1 s m args below meth c H locs cells slots Q (F0 m pc ls ((as.map Value.int).reverse ++ .ref (ρ v) :: rest)) := by
  obtain ⟨hx, hb, hml, hown, hts, hK, hE⟩ := C
  obtain ⟨hP, hD, hS, hag⟩ := hw
  have hc := List.all_eq_true.mp lwT_ok _ (List.mem_of_getElem? hk)
  unfold lwK at hc
  unfold xbr at hrun
  cases hj : xMf j with
  | none => rw [hj] at hrun; cases hrun
  | some M =>
    rw [hj] at hrun
    dsimp only at hc hrun
    rw [hj] at hc
    simp only [Bool.and_eq_true, decide_eq_true_eq] at hc
    obtain ⟨⟨⟨⟨⟨⟨⟨g1, g2⟩, g3⟩, g4⟩, g5⟩, g6⟩, g7⟩, g8⟩ := hc
    have hZ := xZ_ok (xfm_ok b)
    obtain ⟨c1, c2, c3, c4, c5, c6⟩ := hZ.2.2.2.2.2.1 j M hj
    have hMet : xMet xZ (xY (xfm b)) xTs l D cA d M hp (.ref v :: as.map .int) (some (.int r)) hp1 := xMet_of hZ (xWst_all hZ l D cA f) hj hrun (by rw [xsl_len, hna]; exact g8)
    have hG : GoodIn lw_tbl (Cond.code (xy M) (xb M) (xn M) (xr M) :: xTs) := fun w hw => by
      rcases List.mem_cons.mp hw with rfl | h
      · exact ⟨xTs_sub c1, good_of_word (List.mem_filter.mp c1).2⟩
      · exact ⟨xTs_sub h, good_of_word (List.mem_filter.mp h).2⟩
    have hA : ∀ q : Nat, s.heap.size ≤ q → (fun q : Nat => s.heap.size ≤ q) q := fun _ h => h
    have hFc := va_free (wc := xw ρ cA hp) hD hS hA (List.range (xw ρ cA hp).length) (xall_range _)
    have hR : (xrm d (xmc M) (xms M)).frames + 1 ≤ room_1.frames ∧ 8 + (xn M + 11) + (xrm d (xmc M) (xms M)).locals ≤ room_1.locals := ⟨by show d + 1 ≤ 2048; omega, by show 8 + (xn M + 11) + 64 * d ≤ 84000; omega⟩
    have hmap : (as.map Value.int).map (xv ρ) = as.map Value.int := by
      rw [List.map_map]
      rfl
    have he : (xw ρ cA hp)[v]? = some (ρ v, .inr (xo M, fs.map (xv ρ))) := by rw [xw_get, hv, g5]; rfl
    obtain ⟨q, hq, -⟩ := hP v _ he
    have hrec := va_recv hK hP hq he
    have hNm := hZ.2.2.2.2.2.2.2.2.2.2.2.2.1 (xo M) q hq
    rw [hNm] at hrec
    have c4' : (xy M).cls = xnmF (xo M) := c4
    have hrec' : ∃ cell : Cell, H[ρ v]? = some cell ∧ cell.vm.isStatics = false ∧ s.vm.findClass (xy M).cls = some cell.cls := by rw [c4']; exact hrec
    have hpre : ∀ U : State, U.heap = H → s.WarmedH U.vm → xPc xZ (xY (xfm b)) D xcl cA ρ hp (.ref v :: as.map .int) H.size (Value.ref (ρ v) :: as.map Value.int).toArray U := fun U hU hW => ⟨by rw [List.map_cons, hmap]; rfl, by rw [hU], by rw [hU]; exact hP, va_K.moved hW.alike hK, hD.weaken (fun _ _ _ _ => trivial), xEnv_go (fun o idx g hg => (hZ.2.2.2.2.2.2.2.2.2.2.2.2.2.2 o idx g hg).2) hE hS hFc hag hW hU⟩
    have hrn := va_runV (e := e) (below := below) (meth := meth) (locs := locs) (cells := cells) (slots := slots) (g := F0 m pc ls ((as.map Value.int).reverse ++ .ref (ρ v) :: rest)) (rest := rest) (C := (xy M).cls) (b := ρ v) (As := as.map Value.int) (R := room_1) (nL := 4) ⟨hx, hb, hml, hown, hts⟩ (hMet ρ H.size) ⟨callB_of (xa M) hts hG rfl rfl rfl (hts _ (xTs_sub c2)) (hts _ (xTs_sub (xis_mem g1))) c5 hR, hts _ (xTs_sub (xis_mem g2)), hts _ (xTs_sub (xis_mem g3))⟩ ⟨xBlind, hrec', hpre⟩ rfl (by rw [List.length_map, hna, g4]) hls rfl (lv_room hcat) hdg ⟨by rw [g6]; exact hcells, by rw [g7]; exact hslots⟩
    refine x_call hrn hS (fun q _ z => hFc q z) hFc (fun ρ1 t H1 locs1 ht hvm hag1 hP1 hK1 hD1 hS1 => ?_)
    rw [g6, g7]
    exact kk ρ1 H1 locs1 (fun i hi => hag1 i (Or.inl hi)) ⟨by rw [← ht]; exact hP1, hD1.weaken (fun _ q _ z => hFc q.1 z), hS1, fun i hi => (hag1 i (Or.inr hi)).trans (hag i hi)⟩
end LW
end
section
def xCalls : List (Nat × Nat × Nat) := [(25, 315, 5), (27, 317, 1), (176, 398, 1), (250, 460, 0), (252, 391, 1), (254, 443, 1), (256, 444, 1), (257, 445, 2), (300, 461, 0), (302, 462, 1), (312, 463, 1), (313, 464, 1)]
/-- the cells of the two objects -/
def xGd (hp : List x_E) : Prop := hp.length = 122 ∧ (∃ fs, hp[0]? = some (.inr (0, fs))) ∧ ∃ fs, hp[49]? = some (.inr (12, fs))
/-- a call on each of the two: alike answers, and what is kept is kept -/
def xStep (b : Bool) (N : Nat) (Inv : Nat → List x_E → Prop) : Prop := ∀ (i : Nat) (hp : List x_E), 6 * i + 6 ≤ N → Inv i hp → ∀ q ∈ xCalls, ∀ as : List Int32, as.length = q.2.2 → ∃ (f f2 : Nat) (r : Int32) (hp1 hp2 : List x_E), xbr b f 1000 q.1 hp (.ref 0 :: as.map Value.int) = some (some (.int r), hp1) ∧ xbr b f2 1000 q.2.1 hp1 (.ref 49 :: as.map Value.int) = some (some (.int r), hp2) ∧ xGd hp1 ∧ xGd hp2 ∧ Inv (i + 1) hp2
section LP
variable {p : Program} {l : Launch} {e : Env} {s : State} {m : MethodId} {below : List Frame} {meth : Method} {c : Code} {H : Heap} {locs : List Loc} {cells slots : Nat} {Q : State → Prop}
theorem lw_va {args : Array Value} {D : va_G} {cA : Nat → ClassId} {b : Bool} {ρ0 ρ : Nat → Nat} {hp hp1 : List x_E} (C : lwC p s m c args D cA b ρ0) (hw : lwW s D cA ρ0 ρ hp H locs) {ls : Array Slot} {pc f d v a : Nat} (ha : ρ v = a) {as : List Int32} {r : Int32} {rest : List Value} (hls : ls.size = 4) (k : Nat) {j idx i1 i2 i3 na own : Nat} (hk : lwT[k]? = some (j, idx, i1, i2, i3, na, own)) (hna : as.length = na) (hd : d ≤ 1000) (hrun : xbr b f d j hp (.ref v :: as.map .int) = some (some (.int r), hp1)) {fs : List Value} (hv : hp[v]? = some (.inr (own, fs))) (hcells : cells ≤ 600000) (hslots : slots ≤ 7302249) (hcat : (rest.map fun v => v.category).sum ≤ 8) (hdg : decode code pc = .ok (.invokevirtual idx, 3))
    (kk : ∀ (ρ1 : Nat → Nat) (H1 : Heap) (locs1 : List Loc), (∀ i, i < hp.length → ρ1 i = ρ i) → lwW s D cA ρ0 ρ1 hp1 H1 locs1 → W p l e room_1 s m args below meth c H1 locs1 cells slots Q (F0 m (pc + 3) ls (.int r :: rest))) : W p l e room_1 s m args below meth c H locs cells slots Q (F0 m pc ls ((as.map Value.int).reverse ++ .ref a :: rest)) := by
  subst ha
  exact lw_v C hw hls k hk hna hd hrun hv hcells hslots hcat hdg kk
/-- an int of the script -/
theorem lw_ld {args : Array Value} {R : Room} {b0 L i j a0 a1 pc : Nat} {xs : Nat → Int32} {ls : Array Slot} {rest : List Value} {x : Int32} (hx : p.tables.exec = Jvm.exec) (hb : c.code = code) (hX : va_X b0 L xs s s.heap) (hbl : b0 < s.heap.size) (hS : va_S (fun q => s.heap.size ≤ q) s.heap H locs) (hl : lv_has ls 4 [(3, .int (nI (6 * i))), (0, .ref b0), (1, .ref a0), (2, .ref a1)]) (hi : 6 * i + j < L) (hL : L ≤ 100000) (hxj : Int32.ofInt (j : Int) = nI j) (d0 : decode code pc = .ok (.aload_n 0, 1)) (d1 : decode code (pc + 1) = .ok (.iload_n 3, 1)) (d2 : decode code (pc + 2) = .ok (.iconst (j : Int), 1)) (d3 : decode code (pc + 3) = .ok (.iadd, 1)) (d4 : decode code (pc + 4) = .ok (.iaload, 1)) (ex : xs (6 * i + j) = x)
    (kk : W p l e R s m args below meth c H locs cells slots Q (F0 m (pc + 5) ls (.int x :: rest))) : W p l e R s m args below meth c H locs cells slots Q (F0 m pc ls rest) := by
  refine lv_aload_n hx hb d0 rfl (lv_at hl 1 rfl) ?_
  refine lv_iload_n hx hb d1 rfl (lv_at hl 0 rfl) ?_
  refine lv_iconst (v := nI j) hx hb d2 hxj ?_
  refine lv_iadd hx hb d3 ?_
  rw [nI_add]
  refine va_sld hx hb hX hbl (Nat.not_le.mpr hbl) hS (vp_in_nI hi (by omega)) d4 ?_
  rw [nI_clamp (by omega), ex]
  exact kk
set_option maxHeartbeats 8000000 in
set_option maxRecDepth 20000 in
theorem law_loop {b0 L N : Nat} {xs : Nat → Int32} {D : va_G} {cA : Nat → ClassId} {b : Bool} {ρ0 : Nat → Nat} {a0 a1 : Nat} (hLN : L ≤ N) (hN : N ≤ 3072) (C : lwC p s m c #[Value.ref b0] D cA b ρ0) (hX : va_X b0 L xs s s.heap) (hbl : b0 < s.heap.size) (hr : meth.sig.returnType = ret) (hlocks : meth.locks = false) {Inv : Nat → List x_E → Prop} (hst : xStep b N Inv) (hsk : ∀ i hp, Inv i hp → Inv (i + 1) hp) (hgd : ∀ i hp, Inv i hp → xGd hp) :
    ∀ (n i : Nat), L < 6 * i + 6 * n → 6 * i ≤ L + 6 → ∀ (hp : List x_E) (ρ : Nat → Nat) (H : Heap) (locs : List Loc) (ls : Array Slot), Inv i hp → lwW s D cA ρ0 ρ hp H locs → ρ 0 = a0 → ρ 49 = a1 → lv_has ls 4 [(3, .int (nI (6 * i))), (0, .ref b0), (1, .ref a0), (2, .ref a1)] → W p l e room_1 s m #[Value.ref b0] below meth c H locs 600000 7302249 (lw_Z below #[Value.ref b0] s) (F0 m 18 ls []) := by
  intro n
  induction n with
  | zero =>
    intro i h1 h1b
    have h0 : ¬ 6 * i + 6 ≤ L := by omega
    intro hp ρ H locs ls hI hw e0 e1 hl
    obtain ⟨hx, hb, hml, hown, hts, hK, hE⟩ := id C
    obtain ⟨hP, hD, hS, hag⟩ := id hw
    refine lv_iload_n hx hb dl_18 rfl (lv_at hl 0 rfl) ?_
    refine lv_aload_n hx hb dl_19 rfl (lv_at hl 1 rfl) ?_
    refine va_slen hx hb hX hbl (Nat.not_le.mpr hbl) hS dl_20 ?_
    refine lv_bipush (v := nI 6) hx hb dl_21 (by decide) ?_
    refine lv_isub hx hb dl_23 ?_
    refine lv_icmp_gt (tgt := 408) hx hb dl_24 (by decide) (fun _ => ?_) (fun hc => absurd ?_ hc)
    · refine lv_iconst (v := 1) hx hb dl_408 (by decide) ?_
      refine va_forget (fun q hq => hS.2.2 q hq) ?_
      exact lw_ret hx hb hr hlocks dl_409
    · show nI L - nI 6 < nI (6 * i)
      rw [Int32.lt_iff_toInt_lt, pk_sub_toInt (by omega) (by omega), nI_toInt (by omega)]
      omega
  | succ n ih =>
    intro i h1 h1b hp ρ H locs ls hI hw e0 e1 hl
    obtain ⟨hx, hb, hml, hown, hts, hK, hE⟩ := id C
    obtain ⟨hP, hD, hS, hag⟩ := id hw
    refine lv_iload_n hx hb dl_18 rfl (lv_at hl 0 rfl) ?_
    refine lv_aload_n hx hb dl_19 rfl (lv_at hl 1 rfl) ?_
    refine va_slen hx hb hX hbl (Nat.not_le.mpr hbl) hS dl_20 ?_
    refine lv_bipush (v := nI 6) hx hb dl_21 (by decide) ?_
    refine lv_isub hx hb dl_23 ?_
    by_cases h0 : 6 * i + 6 ≤ L
    · refine lv_icmp_gt (tgt := 408) hx hb dl_24 (by decide) (fun hc => absurd hc ?_) (fun _ => ?_)
      · show ¬ nI L - nI 6 < nI (6 * i)
        rw [Int32.lt_iff_toInt_lt, pk_sub_toInt (by omega) (by omega), nI_toInt (by omega)]
        omega
      · refine lv_aload_n hx hb dl_27 rfl (lv_at hl 1 rfl) ?_
        refine lv_iload_n hx hb dl_28 rfl (lv_at hl 0 rfl) ?_
        refine va_sld hx hb hX hbl (Nat.not_le.mpr hbl) hS (vp_in_nI (by omega) (by omega)) dl_29 ?_
        refine lv_bipush (v := 15) hx hb dl_30 (by decide) ?_
        refine lv_iand hx hb dl_32 ?_
        have tail : ∀ (hp2 : List x_E) (ρ2 : Nat → Nat) (H2 : Heap) (locs2 : List Loc), Inv (i + 1) hp2 → lwW s D cA ρ0 ρ2 hp2 H2 locs2 → ρ2 0 = a0 → ρ2 49 = a1 → W p l e room_1 s m #[Value.ref b0] below meth c H2 locs2 600000 7302249 (lw_Z below #[Value.ref b0] s) (F0 m 402 ls []) := by
          intro hp2 ρ2 H2 locs2 hI2 hw2 e02 e12
          refine lv_iinc (v := nI (6 * (i + 1))) (lv' := [(3, .int (nI (6 * (i + 1)))), (0, .ref b0), (1, .ref a0), (2, .ref a1)]) hx hb dl_402 hl (k := 0) rfl ?_ (by decide) rfl (fun ls2 hl2 => ?_)
          · show nI (6 * i) + nI 6 = nI (6 * (i + 1))
            rw [nI_add]
            congr 1
          · refine lv_goto (tgt := 18) hx hb dl_405 (by decide) ?_
            exact ih (i + 1) (by omega) (by omega) hp2 ρ2 H2 locs2 ls2 hI2 hw2 e02 e12 hl2
        obtain ⟨g1, ⟨f0, g2⟩, f1, g3⟩ := hgd i hp hI
        have hst1 := hst i hp (by omega) hI
        generalize hv0 : xs (nI (6 * i)).toNatClampNeg &&& 15 = v0
        obtain ⟨k, hk, ek⟩ := pk_andE (xs (nI (6 * i)).toNatClampNeg) (m := 15) 4 (by decide)
        rw [hv0] at ek
        subst ek
        match k, hk with
        | 0, _ =>
          refine lv_tableIn (tgt := 96) (off := 63) hx hb dl_33 (by decide) (by decide) rfl (by decide) ?_
          obtain ⟨x1, ex1⟩ : ∃ x, xs (6 * i + 1) = x := ⟨_, rfl⟩
          obtain ⟨x2, ex2⟩ : ∃ x, xs (6 * i + 2) = x := ⟨_, rfl⟩
          obtain ⟨x3, ex3⟩ : ∃ x, xs (6 * i + 3) = x := ⟨_, rfl⟩
          obtain ⟨x4, ex4⟩ : ∃ x, xs (6 * i + 4) = x := ⟨_, rfl⟩
          obtain ⟨x5, ex5⟩ : ∃ x, xs (6 * i + 5) = x := ⟨_, rfl⟩
          obtain ⟨f, f2, r, hp1, hp2, r1, r2, ⟨q1, q2, ⟨fq, q3⟩⟩, ⟨q4, q5⟩, q6⟩ := hst1 (25, 315, 5) (List.mem_of_getElem? (i := 0) rfl) [x1, x2, x3, x4, x5] rfl
          refine lv_aload_n hx hb dl_96 rfl (lv_at hl 2 rfl) ?_
          refine lw_ld (j := 1) hx hb hX hbl hS hl (by omega) (by omega) (by decide) dl_97 dl_98 dl_99 dl_100 dl_101 ex1 ?_
          refine lw_ld (j := 2) hx hb hX hbl hS hl (by omega) (by omega) (by decide) dl_102 dl_103 dl_104 dl_105 dl_106 ex2 ?_
          refine lw_ld (j := 3) hx hb hX hbl hS hl (by omega) (by omega) (by decide) dl_107 dl_108 dl_109 dl_110 dl_111 ex3 ?_
          refine lw_ld (j := 4) hx hb hX hbl hS hl (by omega) (by omega) (by decide) dl_112 dl_113 dl_114 dl_115 dl_116 ex4 ?_
          refine lw_ld (j := 5) hx hb hX hbl hS hl (by omega) (by omega) (by decide) dl_117 dl_118 dl_119 dl_120 dl_121 ex5 ?_
          refine lw_va (as := [x1, x2, x3, x4, x5]) (rest := []) C hw e0 hl.1 0 rfl rfl (by decide) r1 g2 (Nat.le_refl _) (Nat.le_refl _) (by decide) dl_122 (fun ρ1 H1 locs1 ag1 hw1 => ?_)
          refine lv_aload_n hx hb dl_125 rfl (lv_at hl 3 rfl) ?_
          refine lw_ld (j := 1) hx hb hX hbl hw1.2.2.1 hl (by omega) (by omega) (by decide) dl_126 dl_127 dl_128 dl_129 dl_130 ex1 ?_
          refine lw_ld (j := 2) hx hb hX hbl hw1.2.2.1 hl (by omega) (by omega) (by decide) dl_131 dl_132 dl_133 dl_134 dl_135 ex2 ?_
          refine lw_ld (j := 3) hx hb hX hbl hw1.2.2.1 hl (by omega) (by omega) (by decide) dl_136 dl_137 dl_138 dl_139 dl_140 ex3 ?_
          refine lw_ld (j := 4) hx hb hX hbl hw1.2.2.1 hl (by omega) (by omega) (by decide) dl_141 dl_142 dl_143 dl_144 dl_145 ex4 ?_
          refine lw_ld (j := 5) hx hb hX hbl hw1.2.2.1 hl (by omega) (by omega) (by decide) dl_146 dl_147 dl_148 dl_149 dl_150 ex5 ?_
          refine lw_va (as := [x1, x2, x3, x4, x5]) (rest := [.int r]) C hw1 ((ag1 49 (by omega)).trans e1) hl.1 1 rfl rfl (by decide) r2 q3 (Nat.le_refl _) (Nat.le_refl _) (Nat.le_of_ble_eq_true rfl) dl_151 (fun ρ2 H2 locs2 ag2 hw2 => ?_)
          refine lv_icmp_eq (tgt := 402) hx hb dl_154 (by decide) (fun _ => ?_) (fun hc => absurd rfl hc)
          exact tail hp2 ρ2 H2 locs2 q6 hw2 ((ag2 0 (by omega)).trans ((ag1 0 (by omega)).trans e0)) ((ag2 49 (by omega)).trans ((ag1 49 (by omega)).trans e1))
        | 1, _ =>
          refine lv_tableIn (tgt := 159) (off := 126) hx hb dl_33 (by decide) (by decide) rfl (by decide) ?_
          obtain ⟨x1, ex1⟩ : ∃ x, xs (6 * i + 1) = x := ⟨_, rfl⟩
          obtain ⟨f, f2, r, hp1, hp2, r1, r2, ⟨q1, q2, ⟨fq, q3⟩⟩, ⟨q4, q5⟩, q6⟩ := hst1 (27, 317, 1) (List.mem_of_getElem? (i := 1) rfl) [x1] rfl
          refine lv_aload_n hx hb dl_159 rfl (lv_at hl 2 rfl) ?_
          refine lw_ld (j := 1) hx hb hX hbl hS hl (by omega) (by omega) (by decide) dl_160 dl_161 dl_162 dl_163 dl_164 ex1 ?_
          refine lw_va (as := [x1]) (rest := []) C hw e0 hl.1 2 rfl rfl (by decide) r1 g2 (Nat.le_refl _) (Nat.le_refl _) (by decide) dl_165 (fun ρ1 H1 locs1 ag1 hw1 => ?_)
          refine lv_aload_n hx hb dl_168 rfl (lv_at hl 3 rfl) ?_
          refine lw_ld (j := 1) hx hb hX hbl hw1.2.2.1 hl (by omega) (by omega) (by decide) dl_169 dl_170 dl_171 dl_172 dl_173 ex1 ?_
          refine lw_va (as := [x1]) (rest := [.int r]) C hw1 ((ag1 49 (by omega)).trans e1) hl.1 3 rfl rfl (by decide) r2 q3 (Nat.le_refl _) (Nat.le_refl _) (Nat.le_of_ble_eq_true rfl) dl_174 (fun ρ2 H2 locs2 ag2 hw2 => ?_)
          refine lv_icmp_eq (tgt := 402) hx hb dl_177 (by decide) (fun _ => ?_) (fun hc => absurd rfl hc)
          exact tail hp2 ρ2 H2 locs2 q6 hw2 ((ag2 0 (by omega)).trans ((ag1 0 (by omega)).trans e0)) ((ag2 49 (by omega)).trans ((ag1 49 (by omega)).trans e1))
        | 2, _ =>
          refine lv_tableIn (tgt := 182) (off := 149) hx hb dl_33 (by decide) (by decide) rfl (by decide) ?_
          obtain ⟨x1, ex1⟩ : ∃ x, xs (6 * i + 1) = x := ⟨_, rfl⟩
          obtain ⟨f, f2, r, hp1, hp2, r1, r2, ⟨q1, q2, ⟨fq, q3⟩⟩, ⟨q4, q5⟩, q6⟩ := hst1 (176, 398, 1) (List.mem_of_getElem? (i := 2) rfl) [x1] rfl
          refine lv_aload_n hx hb dl_182 rfl (lv_at hl 2 rfl) ?_
          refine lw_ld (j := 1) hx hb hX hbl hS hl (by omega) (by omega) (by decide) dl_183 dl_184 dl_185 dl_186 dl_187 ex1 ?_
          refine lw_va (as := [x1]) (rest := []) C hw e0 hl.1 4 rfl rfl (by decide) r1 g2 (Nat.le_refl _) (Nat.le_refl _) (by decide) dl_188 (fun ρ1 H1 locs1 ag1 hw1 => ?_)
          refine lv_aload_n hx hb dl_191 rfl (lv_at hl 3 rfl) ?_
          refine lw_ld (j := 1) hx hb hX hbl hw1.2.2.1 hl (by omega) (by omega) (by decide) dl_192 dl_193 dl_194 dl_195 dl_196 ex1 ?_
          refine lw_va (as := [x1]) (rest := [.int r]) C hw1 ((ag1 49 (by omega)).trans e1) hl.1 5 rfl rfl (by decide) r2 q3 (Nat.le_refl _) (Nat.le_refl _) (Nat.le_of_ble_eq_true rfl) dl_197 (fun ρ2 H2 locs2 ag2 hw2 => ?_)
          refine lv_icmp_eq (tgt := 402) hx hb dl_200 (by decide) (fun _ => ?_) (fun hc => absurd rfl hc)
          exact tail hp2 ρ2 H2 locs2 q6 hw2 ((ag2 0 (by omega)).trans ((ag1 0 (by omega)).trans e0)) ((ag2 49 (by omega)).trans ((ag1 49 (by omega)).trans e1))
        | 3, _ =>
          refine lv_tableIn (tgt := 205) (off := 172) hx hb dl_33 (by decide) (by decide) rfl (by decide) ?_
          obtain ⟨f, f2, r, hp1, hp2, r1, r2, ⟨q1, q2, ⟨fq, q3⟩⟩, ⟨q4, q5⟩, q6⟩ := hst1 (250, 460, 0) (List.mem_of_getElem? (i := 3) rfl) [] rfl
          refine lv_aload_n hx hb dl_205 rfl (lv_at hl 2 rfl) ?_
          refine lw_va (as := []) (rest := []) C hw e0 hl.1 6 rfl rfl (by decide) r1 g2 (Nat.le_refl _) (Nat.le_refl _) (by decide) dl_206 (fun ρ1 H1 locs1 ag1 hw1 => ?_)
          refine lv_aload_n hx hb dl_209 rfl (lv_at hl 3 rfl) ?_
          refine lw_va (as := []) (rest := [.int r]) C hw1 ((ag1 49 (by omega)).trans e1) hl.1 7 rfl rfl (by decide) r2 q3 (Nat.le_refl _) (Nat.le_refl _) (Nat.le_of_ble_eq_true rfl) dl_210 (fun ρ2 H2 locs2 ag2 hw2 => ?_)
          refine lv_icmp_eq (tgt := 402) hx hb dl_213 (by decide) (fun _ => ?_) (fun hc => absurd rfl hc)
          exact tail hp2 ρ2 H2 locs2 q6 hw2 ((ag2 0 (by omega)).trans ((ag1 0 (by omega)).trans e0)) ((ag2 49 (by omega)).trans ((ag1 49 (by omega)).trans e1))
        | 4, _ =>
          refine lv_tableIn (tgt := 218) (off := 185) hx hb dl_33 (by decide) (by decide) rfl (by decide) ?_
          obtain ⟨x1, ex1⟩ : ∃ x, xs (6 * i + 1) = x := ⟨_, rfl⟩
          obtain ⟨f, f2, r, hp1, hp2, r1, r2, ⟨q1, q2, ⟨fq, q3⟩⟩, ⟨q4, q5⟩, q6⟩ := hst1 (252, 391, 1) (List.mem_of_getElem? (i := 4) rfl) [x1] rfl
          refine lv_aload_n hx hb dl_218 rfl (lv_at hl 2 rfl) ?_
          refine lw_ld (j := 1) hx hb hX hbl hS hl (by omega) (by omega) (by decide) dl_219 dl_220 dl_221 dl_222 dl_223 ex1 ?_
          refine lw_va (as := [x1]) (rest := []) C hw e0 hl.1 8 rfl rfl (by decide) r1 g2 (Nat.le_refl _) (Nat.le_refl _) (by decide) dl_224 (fun ρ1 H1 locs1 ag1 hw1 => ?_)
          refine lv_aload_n hx hb dl_227 rfl (lv_at hl 3 rfl) ?_
          refine lw_ld (j := 1) hx hb hX hbl hw1.2.2.1 hl (by omega) (by omega) (by decide) dl_228 dl_229 dl_230 dl_231 dl_232 ex1 ?_
          refine lw_va (as := [x1]) (rest := [.int r]) C hw1 ((ag1 49 (by omega)).trans e1) hl.1 9 rfl rfl (by decide) r2 q3 (Nat.le_refl _) (Nat.le_refl _) (Nat.le_of_ble_eq_true rfl) dl_233 (fun ρ2 H2 locs2 ag2 hw2 => ?_)
          refine lv_icmp_eq (tgt := 402) hx hb dl_236 (by decide) (fun _ => ?_) (fun hc => absurd rfl hc)
          exact tail hp2 ρ2 H2 locs2 q6 hw2 ((ag2 0 (by omega)).trans ((ag1 0 (by omega)).trans e0)) ((ag2 49 (by omega)).trans ((ag1 49 (by omega)).trans e1))
        | 5, _ =>
          refine lv_tableIn (tgt := 241) (off := 208) hx hb dl_33 (by decide) (by decide) rfl (by decide) ?_
          obtain ⟨x1, ex1⟩ : ∃ x, xs (6 * i + 1) = x := ⟨_, rfl⟩
          obtain ⟨f, f2, r, hp1, hp2, r1, r2, ⟨q1, q2, ⟨fq, q3⟩⟩, ⟨q4, q5⟩, q6⟩ := hst1 (254, 443, 1) (List.mem_of_getElem? (i := 5) rfl) [x1] rfl
          refine lv_aload_n hx hb dl_241 rfl (lv_at hl 2 rfl) ?_
          refine lw_ld (j := 1) hx hb hX hbl hS hl (by omega) (by omega) (by decide) dl_242 dl_243 dl_244 dl_245 dl_246 ex1 ?_
          refine lw_va (as := [x1]) (rest := []) C hw e0 hl.1 10 rfl rfl (by decide) r1 g2 (Nat.le_refl _) (Nat.le_refl _) (by decide) dl_247 (fun ρ1 H1 locs1 ag1 hw1 => ?_)
          refine lv_aload_n hx hb dl_250 rfl (lv_at hl 3 rfl) ?_
          refine lw_ld (j := 1) hx hb hX hbl hw1.2.2.1 hl (by omega) (by omega) (by decide) dl_251 dl_252 dl_253 dl_254 dl_255 ex1 ?_
          refine lw_va (as := [x1]) (rest := [.int r]) C hw1 ((ag1 49 (by omega)).trans e1) hl.1 11 rfl rfl (by decide) r2 q3 (Nat.le_refl _) (Nat.le_refl _) (Nat.le_of_ble_eq_true rfl) dl_256 (fun ρ2 H2 locs2 ag2 hw2 => ?_)
          refine lv_icmp_eq (tgt := 402) hx hb dl_259 (by decide) (fun _ => ?_) (fun hc => absurd rfl hc)
          exact tail hp2 ρ2 H2 locs2 q6 hw2 ((ag2 0 (by omega)).trans ((ag1 0 (by omega)).trans e0)) ((ag2 49 (by omega)).trans ((ag1 49 (by omega)).trans e1))
        | 6, _ =>
          refine lv_tableIn (tgt := 264) (off := 231) hx hb dl_33 (by decide) (by decide) rfl (by decide) ?_
          obtain ⟨x1, ex1⟩ : ∃ x, xs (6 * i + 1) = x := ⟨_, rfl⟩
          obtain ⟨f, f2, r, hp1, hp2, r1, r2, ⟨q1, q2, ⟨fq, q3⟩⟩, ⟨q4, q5⟩, q6⟩ := hst1 (256, 444, 1) (List.mem_of_getElem? (i := 6) rfl) [x1] rfl
          refine lv_aload_n hx hb dl_264 rfl (lv_at hl 2 rfl) ?_
          refine lw_ld (j := 1) hx hb hX hbl hS hl (by omega) (by omega) (by decide) dl_265 dl_266 dl_267 dl_268 dl_269 ex1 ?_
          refine lw_va (as := [x1]) (rest := []) C hw e0 hl.1 12 rfl rfl (by decide) r1 g2 (Nat.le_refl _) (Nat.le_refl _) (by decide) dl_270 (fun ρ1 H1 locs1 ag1 hw1 => ?_)
          refine lv_aload_n hx hb dl_273 rfl (lv_at hl 3 rfl) ?_
          refine lw_ld (j := 1) hx hb hX hbl hw1.2.2.1 hl (by omega) (by omega) (by decide) dl_274 dl_275 dl_276 dl_277 dl_278 ex1 ?_
          refine lw_va (as := [x1]) (rest := [.int r]) C hw1 ((ag1 49 (by omega)).trans e1) hl.1 13 rfl rfl (by decide) r2 q3 (Nat.le_refl _) (Nat.le_refl _) (Nat.le_of_ble_eq_true rfl) dl_279 (fun ρ2 H2 locs2 ag2 hw2 => ?_)
          refine lv_icmp_eq (tgt := 402) hx hb dl_282 (by decide) (fun _ => ?_) (fun hc => absurd rfl hc)
          exact tail hp2 ρ2 H2 locs2 q6 hw2 ((ag2 0 (by omega)).trans ((ag1 0 (by omega)).trans e0)) ((ag2 49 (by omega)).trans ((ag1 49 (by omega)).trans e1))
        | 7, _ =>
          refine lv_tableIn (tgt := 287) (off := 254) hx hb dl_33 (by decide) (by decide) rfl (by decide) ?_
          obtain ⟨x1, ex1⟩ : ∃ x, xs (6 * i + 1) = x := ⟨_, rfl⟩
          obtain ⟨x2, ex2⟩ : ∃ x, xs (6 * i + 2) = x := ⟨_, rfl⟩
          obtain ⟨f, f2, r, hp1, hp2, r1, r2, ⟨q1, q2, ⟨fq, q3⟩⟩, ⟨q4, q5⟩, q6⟩ := hst1 (257, 445, 2) (List.mem_of_getElem? (i := 7) rfl) [x1, x2] rfl
          refine lv_aload_n hx hb dl_287 rfl (lv_at hl 2 rfl) ?_
          refine lw_ld (j := 1) hx hb hX hbl hS hl (by omega) (by omega) (by decide) dl_288 dl_289 dl_290 dl_291 dl_292 ex1 ?_
          refine lw_ld (j := 2) hx hb hX hbl hS hl (by omega) (by omega) (by decide) dl_293 dl_294 dl_295 dl_296 dl_297 ex2 ?_
          refine lw_va (as := [x1, x2]) (rest := []) C hw e0 hl.1 14 rfl rfl (by decide) r1 g2 (Nat.le_refl _) (Nat.le_refl _) (by decide) dl_298 (fun ρ1 H1 locs1 ag1 hw1 => ?_)
          refine lv_aload_n hx hb dl_301 rfl (lv_at hl 3 rfl) ?_
          refine lw_ld (j := 1) hx hb hX hbl hw1.2.2.1 hl (by omega) (by omega) (by decide) dl_302 dl_303 dl_304 dl_305 dl_306 ex1 ?_
          refine lw_ld (j := 2) hx hb hX hbl hw1.2.2.1 hl (by omega) (by omega) (by decide) dl_307 dl_308 dl_309 dl_310 dl_311 ex2 ?_
          refine lw_va (as := [x1, x2]) (rest := [.int r]) C hw1 ((ag1 49 (by omega)).trans e1) hl.1 15 rfl rfl (by decide) r2 q3 (Nat.le_refl _) (Nat.le_refl _) (Nat.le_of_ble_eq_true rfl) dl_312 (fun ρ2 H2 locs2 ag2 hw2 => ?_)
          refine lv_icmp_eq (tgt := 402) hx hb dl_315 (by decide) (fun _ => ?_) (fun hc => absurd rfl hc)
          exact tail hp2 ρ2 H2 locs2 q6 hw2 ((ag2 0 (by omega)).trans ((ag1 0 (by omega)).trans e0)) ((ag2 49 (by omega)).trans ((ag1 49 (by omega)).trans e1))
        | 8, _ =>
          refine lv_tableIn (tgt := 320) (off := 287) hx hb dl_33 (by decide) (by decide) rfl (by decide) ?_
          obtain ⟨f, f2, r, hp1, hp2, r1, r2, ⟨q1, q2, ⟨fq, q3⟩⟩, ⟨q4, q5⟩, q6⟩ := hst1 (300, 461, 0) (List.mem_of_getElem? (i := 8) rfl) [] rfl
          refine lv_aload_n hx hb dl_320 rfl (lv_at hl 2 rfl) ?_
          refine lw_va (as := []) (rest := []) C hw e0 hl.1 16 rfl rfl (by decide) r1 g2 (Nat.le_refl _) (Nat.le_refl _) (by decide) dl_321 (fun ρ1 H1 locs1 ag1 hw1 => ?_)
          refine lv_aload_n hx hb dl_324 rfl (lv_at hl 3 rfl) ?_
          refine lw_va (as := []) (rest := [.int r]) C hw1 ((ag1 49 (by omega)).trans e1) hl.1 17 rfl rfl (by decide) r2 q3 (Nat.le_refl _) (Nat.le_refl _) (Nat.le_of_ble_eq_true rfl) dl_325 (fun ρ2 H2 locs2 ag2 hw2 => ?_)
          refine lv_icmp_eq (tgt := 402) hx hb dl_328 (by decide) (fun _ => ?_) (fun hc => absurd rfl hc)
          exact tail hp2 ρ2 H2 locs2 q6 hw2 ((ag2 0 (by omega)).trans ((ag1 0 (by omega)).trans e0)) ((ag2 49 (by omega)).trans ((ag1 49 (by omega)).trans e1))
        | 9, _ =>
          refine lv_tableIn (tgt := 333) (off := 300) hx hb dl_33 (by decide) (by decide) rfl (by decide) ?_
          obtain ⟨x1, ex1⟩ : ∃ x, xs (6 * i + 1) = x := ⟨_, rfl⟩
          obtain ⟨f, f2, r, hp1, hp2, r1, r2, ⟨q1, q2, ⟨fq, q3⟩⟩, ⟨q4, q5⟩, q6⟩ := hst1 (302, 462, 1) (List.mem_of_getElem? (i := 9) rfl) [x1] rfl
          refine lv_aload_n hx hb dl_333 rfl (lv_at hl 2 rfl) ?_
          refine lw_ld (j := 1) hx hb hX hbl hS hl (by omega) (by omega) (by decide) dl_334 dl_335 dl_336 dl_337 dl_338 ex1 ?_
          refine lw_va (as := [x1]) (rest := []) C hw e0 hl.1 18 rfl rfl (by decide) r1 g2 (Nat.le_refl _) (Nat.le_refl _) (by decide) dl_339 (fun ρ1 H1 locs1 ag1 hw1 => ?_)
          refine lv_aload_n hx hb dl_342 rfl (lv_at hl 3 rfl) ?_
          refine lw_ld (j := 1) hx hb hX hbl hw1.2.2.1 hl (by omega) (by omega) (by decide) dl_343 dl_344 dl_345 dl_346 dl_347 ex1 ?_
          refine lw_va (as := [x1]) (rest := [.int r]) C hw1 ((ag1 49 (by omega)).trans e1) hl.1 19 rfl rfl (by decide) r2 q3 (Nat.le_refl _) (Nat.le_refl _) (Nat.le_of_ble_eq_true rfl) dl_348 (fun ρ2 H2 locs2 ag2 hw2 => ?_)
          refine lv_icmp_eq (tgt := 402) hx hb dl_351 (by decide) (fun _ => ?_) (fun hc => absurd rfl hc)
          exact tail hp2 ρ2 H2 locs2 q6 hw2 ((ag2 0 (by omega)).trans ((ag1 0 (by omega)).trans e0)) ((ag2 49 (by omega)).trans ((ag1 49 (by omega)).trans e1))
        | 10, _ =>
          refine lv_tableIn (tgt := 356) (off := 323) hx hb dl_33 (by decide) (by decide) rfl (by decide) ?_
          obtain ⟨x1, ex1⟩ : ∃ x, xs (6 * i + 1) = x := ⟨_, rfl⟩
          obtain ⟨f, f2, r, hp1, hp2, r1, r2, ⟨q1, q2, ⟨fq, q3⟩⟩, ⟨q4, q5⟩, q6⟩ := hst1 (312, 463, 1) (List.mem_of_getElem? (i := 10) rfl) [x1] rfl
          refine lv_aload_n hx hb dl_356 rfl (lv_at hl 2 rfl) ?_
          refine lw_ld (j := 1) hx hb hX hbl hS hl (by omega) (by omega) (by decide) dl_357 dl_358 dl_359 dl_360 dl_361 ex1 ?_
          refine lw_va (as := [x1]) (rest := []) C hw e0 hl.1 20 rfl rfl (by decide) r1 g2 (Nat.le_refl _) (Nat.le_refl _) (by decide) dl_362 (fun ρ1 H1 locs1 ag1 hw1 => ?_)
          refine lv_aload_n hx hb dl_365 rfl (lv_at hl 3 rfl) ?_
          refine lw_ld (j := 1) hx hb hX hbl hw1.2.2.1 hl (by omega) (by omega) (by decide) dl_366 dl_367 dl_368 dl_369 dl_370 ex1 ?_
          refine lw_va (as := [x1]) (rest := [.int r]) C hw1 ((ag1 49 (by omega)).trans e1) hl.1 21 rfl rfl (by decide) r2 q3 (Nat.le_refl _) (Nat.le_refl _) (Nat.le_of_ble_eq_true rfl) dl_371 (fun ρ2 H2 locs2 ag2 hw2 => ?_)
          refine lv_icmp_eq (tgt := 402) hx hb dl_374 (by decide) (fun _ => ?_) (fun hc => absurd rfl hc)
          exact tail hp2 ρ2 H2 locs2 q6 hw2 ((ag2 0 (by omega)).trans ((ag1 0 (by omega)).trans e0)) ((ag2 49 (by omega)).trans ((ag1 49 (by omega)).trans e1))
        | 11, _ =>
          refine lv_tableIn (tgt := 379) (off := 346) hx hb dl_33 (by decide) (by decide) rfl (by decide) ?_
          obtain ⟨x1, ex1⟩ : ∃ x, xs (6 * i + 1) = x := ⟨_, rfl⟩
          obtain ⟨f, f2, r, hp1, hp2, r1, r2, ⟨q1, q2, ⟨fq, q3⟩⟩, ⟨q4, q5⟩, q6⟩ := hst1 (313, 464, 1) (List.mem_of_getElem? (i := 11) rfl) [x1] rfl
          refine lv_aload_n hx hb dl_379 rfl (lv_at hl 2 rfl) ?_
          refine lw_ld (j := 1) hx hb hX hbl hS hl (by omega) (by omega) (by decide) dl_380 dl_381 dl_382 dl_383 dl_384 ex1 ?_
          refine lw_va (as := [x1]) (rest := []) C hw e0 hl.1 22 rfl rfl (by decide) r1 g2 (Nat.le_refl _) (Nat.le_refl _) (by decide) dl_385 (fun ρ1 H1 locs1 ag1 hw1 => ?_)
          refine lv_aload_n hx hb dl_388 rfl (lv_at hl 3 rfl) ?_
          refine lw_ld (j := 1) hx hb hX hbl hw1.2.2.1 hl (by omega) (by omega) (by decide) dl_389 dl_390 dl_391 dl_392 dl_393 ex1 ?_
          refine lw_va (as := [x1]) (rest := [.int r]) C hw1 ((ag1 49 (by omega)).trans e1) hl.1 23 rfl rfl (by decide) r2 q3 (Nat.le_refl _) (Nat.le_refl _) (Nat.le_of_ble_eq_true rfl) dl_394 (fun ρ2 H2 locs2 ag2 hw2 => ?_)
          refine lv_icmp_eq (tgt := 402) hx hb dl_397 (by decide) (fun _ => ?_) (fun hc => absurd rfl hc)
          exact tail hp2 ρ2 H2 locs2 q6 hw2 ((ag2 0 (by omega)).trans ((ag1 0 (by omega)).trans e0)) ((ag2 49 (by omega)).trans ((ag1 49 (by omega)).trans e1))
        | 12, _ =>
          refine lv_tableOut (tgt := 402) hx hb dl_33 (by decide) (by decide) ?_
          exact tail hp ρ H locs (hsk i hp hI) hw e0 e1
        | 13, _ =>
          refine lv_tableOut (tgt := 402) hx hb dl_33 (by decide) (by decide) ?_
          exact tail hp ρ H locs (hsk i hp hI) hw e0 e1
        | 14, _ =>
          refine lv_tableOut (tgt := 402) hx hb dl_33 (by decide) (by decide) ?_
          exact tail hp ρ H locs (hsk i hp hI) hw e0 e1
        | 15, _ =>
          refine lv_tableOut (tgt := 402) hx hb dl_33 (by decide) (by decide) ?_
          exact tail hp ρ H locs (hsk i hp hI) hw e0 e1
        | k + 16, hk => exact absurd hk (by omega)
    · refine lv_icmp_gt (tgt := 408) hx hb dl_24 (by decide) (fun _ => ?_) (fun hc => absurd ?_ hc)
      · refine lv_iconst (v := 1) hx hb dl_408 (by decide) ?_
        refine va_forget (fun q hq => hS.2.2 q hq) ?_
        exact lw_ret hx hb hr hlocks dl_409
      · show nI L - nI 6 < nI (6 * i)
        rw [Int32.lt_iff_toInt_lt, pk_sub_toInt (by omega) (by omega), nI_toInt (by omega)]
        omega
end LP
end
section
def nfl : List Cond := flatC (Jvm.Cond.and given_1 narrow_1)
def nis (i : Nat) (w : Cond) : Bool := match nfl[i]? with
  | some v => decide (v = w)
  | none => false
theorem nis_mem {i : Nat} {w : Cond} (h : nis i w = true) : w ∈ nfl := by
  unfold nis at h
  split at h
  · rename_i v hv
    rw [← of_decide_eq_true h]
    exact List.mem_of_getElem? hv
  · cases h
def nSt : List (String × Nat × Nat × Nat × Nat × Nat × Nat × List Nat) := [("TypedDescent$Text", 23, 9, 10, 11, 12, 37, [13, 14, 15, 16, 17, 18, 19, 20, 21, 22, 23, 24, 25, 26, 27, 28, 29, 30, 31, 32, 33, 34, 35, 36, 37, 38, 39, 40, 41, 42, 43]), ("TypedDescent$Text", 32, 44, 45, 46, 47, 93, [48, 49, 50, 51, 52, 53, 54, 55, 56, 57, 58, 59, 60, 61, 62, 63, 64, 65, 66, 67, 68, 69, 70, 71, 72, 73, 74, 75, 76, 77, 78, 79, 80, 81, 82, 83, 84, 85, 86, 87, 88, 89, 90, 91, 92, 93, 94, 95, 96, 97, 98, 99, 100, 101, 102, 103, 104, 105, 106, 107, 108, 109, 110, 111, 112, 113, 114, 115, 116, 117, 118]), ("TypedDescent$Text", 37, 120, 121, 122, 123, 94, [124, 125, 126, 127, 128, 129, 130, 131, 132, 133, 134, 135, 136, 137, 138, 139, 140, 141, 142, 143, 144, 145, 146, 147, 148, 149, 150, 151, 152, 153, 154, 155, 156, 157, 158, 159, 160, 161, 162, 163, 164, 165, 166, 167, 168, 169, 170, 171, 172, 173, 174]), ("TypedDescent$Text", 123, 177, 178, 179, 180, 2101, [181, 182, 183, 184, 185, 186, 187, 188, 189, 190, 191, 192, 193, 194, 195, 196, 197, 198]), ("TypedDescent$Kinds", 140, 202, 203, 204, 205, 4154, [206, 207, 208]), ("TypedDescent$Kinds", 162, 213, 214, 215, 216, 4179, []), ("TypedDescent$Kinds", 164, 222, 223, 224, 225, 4180, [226]), ("TypedDescent$Kinds", 166, 233, 234, 235, 236, 4181, [237]), ("TypedDescent$Kinds", 153, 245, 246, 247, 248, 4182, [249, 250]), ("TypedDescent$Kinds", 155, 259, 260, 261, 262, 4183, [263, 264, 265, 266]), ("TypedDescent$Kinds", 157, 276, 277, 278, 279, 4184, [280]), ("TypedDescent$Kinds", 168, 291, 292, 293, 294, 4189, [295]), ("TypedDescent$Kinds", 170, 307, 308, 309, 310, 4190, [311]), ("TypedDescent$Kinds", 172, 324, 325, 326, 327, 4191, [328])]
def nTx : List String := ["int all fun fix typ let in if0 ", "int code some pack as mov add sub mul ld st malloc bnz unpack jmp halt ", "r1 r2 r3 r4 r5 r6 r7 r8 r9 r10 r11 r12 r13 r14 r15 ", ".:,;()[]{}<>#+-*=?", "int", "", "(", ")", "->", "all ", ".", "<", ",", ">"]
def nNe : List (List (Nat × Bool)) := [[(0, true), (119, true), (175, true), (199, true), (209, true), (217, true), (227, true), (238, true), (251, true), (267, true), (281, true), (296, true), (312, true), (329, true)], [(119, false), (0, true), (176, true), (200, true), (210, true), (218, true), (228, true), (239, true), (252, true), (268, true), (282, true), (297, true), (313, true), (330, true)], [(175, false), (176, false), (0, true), (201, true), (211, true), (219, true), (229, true), (240, true), (253, true), (269, true), (283, true), (298, true), (314, true), (331, true)], [(199, false), (200, false), (201, false), (0, true), (212, true), (220, true), (230, true), (241, true), (254, true), (270, true), (284, true), (299, true), (315, true), (332, true)], [(209, false), (210, false), (211, false), (212, false), (0, true), (221, true), (231, true), (242, true), (255, true), (271, true), (285, true), (300, true), (316, true), (333, true)], [(217, false), (218, false), (219, false), (220, false), (221, false), (0, true), (232, true), (243, true), (256, true), (272, true), (286, true), (301, true), (317, true), (334, true)], [(227, false), (228, false), (229, false), (230, false), (231, false), (232, false), (0, true), (244, true), (257, true), (273, true), (287, true), (302, true), (318, true), (335, true)], [(238, false), (239, false), (240, false), (241, false), (242, false), (243, false), (244, false), (0, true), (258, true), (274, true), (288, true), (303, true), (319, true), (336, true)], [(251, false), (252, false), (253, false), (254, false), (255, false), (256, false), (257, false), (258, false), (0, true), (275, true), (289, true), (304, true), (320, true), (337, true)], [(267, false), (268, false), (269, false), (270, false), (271, false), (272, false), (273, false), (274, false), (275, false), (0, true), (290, true), (305, true), (321, true), (338, true)], [(281, false), (282, false), (283, false), (284, false), (285, false), (286, false), (287, false), (288, false), (289, false), (290, false), (0, true), (306, true), (322, true), (339, true)], [(296, false), (297, false), (298, false), (299, false), (300, false), (301, false), (302, false), (303, false), (304, false), (305, false), (306, false), (0, true), (323, true), (340, true)], [(312, false), (313, false), (314, false), (315, false), (316, false), (317, false), (318, false), (319, false), (320, false), (321, false), (322, false), (323, false), (0, true), (341, true)], [(329, false), (330, false), (331, false), (332, false), (333, false), (334, false), (335, false), (336, false), (337, false), (338, false), (339, false), (340, false), (341, false), (0, true)]]
def nQ (i : Nat) : String × Nat × Nat × Nat × Nat × Nat × Nat × List Nat := nSt.getD i ("", 0, 0, 0, 0, 0, 0, [])
def nTm (i : Nat) : Term := .string (nQ i).1 (nQ i).2.1
def nVal (i : Nat) : Term := .field (nTm i) "java/lang/String" "value" "[B"
def nCk (i : Nat) : Bool := nis (nQ i).2.2.1 (.exactly (nTm i) "java/lang/String") && nis (nQ i).2.2.2.1 (.eq (.field (nTm i) "java/lang/String" "coder" "B") (.int 0)) && nis (nQ i).2.2.2.2.1 (.arrayOf (nVal i) .byte) && nis (nQ i).2.2.2.2.2.1 (.eq (.length (nVal i)) (.int (Int32.ofNat (xlen.getD i 0)))) && decide (xlen.getD i 0 < 1000)
def nCe (i : Nat) : Bool := (List.range (xlen.getD i 0)).all fun j => nis ((nQ i).2.2.2.2.2.2.2.getD j 0) (.eq (.elem (nVal i) (.int (Int32.ofNat j))) (.int ((xbyt.getD i []).getD j 0)))
def nCn (i : Nat) : Bool := (List.range 14).all fun j => Nat.beq i j || (match (nNe.getD i []).getD j (0, true) with
  | (a, true) => nis a (.not (.eq (nTm i) (nTm j)))
  | (a, false) => nis a (.not (.eq (nTm j) (nTm i))))
def nCs (i : Nat) : Bool := match xg (nQ i).2.2.2.2.2.2.1 with
  | some v => decide (v = .stringRef (nQ i).1 (nQ i).2.1 (nTx.getD i ""))
  | none => false
theorem nCk_ok : (List.range 14).all nCk = true := by decide +kernel
theorem nCe_ok : (List.range 14).all nCe = true := by decide +kernel
theorem nCn_ok : (List.range 14).all nCn = true := by decide +kernel
theorem nCs_ok : (List.range 14).all nCs = true := by decide +kernel
def nCl (o : Nat) (e : Nat × Nat × Nat) : Bool := decide (e.2.1 < 14) && decide (xnmF o = (nQ e.2.1).1) && decide (e.1 = (nQ e.2.1).2.1)
theorem nCl_ok : (ySi.zipIdx.all fun q => q.1.all (nCl q.2)) = true := by decide +kernel
def nis2 (i : Nat) (w : Cond) : Bool := match xg i with
  | some v => decide (v = w)
  | none => false
theorem nis2_mem {i : Nat} {w : Cond} (h : nis2 i w = true) : w ∈ lw_tbl := by
  unfold nis2 at h
  split at h
  · rename_i v hv
    rw [← of_decide_eq_true h]
    exact xsg_mem _ _ (List.mem_of_getElem? hv)
  · cases h
def nSv : List (String × String × String × Int32 × Nat × Nat × Nat) := [("java/lang/String", "COMPACT_STRINGS", "Z", 1, 4, 50, 3), ("java/lang/StringUTF16", "$assertionsDisabled", "Z", 1, 6, 84, 6), ("java/lang/StringUTF16", "HI_BYTE_SHIFT", "I", 0, 7, 86, 6), ("java/lang/StringUTF16", "LO_BYTE_SHIFT", "I", 8, 8, 88, 6)]
def nSk (e : String × String × String × Int32 × Nat × Nat × Nat) : Bool := nis e.2.2.2.2.1 (.eq (.static e.1 e.2.1 e.2.2.1) (.int e.2.2.2.1)) && nis2 e.2.2.2.2.2.1 (.laysStatic e.1 e.2.1 e.2.2.1) && nis2 e.2.2.2.2.2.2 (.initialized e.1)
theorem nSk_ok : nSv.all nSk = true := by decide +kernel
theorem nFm_ok : (nis 5 (.isRef (.static "jdk/internal/util/Preconditions" "SIOOBE_FORMATTER" "Ljava/util/function/BiFunction;")) && nis2 66 (.laysStatic "jdk/internal/util/Preconditions" "SIOOBE_FORMATTER" "Ljava/util/function/BiFunction;") && nis2 5 (.initialized "jdk/internal/util/Preconditions")) = true := by decide +kernel
/-- every static of the tables: one of nSv, or the formatter -/
def nGk (e : Nat × (Value × String × String × String) × Nat) : Bool := (nSv.any fun q => decide (e.2.1 = (.int q.2.2.2.1, q.1, q.2.1, q.2.2.1))) || decide (e.2.1.2 = ("jdk/internal/util/Preconditions", "SIOOBE_FORMATTER", "Ljava/util/function/BiFunction;"))
theorem nG0_ok : ((yGi .null).all fun q => q.all nGk) = true := by decide +kernel
theorem nGf (fm : Value) : ∀ l ∈ yGi fm, ∀ e ∈ l, (∃ q ∈ nSv, e.2.1 = (.int q.2.2.2.1, q.1, q.2.1, q.2.2.1)) ∨ e.2.1 = (fm, "jdk/internal/util/Preconditions", "SIOOBE_FORMATTER", "Ljava/util/function/BiFunction;") := by
  intro l hl e he
  simp only [yGi, List.mem_cons, List.not_mem_nil, or_false] at hl
  rcases hl with rfl | rfl | rfl | rfl | rfl | rfl | rfl | rfl | rfl | rfl | rfl | rfl | rfl | rfl | rfl | rfl | rfl | rfl | rfl | rfl | rfl <;> simp only [List.mem_cons, List.not_mem_nil, or_false] at he
  · rcases he with rfl | rfl
    · exact Or.inl ⟨_, List.mem_of_getElem? (i := 0) rfl, rfl⟩
    · exact Or.inr rfl
  · rcases he with rfl | rfl | rfl
    · exact Or.inl ⟨_, List.mem_of_getElem? (i := 1) rfl, rfl⟩
    · exact Or.inl ⟨_, List.mem_of_getElem? (i := 2) rfl, rfl⟩
    · exact Or.inl ⟨_, List.mem_of_getElem? (i := 3) rfl, rfl⟩
theorem nNw_ok : (xNw.zip [33, 155, 196, 212, 1115]).all (fun q => nis2 q.2 (.methodLinkNest q.1.1 q.1.2.1 q.1.2.2.1 q.1.2.2.2)) = true := by decide +kernel
theorem nIn_ok : (xcl.zip [24, 32, 154, 195, 211, 1020, 1030, 1055, 1098, 1114, 1157, 1188, 7088]).all (fun q => nis2 q.2 (.instantiable q.1.1 q.1.2.2)) = true := by decide +kernel
end
section
theorem zip_all {α : Type} {l : List α} {r : List Nat} {P : α × Nat → Bool} (h : (l.zip r).all P = true) (hlen : l.length = r.length) {q : α} (hq : q ∈ l) : ∃ k, P (q, k) = true := by
  obtain ⟨i, hi⟩ := List.mem_iff_getElem?.mp hq
  have hlt : i < r.length := by rw [← hlen]; exact (List.getElem?_eq_some_iff.mp hi).1
  refine ⟨r[i], List.all_eq_true.mp h _ (List.mem_iff_getElem?.mpr ⟨i, ?_⟩)⟩
  rw [List.getElem?_zip_eq_some]
  exact ⟨hi, List.getElem?_eq_getElem hlt⟩
theorem xlo_mem {α : Type} {L : List (List (Nat × α))} {o idx : Nat} {v : α} (h : xlo L o idx = some v) : ∃ l ∈ L, (idx, v) ∈ l := by
  unfold xlo at h
  split at h
  · cases h
  · rename_i l hl
    exact ⟨l, List.mem_of_getElem? hl, xlk_mem h⟩
theorem vk_S_congr {N : Nat} {len : List Nat} {byt : List (List Int32)} {adK adV bdK bdV : Nat → Nat} {A : Nat → Prop} {U : State} {H : Heap} (hk : ∀ i, i < N → bdK i = adK i) (hv : ∀ i, i < N → bdV i = adV i) (h : vk_S N len byt adK adV A U H) : vk_S N len byt bdK bdV A U H := by
  refine ⟨fun i hi => ?_, fun i j hi hj e => h.2 i j hi hj ?_⟩
  · rw [hk i hi, hv i hi]
    exact h.1 i hi
  · rw [← hk i hi, ← hk j hj]
    exact e
theorem law_env {s : State} {args : Array Value} (hts : ∀ w ∈ lw_tbl, w.before args s = true) (hgv : (Jvm.Cond.and given_1 narrow_1).before args s = true) : ∃ (b : Bool) (ρ0 : Nat → Nat), xEnv xZ (xY (xfm b)) ρ0 (fun q => s.heap.size ≤ q) s s.heap := by
  have hs : ∀ c ∈ nfl, c.before args s = true := flat_of_before _ hgv
  have hA : ∀ a : Nat, a < s.heap.size → ¬ (fun q : Nat => s.heap.size ≤ q) a := fun a h => Nat.not_le.mpr h
  have ck : ∀ i, i < 14 → (nis (nQ i).2.2.1 (.exactly (nTm i) "java/lang/String") = true ∧ nis (nQ i).2.2.2.1 (.eq (.field (nTm i) "java/lang/String" "coder" "B") (.int 0)) = true ∧ nis (nQ i).2.2.2.2.1 (.arrayOf (nVal i) .byte) = true ∧ nis (nQ i).2.2.2.2.2.1 (.eq (.length (nVal i)) (.int (Int32.ofNat (xlen.getD i 0)))) = true ∧ xlen.getD i 0 < 1000) := by
    intro i hi
    have h := List.all_eq_true.mp nCk_ok i (List.mem_range.mpr hi)
    simp only [nCk, Bool.and_eq_true, decide_eq_true_eq] at h
    exact ⟨h.1.1.1.1, h.1.1.1.2, h.1.1.2, h.1.2, h.2⟩
  obtain ⟨adK, adV, hE, hT⟩ := vk_Sof (args := args) (s := s) (N := 14) (tm := nTm) (len := xlen) (byt := xbyt) (A := fun q => s.heap.size ≤ q) (fun i hi => by have := (ck i hi).2.2.2.2; omega) (fun i hi => hs _ (nis_mem (ck i hi).1)) (fun i hi => hs _ (nis_mem (ck i hi).2.1)) (fun i hi => hs _ (nis_mem (ck i hi).2.2.1)) (fun i hi => hs _ (nis_mem (ck i hi).2.2.2.1)) (fun i hi j hj => by
      have h := List.all_eq_true.mp nCe_ok i (List.mem_range.mpr hi)
      exact hs _ (nis_mem (List.all_eq_true.mp h j (List.mem_range.mpr hj)))) (fun i j hi hj hij => by
      have h := List.all_eq_true.mp nCn_ok i (List.mem_range.mpr hi)
      have h2 := List.all_eq_true.mp h j (List.mem_range.mpr hj)
      rw [Bool.or_eq_true] at h2
      rcases h2 with h2 | h2
      · exact absurd (Nat.eq_of_beq_eq_true h2) hij
      · split at h2
        · exact Or.inl (hs _ (nis_mem h2))
        · exact Or.inr (hs _ (nis_mem h2))) hA
  have hF := nFm_ok
  simp only [Bool.and_eq_true] at hF
  obtain ⟨v, hv, hvr⟩ := Cond.isRef_spec (hs _ (nis_mem hF.1.1))
  have hZf := va_Zof (A := fun q => s.heap.size ≤ q) (hts _ (nis2_mem hF.1.2)) (hts _ (nis2_mem hF.2)) hv hA
  have fin : ∀ (b : Bool) (ρ0 : Nat → Nat), (∀ i, i < 14 → ρ0 (1000000 + 2 * i) = adK i) → (∀ i, i < 14 → ρ0 (1000001 + 2 * i) = adV i) → xv ρ0 (xfm b) = v → xEnv xZ (xY (xfm b)) ρ0 (fun q => s.heap.size ≤ q) s s.heap := by
    intro b ρ0 h1 h2 h3
    refine ⟨vk_S_congr h1 h2 hE, ?_, ?_, ?_⟩
    · intro o idx i h
      obtain ⟨⟨k, ix⟩, hq, he⟩ := Option.map_eq_some_iff.mp h
      have he : k = i := he
      subst he
      have h4 := xlo_all hq nCl_ok
      simp only [nCl, Bool.and_eq_true, decide_eq_true_eq] at h4
      obtain ⟨⟨h5, h6⟩, h7⟩ := h4
      have h8 := List.all_eq_true.mp nCs_ok k (List.mem_range.mpr h5)
      refine ⟨nTx.getD k "", ?_⟩
      show vk_R (xnmF o) idx (nTx.getD k "") (ρ0 (1000000 + 2 * k)) s
      rw [h6, h7, h1 k h5]
      refine vk_R.of (A := args) ?_ (hT k h5)
      unfold nCs at h8
      split at h8
      · rename_i w hw
        rw [← of_decide_eq_true h8]
        exact hts _ (xsg_mem _ _ (List.mem_of_getElem? hw))
      · cases h8
    · intro o idx g h
      obtain ⟨⟨g1, ix⟩, hq, he⟩ := Option.map_eq_some_iff.mp h
      cases he
      obtain ⟨l, hl, hm⟩ := xlo_mem hq
      rcases nGf (xfm b) l hl _ hm with ⟨q, hq2, e⟩ | e
      · dsimp only at e
        subst e
        have h4 := List.all_eq_true.mp nSk_ok q hq2
        simp only [nSk, Bool.and_eq_true] at h4
        exact va_Zof (hts _ (nis2_mem h4.1.2)) (hts _ (nis2_mem h4.2)) (va_eqi (hs _ (nis_mem h4.1.1))) hA
      · dsimp only at e
        subst e
        show va_Z _ _ _ (xv ρ0 (xfm b)) _ s s.heap
        rw [h3]
        exact hZf
    · intro q hq
      have hq' : q ∈ xNw := hq
      obtain ⟨k, hk⟩ := zip_all nNw_ok rfl hq'
      exact va_Nw.of rfl (hts _ (nis2_mem hk))
  cases v with
  | null => exact ⟨false, fun i => if i % 2 = 0 then adK ((i - 1000000) / 2) else adV ((i - 1000001) / 2), fin _ _ (fun i hi => by
      rw [if_pos (by omega)]
      congr 1
      omega) (fun i hi => by
      rw [if_neg (by omega)]
      congr 1
      omega) rfl⟩
  | ref a => exact ⟨true, fun i => if i = 2000000 then a else if i % 2 = 0 then adK ((i - 1000000) / 2) else adV ((i - 1000001) / 2), fin _ _ (fun i hi => by
      rw [if_neg (by omega), if_pos (by omega)]
      congr 1
      omega) (fun i hi => by
      rw [if_neg (by omega), if_neg (by omega)]
      congr 1
      omega) rfl⟩
  | _ => cases hvr
theorem law_K {s : State} {args : Array Value} (hts : ∀ w ∈ lw_tbl, w.before args s = true) : ∃ (D : va_G) (cA : Nat → ClassId), va_K D xcl (x_tys cA) s := by
  have hZ := xZ_ok (fm := .null) (Or.inl rfl)
  have h1 : ∀ ci : Nat, ∃ z : ClassId × (Nat → Nat), ∀ q : vw_C, xcl[ci]? = some q → u_Kn s q.1 q.2.1 q.2.2 z.1 z.2 := by
    intro ci
    cases hq : xcl[ci]? with
    | none => exact ⟨(0, fun _ => 0), fun q h => by cases h⟩
    | some q =>
      obtain ⟨k, hk⟩ := zip_all nIn_ok rfl (List.mem_of_getElem? hq)
      obtain ⟨cc, iS, h⟩ := u_known (C := q.1) (T := q.2.1) (N := q.2.2) (n := q.2.2) hts (fun w hw => xTs_sub ((hZ.1 ci q hq).1 w hw)) (hts _ (nis2_mem hk))
      exact ⟨(cc, iS), fun q2 h2 => by cases h2; exact h⟩
  obtain ⟨z, hz⟩ := Classical.axiomOfChoice h1
  have h2 : ∀ ty : FieldType, Cond.arrayClass ty ∈ lw_tbl → (∀ C, ty ≠ .object C) → ∃ cB : ClassId, ArrOfT s cB ty ∧ va_RA s cB ty := by
    intro ty hty hno
    obtain ⟨cB, kB, comp, e1, e2, e3⟩ := Cond.arrayClass_spec (hts _ hty)
    refine ⟨cB, fun n z => ⟨fun k h => (by cases h), kB, e2, comp, e3⟩, ?_⟩
    cases ty with
    | object C => exact absurd rfl (hno C)
    | _ => exact e1
  have hArr := hZ.2.2.2.2.2.2.2.2.2.2.1
  obtain ⟨c0, k0⟩ := h2 .int (xTs_sub hArr.1) (fun C h => by cases h)
  obtain ⟨c1, k1⟩ := h2 .long (xTs_sub hArr.2.1) (fun C h => by cases h)
  obtain ⟨c2, k2⟩ := h2 .byte (xTs_sub hArr.2.2.1) (fun C h => by cases h)
  obtain ⟨c3, k3⟩ := h2 .char (xTs_sub hArr.2.2.2.1) (fun C h => by cases h)
  obtain ⟨c4, k4⟩ := h2 .boolean (xTs_sub hArr.2.2.2.2) (fun C h => by cases h)
  refine ⟨(fun i => (z i).1, fun i => (z i).2), fun t => if t = 0 then c0 else if t = 1 then c1 else if t = 2 then c2 else if t = 3 then c3 else c4, fun ci q hq => hz ci q hq, fun k q hq => ?_⟩
  match k, hq with
  | 0, hq => cases hq; exact k0
  | 1, hq => cases hq; exact k1
  | 2, hq => cases hq; exact k2
  | 3, hq => cases hq; exact k3
  | 4, hq => cases hq; exact k4
  | k + 5, hq => simp [x_tys] at hq
end
section
def iCk (j idx i1 i2 mc ms : Nat) : Bool := match xMf j with
  | none => false
  | some M => xis i1 (.methodLink R_law idx (xy M)) && xis i2 (.instanceMethod (xy M)) && decide ((xy M).name = "<init>") && decide (xr M = none) && decide (xa M = 0) && decide (xmc M = mc) && decide (xms M = ms) && decide (1 ≤ xn M)
theorem iCk_x : iCk 0 9 25 26 48 313278 = true := by decide +kernel
theorem iCl_x : (nis2 23 (.classLink R_law 7 "TypedDescent") && nis2 24 (.instantiable "TypedDescent" 16) && nis2 1 (.initialized "TypedDescent")) = true := by decide +kernel
theorem iCk_m : iCk 314 12 7089 7090 72 2757098 = true := by decide +kernel
theorem iCl_m : (nis2 7087 (.classLink R_law 10 "TypedDescentModel") && nis2 7088 (.instantiable "TypedDescentModel" 144) && nis2 17 (.initialized "TypedDescentModel")) = true := by decide +kernel
theorem hal_0 : (xh1 false).all (xokE 49) = true := by decide +kernel
theorem hal_1 : (xh1 true).all (xokE 49) = true := by decide +kernel
theorem len_h1 (b : Bool) : (xh1 b).length = 49 := by cases b <;> rfl
theorem len_h2 (b : Bool) : (xh2 b).length = 122 := by cases b <;> rfl
section LI
variable {p : Program} {l : Launch} {e : Env} {s : State} {m : MethodId} {args : Array Value} {below : List Frame} {meth : Method} {c : Code} {H : Heap} {locs : List Loc} {cells slots : Nat} {Q : State → Prop}
/-- an object that the law makes -/
theorem lw_new {D : va_G} {cA : Nat → ClassId} {b : Bool} {ρ0 ρ : Nat → Nat} {hp : List x_E} (C : lwC p s m c args D cA b ρ0) (hw : lwW s D cA ρ0 ρ hp H locs) (hal : hp.all (xokE hp.length) = true) (hlt : hp.length < 1000000) {ls : Array Slot} {pc ci idx : Nat} {q : vw_C} {rest : List Value} (hq : xcl[ci]? = some q) (h1 : Cond.classLink R_law idx q.1 ∈ lw_tbl) (h2 : Cond.instantiable q.1 q.2.2 ∈ lw_tbl) (h3 : Cond.initialized q.1 ∈ lw_tbl) (hcells : cells + 1 ≤ 600000) (hslots : slots + q.2.2 ≤ 7302249) (hdg : decode code pc = .ok (.new idx, 3))
    (kk : ∀ (a : Nat) (H1 : Heap), lwW s D cA ρ0 (fun j => if j = hp.length then a else ρ j) (hp ++ [xdf ci]) H1 locs → W p l e room_1 s m args below meth c H1 locs (cells + 1) (slots + q.2.2) Q (F0 m (pc + 3) ls (.ref a :: rest))) : W p l e room_1 s m args below meth c H locs cells slots Q (F0 m pc ls rest) := by
  obtain ⟨hx, hb, hml, hown, hts, hK, hE⟩ := C
  obtain ⟨hP, hD, hS, hag⟩ := hw
  have hZ := xZ_ok (fm := .null) (Or.inl rfl)
  obtain ⟨hin, hty, hnm⟩ := hZ.1 ci q hq
  have hA : ∀ q : Nat, s.heap.size ≤ q → (fun q : Nat => s.heap.size ≤ q) q := fun _ h => h
  refine va_new (fs := (List.range q.2.2).map fun k => defaultValue (xty q k)) hx hb hts (fun w hw => xTs_sub (hin w hw)) (xty q) hty hown (hts _ h1) (hts _ h2) (hts _ h3) hK hP hD hS hA hq (fun jj hjj => ?_) hcells hslots hdg (fun a H1 hP1 hD1 hS1 => kk a H1 ?_)
  · simp [vp_V, hjj]
  · have hd : xdf ci = .inr (ci, (List.range q.2.2).map fun k => defaultValue (xty q k)) := by unfold xdf; rw [hq]
    have hy : ∀ ρ', xe ρ' cA (xdf ci) = .inr (ci, (List.range q.2.2).map fun k => defaultValue (xty q k)) := by
      intro ρ'
      rw [hd]
      show (Sum.inr (ci, ((List.range q.2.2).map fun k => defaultValue (xty q k)).map (xv ρ')) : va_E) = _
      have hl : ((List.range q.2.2).map fun k => defaultValue (xty q k)).map (xv ρ') = (List.range q.2.2).map fun k => defaultValue (xty q k) := by
        rw [List.map_map]
        apply List.map_congr_left
        intro k0 _
        show xv ρ' (defaultValue (xty q k0)) = defaultValue (xty q k0)
        cases xty q k0 <;> rfl
      rw [hl]
    refine ⟨?_, ?_, hS1, fun i hi => ?_⟩
    · rw [xw_push hal hlt hy]; exact hP1
    · rw [xw_push hal hlt hy]; exact hD1
    · show (if i = hp.length then a else ρ i) = ρ0 i
      rw [if_neg (by omega)]
      exact hag i hi
set_option maxHeartbeats 4000000 in
/-- a constructor that the law calls -/
theorem lw_i {D : va_G} {cA : Nat → ClassId} {b : Bool} {ρ0 ρ : Nat → Nat} {hp hp1 : List x_E} (C : lwC p s m c args D cA b ρ0) (hw : lwW s D cA ρ0 ρ hp H locs) {ls : Array Slot} {pc f d v a j idx i1 i2 mc ms : Nat} (ha : ρ v = a) {rest : List Value} (hls : ls.size = 4) (hck : iCk j idx i1 i2 mc ms = true) (hd : d ≤ 1000) (hrun : xbr b f d j hp [.ref v] = some (none, hp1)) (hcells : cells + mc ≤ 600000) (hslots : slots + ms ≤ 7302249) (hcat : (rest.map fun v => v.category).sum ≤ 8) (hdg : decode code pc = .ok (.invokespecial idx, 3))
    (kk : ∀ (ρ1 : Nat → Nat) (H1 : Heap) (locs1 : List Loc), (∀ i, i < hp.length → ρ1 i = ρ i) → lwW s D cA ρ0 ρ1 hp1 H1 locs1 → W p l e room_1 s m args below meth c H1 locs1 (cells + mc) (slots + ms) Q (F0 m (pc + 3) ls rest)) : W p l e room_1 s m args below meth c H locs cells slots Q (F0 m pc ls (.ref a :: rest)) := by
  subst ha
  obtain ⟨hx, hb, hml, hown, hts, hK, hE⟩ := C
  obtain ⟨hP, hD, hS, hag⟩ := hw
  unfold iCk at hck
  unfold xbr at hrun
  cases hj : xMf j with
  | none => rw [hj] at hrun; cases hrun
  | some M =>
    rw [hj] at hrun hck
    dsimp only at hck hrun
    simp only [Bool.and_eq_true, decide_eq_true_eq] at hck
    obtain ⟨⟨⟨⟨⟨⟨⟨g1, g2⟩, g3⟩, g4⟩, g5⟩, g6⟩, g7⟩, g8⟩ := hck
    have hZ := xZ_ok (xfm_ok b)
    obtain ⟨c1, c2, c3, c4, c5, c6⟩ := hZ.2.2.2.2.2.1 j M hj
    have hMet : xMet xZ (xY (xfm b)) xTs l D cA d M hp [.ref v] none hp1 := xMet_of hZ (xWst_all hZ l D cA f) hj hrun (by have := xsl_len v []; simp only [List.map_nil, List.length_nil] at this; rw [this]; exact g8)
    have hMet2 := hMet ρ H.size
    rw [g4, g6, g7] at hMet2
    have hG : GoodIn lw_tbl (Cond.code (xy M) (xb M) (xn M) none :: xTs) := fun w hw => by
      rw [← g4] at hw
      rcases List.mem_cons.mp hw with rfl | h
      · exact ⟨xTs_sub c1, good_of_word (List.mem_filter.mp c1).2⟩
      · exact ⟨xTs_sub h, good_of_word (List.mem_filter.mp h).2⟩
    have hA : ∀ q : Nat, s.heap.size ≤ q → (fun q : Nat => s.heap.size ≤ q) q := fun _ h => h
    have hFc := va_free (wc := xw ρ cA hp) hD hS hA (List.range (xw ρ cA hp).length) (xall_range _)
    have hR : (xrm d mc ms).frames + 1 ≤ room_1.frames ∧ 8 + (xn M + 11) + (xrm d mc ms).locals ≤ room_1.locals := ⟨by show d + 1 ≤ 2048; omega, by show 8 + (xn M + 11) + 64 * d ≤ 84000; omega⟩
    have hpre : ∀ U : State, U.heap = H → s.WarmedH U.vm → xPc xZ (xY (xfm b)) D xcl cA ρ hp [.ref v] H.size (Value.ref (ρ v) :: ([] : List Value)).toArray U := fun U hU hW => ⟨rfl, by rw [hU], by rw [hU]; exact hP, va_K.moved hW.alike hK, hD.weaken (fun _ _ _ _ => trivial), xEnv_go (fun o idx g hg => (hZ.2.2.2.2.2.2.2.2.2.2.2.2.2.2 o idx g hg).2) hE hS hFc hag hW hU⟩
    have hrn := va_runI (e := e) (below := below) (meth := meth) (locs := locs) (cells := cells) (slots := slots) (g := F0 m pc ls (.ref (ρ v) :: rest)) (rest := rest) (b := ρ v) (As := []) (R := room_1) (nL := 4) ⟨hx, hb, hml, hown, hts⟩ hMet2 ⟨callB_of 0 hts hG rfl rfl rfl (hts _ (xTs_sub c2)) (hts _ (xTs_sub (xis_mem g1))) (by rw [← g5]; exact c5) hR, g3, hts _ (xTs_sub (xis_mem g2))⟩ ⟨xBlind, hpre⟩ rfl rfl hls rfl (lv_room hcat) hdg ⟨hcells, hslots⟩
    refine x_call hrn hS (fun q _ z => hFc q z) hFc (fun ρ1 t H1 locs1 ht hvm hag1 hP1 hK1 hD1 hS1 => ?_)
    exact kk ρ1 H1 locs1 (fun i hi => hag1 i (Or.inl hi)) ⟨by rw [← ht]; exact hP1, hD1.weaken (fun _ q _ z => hFc q.1 z), hS1, fun i hi => (hag1 i (Or.inr hi)).trans (hag i hi)⟩
end LI
theorem xbr_x (b : Bool) : xbr b 3000 12 0 [xdf 0] [.ref 0] = some (none, xh1 b) := by
  rw [← xr1_eq b]
  unfold xr1 xgo xbr
  cases xMf 0 with
  | none => rfl
  | some M => exact (srun_eq _ _ _ _ _ _ _ _ _ _ _).symm
theorem M_model : (xMf 314).map (fun M => xb M) = some prog_14_method_1_code := by rfl
theorem xbr_m (b : Bool) : xbr b iTs.length 5 314 (xh1 b ++ [xdf 12]) [.ref 49] = some (none, xh2 b) := by
  have h := xr2_eq b
  have hM := M_model
  unfold xr2 xgoM xgoL at h
  unfold xbr
  cases hj : xMf 314 with
  | none => rw [hj] at h; cases h
  | some M =>
    rw [hj] at h hM
    dsimp only at h ⊢
    have e : xb M = prog_14_method_1_code := Option.some.inj hM
    rw [← srun_eq]
    exact irun_ok xZ (xY (xfm b)) M _ 5 iTs (fun q hq => by rw [e]; exact iTs_ok q hq) _ _ _ _ _ _ h
end
section
set_option maxHeartbeats 4000000 in
set_option maxRecDepth 20000 in
/-- THE LAW, from its entry: an invariant that every call on both objects keeps, with alike answers, is all that is wanted -/
theorem whole_of {p : Program} {e : Env} {s : State} {m : MethodId} {below : List Frame} {meth : Method} {c : Code} (l : Launch) {b L N : Nat} {xs : Nat → Int32} (hLN : L ≤ N) (hN : N ≤ 3072) (C0 : lw_At p s m meth c b L xs) {Inv : Bool → Nat → List x_E → Prop} (h0 : ∀ z, Inv z 0 (xh2 z)) (hst : ∀ z, xStep z N (Inv z)) (hsk : ∀ z i hp, Inv z i hp → Inv z (i + 1) hp) (hgd : ∀ z i hp, Inv z i hp → xGd hp) : W p l e room_1 s m #[Value.ref b] below meth c s.heap [] 0 0 (lw_Z below #[Value.ref b] s) (entryFrame m ([Value.ref b] : List Value).toArray 4) := by
  obtain ⟨hx, hb, hr, hml, hown, hts, hX, hbl, hlocks, hgv⟩ := C0
  obtain ⟨z, ρ0, hE⟩ := law_env hts hgv
  obtain ⟨D, cA, hK⟩ := law_K hts
  have C : lwC p s m c #[Value.ref b] D cA z ρ0 := ⟨hx, hb, hml, hown, hts, hK, hE⟩
  have hl := lv_entry ([.ref b]) (n := 4) (Nat.le_of_ble_eq_true rfl)
  rw [lg_entry_eq]
  generalize (lg_sl ([.ref b]) ++ List.replicate (4 - (lg_sl ([.ref b])).length) Slot.unset).toArray = ls at hl ⊢
  have hl : lv_has ls 4 [(0, .ref b)] := hl
  have hw0 : lwW s D cA ρ0 ρ0 [] s.heap [] := ⟨fun k q h => by simp [xw] at h, ⟨fun i j p q h => by simp [xw] at h, fun k q h => by simp [xw] at h⟩, va_S.rf, fun _ _ => rfl⟩
  have cx := iCl_x
  have cm := iCl_m
  simp only [Bool.and_eq_true] at cx cm
  refine lw_new (ci := 0) (q := ("TypedDescent", fun k => xT0.getD k ("", "", "", false), 16)) C hw0 rfl (by decide) rfl (nis2_mem cx.1.1) (nis2_mem cx.1.2) (nis2_mem cx.2) (by decide) (by decide) dl_0 (fun a0 H1 hw1 => ?_)
  refine lv_dup hx hb dl_3 rfl ?_
  refine lw_i (hp := [xdf 0]) (v := 0) C hw1 rfl hl.1 iCk_x (by decide) (xbr_x z) (by decide) (by decide) (Nat.le_of_ble_eq_true rfl) dl_4 (fun ρ1 H2 locs2 ag1 hw2 => ?_)
  have e1 : ρ1 0 = a0 := ag1 0 (by decide)
  refine lv_astore_n (lv' := [(1, .ref a0), (0, .ref b)]) hx hb dl_7 rfl hl (by decide) rfl (fun ls hl => ?_)
  have hal : (xh1 z).all (xokE (xh1 z).length) = true := by
    rw [len_h1]
    cases z
    · exact hal_0
    · exact hal_1
  refine lw_new (ci := 12) (q := ("TypedDescentModel", fun k => xT12.getD k ("", "", "", false), 144)) C hw2 hal (by rw [len_h1]; decide) rfl (nis2_mem cm.1.1) (nis2_mem cm.1.2) (nis2_mem cm.2) (by decide) (by decide) dl_8 (fun a1 H3 hw3 => ?_)
  refine lv_dup hx hb dl_11 rfl ?_
  refine lw_i (hp := xh1 z ++ [xdf 12]) (v := 49) C hw3 (by rw [len_h1]; rfl) hl.1 iCk_m (by decide) (xbr_m z) (by decide) (by decide) (Nat.le_of_ble_eq_true rfl) dl_12 (fun ρ2 H4 locs4 ag2 hw4 => ?_)
  have e2 : ρ2 0 = a0 := by
    rw [ag2 0 (by rw [List.length_append, len_h1]; decide), len_h1]
    exact e1
  have e3 : ρ2 49 = a1 := by
    rw [ag2 49 (by rw [List.length_append, len_h1]; decide), len_h1]
    rfl
  refine lv_astore_n (lv' := [(2, .ref a1), (1, .ref a0), (0, .ref b)]) hx hb dl_15 rfl hl (by decide) rfl (fun ls hl => ?_)
  refine lv_iconst (v := 0) hx hb dl_16 (by decide) ?_
  refine lv_istore_n (lv' := [(3, .int 0), (2, .ref a1), (1, .ref a0), (0, .ref b)]) hx hb dl_17 rfl hl (by decide) rfl (fun ls hl => ?_)
  refine W.widen (k := 600000) (n := 7302249) (by decide) (by decide) ?_
  exact law_loop hLN hN C hX hbl hr hlocks (hst z) (hsk z) (hgd z) (L + 1) 0 (by omega) (by omega) (xh2 z) ρ2 H4 locs4 ls (h0 z) hw4 e2 e3 (lv_sub hl [0, 3, 2, 1] rfl)
end
section
/-- as frun, but values aren't touched -/
def nrun (Z : x_T) (Y : x_Y) (DT : Nat → Nat → Option (Instr × Nat)) : Nat → x_G
  | 0 => fun _ _ _ _ _ _ _ _ => none
  | f + 1 => fun d j pc lv st hp k n => fN pc fun pc => match DT j pc with
    | none => none
    | some (i, len) => match zM Z j with
      | none => none
      | some M => gH i (nrun Z Y DT f) Z Y len d j M pc lv st hp k n
theorem nrun_eq (Z : x_T) (Y : x_Y) (DT : Nat → Nat → Option (Instr × Nat)) : ∀ f, nrun Z Y DT f = frun Z Y DT f := by
  intro f
  induction f with
  | zero => rfl
  | succ f ih =>
    funext d j pc lv st hp k n
    unfold nrun frun
    rw [fN_eq, fN_eq, fG_eq, fS_eq, ih]
    rfl
def xok1 (r : Option (Option Value × List x_E)) (v : Int32) : Bool := match r with
  | some (some (.int q), _) => decide (q = v)
  | _ => false
def xgn (b : Bool) (f d j : Nat) (hp : List x_E) (avs : List Value) : Option (Option Value × List x_E) := nrun xZ (xY (xfm b)) xDT f d j 0 (lv_args 0 avs) [] hp 0 0
end
section
theorem xgn_xbr {b : Bool} {f d j : Nat} {hp : List x_E} {avs : List Value} {R : Option Value × List x_E} (h : xgn b f d j hp avs = some R) : xbr b f d j hp avs = some R := by
  unfold xgn at h
  rw [nrun_eq] at h
  unfold xbr
  cases hj : xMf j with
  | none =>
    cases f with
    | zero => cases h
    | succ f =>
      unfold frun at h
      rw [fN_eq, fG_eq, fS_eq] at h
      split at h
      · cases h
      · have hz : zM xZ j = none := hj
        rw [hz] at h
        cases h
  | some M =>
    dsimp only
    rw [← srun_eq]
    exact frun_ok xZ (xY (xfm b)) xDT xDT_ok f R d j M _ _ _ _ _ _ hj h
end
section
set_option maxRecDepth 100000 in
set_option maxHeartbeats 4000000 in
theorem sy_place_x (b : Bool) : xgn b 60 1000 250 (xh2 b) [.ref 0] = some (some (.int (-1)), xh2 b) := by cases b <;> rfl
set_option maxRecDepth 100000 in
set_option maxHeartbeats 4000000 in
theorem sy_place_m (b : Bool) : xgn b 60 1000 460 (xh2 b) [.ref 49] = some (some (.int (-1)), xh2 b) := by cases b <;> rfl
set_option maxRecDepth 100000 in
set_option maxHeartbeats 4000000 in
theorem sy_value_x (b : Bool) : xgn b 60 1000 300 (xh2 b) [.ref 0] = some (some (.int 0), xh2 b) := by cases b <;> rfl
set_option maxRecDepth 100000 in
set_option maxHeartbeats 4000000 in
theorem sy_value_m (b : Bool) : xgn b 60 1000 461 (xh2 b) [.ref 49] = some (some (.int 0), xh2 b) := by cases b <;> rfl
set_option maxRecDepth 100000 in
set_option maxHeartbeats 4000000 in
theorem sy_kind_x (b : Bool) (i : Int32) : xgn b 60 1000 252 (xh2 b) [.ref 0, .int i] = some (some (.int (-1)), xh2 b) := by cases b <;> rfl
set_option maxRecDepth 100000 in
set_option maxHeartbeats 4000000 in
theorem sy_kind_m (b : Bool) (i : Int32) : xgn b 60 1000 391 (xh2 b) [.ref 49, .int i] = some (some (.int (-1)), xh2 b) := by cases b <;> rfl
set_option maxRecDepth 100000 in
set_option maxHeartbeats 4000000 in
theorem sy_code_x (b : Bool) (i : Int32) : xgn b 60 1000 254 (xh2 b) [.ref 0, .int i] = some (some (.int (-1)), xh2 b) := by cases b <;> rfl
set_option maxRecDepth 100000 in
set_option maxHeartbeats 4000000 in
theorem sy_code_m (b : Bool) (i : Int32) : xgn b 60 1000 443 (xh2 b) [.ref 49, .int i] = some (some (.int (-1)), xh2 b) := by cases b <;> rfl
set_option maxRecDepth 100000 in
set_option maxHeartbeats 4000000 in
theorem sy_label_x (b : Bool) (i : Int32) : xgn b 60 1000 256 (xh2 b) [.ref 0, .int i] = some (some (.int (-1)), xh2 b) := by cases b <;> rfl
set_option maxRecDepth 100000 in
set_option maxHeartbeats 4000000 in
theorem sy_label_m (b : Bool) (i : Int32) : xgn b 60 1000 444 (xh2 b) [.ref 49, .int i] = some (some (.int (-1)), xh2 b) := by cases b <;> rfl
set_option maxRecDepth 100000 in
set_option maxHeartbeats 4000000 in
theorem sy_register_x (b : Bool) (i : Int32) : xgn b 60 1000 312 (xh2 b) [.ref 0, .int i] = some (some (.int 0), xh2 b) := by cases b <;> rfl
set_option maxRecDepth 100000 in
set_option maxHeartbeats 4000000 in
theorem sy_register_m (b : Bool) (i : Int32) : xgn b 60 1000 463 (xh2 b) [.ref 49, .int i] = some (some (.int 0), xh2 b) := by cases b <;> rfl
set_option maxRecDepth 100000 in
set_option maxHeartbeats 4000000 in
theorem sy_heap_x (b : Bool) (i : Int32) : xgn b 60 1000 313 (xh2 b) [.ref 0, .int i] = some (some (.int 0), xh2 b) := by cases b <;> rfl
set_option maxRecDepth 100000 in
set_option maxHeartbeats 4000000 in
theorem sy_heap_m (b : Bool) (i : Int32) : xgn b 60 1000 464 (xh2 b) [.ref 49, .int i] = some (some (.int 0), xh2 b) := by cases b <;> rfl
end
section
theorem n_step {Z : x_T} {Y : x_Y} {DT : Nat → Nat → Option (Instr × Nat)} {f d j pc : Nat} {lv : List (Nat × Value)} {st : List Value} {hp : List x_E} {k n : Nat} {i : Instr} {len : Nat} {M : x_M} {pc' : Nat} {lv' : List (Nat × Value)} {st' : List Value} {hp' : List x_E} (hd : DT j pc = some (i, len)) (hj : zM Z j = some M) (hg : gH i = gPl i) (hh : sH i = hPl i) (hs : xs1F i (zcl Z) ((xy M).name == "<init>") (xn M) (zF Z (xo M)) (zKc Z (xo M)) (zKl Z (xo M)) len pc lv st hp = some (pc', lv', st', hp')) : nrun Z Y DT (f + 1) d j pc lv st hp k n = nrun Z Y DT f d j pc' lv' st' hp' k n := by
  conv => lhs; unfold nrun
  rw [fN_eq, hd]
  dsimp only
  rw [hj]
  dsimp only
  rw [hg]
  unfold gPl
  rw [hh]
  unfold hPl
  rw [hs]
theorem xlt_c {n : Int32} (h : n < 0) : xCn .lt n 0 = true := by simp [xCn, h]
theorem xlt_n {n : Int32} (h : ¬ n < 0) : ¬ xCn .lt n 0 = true := by simp [xCn, h]
theorem xle_n {n : Int32} (h : ¬ n < 0) (h0 : n ≠ 0) : ¬ xCn .le n 0 = true := by
  simp only [xCn, decide_eq_true_eq]
  intro h1
  apply h0
  have a := Int32.le_iff_toInt_le.mp h1
  have b := mt Int32.lt_iff_toInt_lt.mpr h
  apply Int32.toInt_inj.mp
  simp at a b ⊢
  omega
theorem n_get {Z : x_T} {Y : x_Y} {DT : Nat → Nat → Option (Instr × Nat)} {f d j pc : Nat} {lv : List (Nat × Value)} {st : List Value} {hp : List x_E} {k n : Nat} {i : Instr} {len : Nat} {M : x_M} {pc' : Nat} {lv' : List (Nat × Value)} {st' : List Value} {hp' : List x_E} (hd : DT j pc = some (i, len)) (hj : zM Z j = some M) (hg : gH i = gPl i) (hh : sH i = hTx i) (h2 : xs2 Y (xo M) i len pc st = none) (hs : xs1F i (zcl Z) ((xy M).name == "<init>") (xn M) (zF Z (xo M)) (zKc Z (xo M)) (zKl Z (xo M)) len pc lv st hp = some (pc', lv', st', hp')) : nrun Z Y DT (f + 1) d j pc lv st hp k n = nrun Z Y DT f d j pc' lv' st' hp' k n := by
  conv => lhs; unfold nrun
  rw [fN_eq, hd]
  dsimp only
  rw [hj]
  dsimp only
  rw [hg]
  unfold gPl
  rw [hh]
  unfold hTx
  rw [h2]
  dsimp only
  unfold hPl
  rw [hs]
theorem mj_27 : ∃ y b n r, zM xZ 27 = some (y, b, n, r, 0, 1, 0, 0) := ⟨_, _, _, _, rfl⟩
set_option maxRecDepth 100000 in
set_option maxHeartbeats 1000000 in
theorem sh_prog_x_1 (b : Bool) (n : Int32) : nrun xZ (xY (xfm b)) xDT 60 1000 27 0 [(0, .ref 0), (1, .int n)] [] (xh2 b) 0 0 = nrun xZ (xY (xfm b)) xDT 58 1000 27 (if xCn .lt n 0 = true then 12 else 4) [(0, .ref 0), (1, .int n)] [] (xh2 b) 0 0 := by
  obtain ⟨y, cb, nl, r, hj⟩ := mj_27
  rw [n_step (st' := [.int n]) (pc' := 1) (lv' := [(0, .ref 0), (1, .int n)]) (hp' := xh2 b) (i := .iload_n 1) (len := 1) rfl hj rfl rfl rfl]
  rw [n_step (st' := []) (pc' := if xCn .lt n 0 = true then 12 else 4) (lv' := [(0, .ref 0), (1, .int n)]) (hp' := xh2 b) (i := .ifCond .lt 11) (len := 3) rfl hj rfl rfl rfl]
set_option maxRecDepth 100000 in
set_option maxHeartbeats 1000000 in
theorem sh_prog_x_2 (b : Bool) (n : Int32) : nrun xZ (xY (xfm b)) xDT 58 1000 27 4 [(0, .ref 0), (1, .int n)] [] (xh2 b) 0 0 = nrun xZ (xY (xfm b)) xDT 54 1000 27 (if xCn .le n 0 = true then 14 else 12) [(0, .ref 0), (1, .int n)] [] (xh2 b) 0 0 := by
  obtain ⟨y, cb, nl, r, hj⟩ := mj_27
  rw [n_step (st' := [.int n]) (pc' := 5) (lv' := [(0, .ref 0), (1, .int n)]) (hp' := xh2 b) (i := .iload_n 1) (len := 1) rfl hj rfl rfl rfl]
  rw [n_step (st' := [.ref 0, .int n]) (pc' := 6) (lv' := [(0, .ref 0), (1, .int n)]) (hp' := xh2 b) (i := .aload_n 0) (len := 1) rfl hj rfl rfl rfl]
  rw [n_get (st' := [.int 0, .int n]) (pc' := 9) (lv' := [(0, .ref 0), (1, .int n)]) (hp' := xh2 b) (i := .getfield 96) (len := 3) rfl hj rfl rfl rfl (by cases b <;> rfl)]
  rw [n_step (st' := []) (pc' := if xCn .le n 0 = true then 14 else 12) (lv' := [(0, .ref 0), (1, .int n)]) (hp' := xh2 b) (i := .if_icmp .le 5) (len := 3) rfl hj rfl rfl rfl]
set_option maxRecDepth 100000 in
set_option maxHeartbeats 1000000 in
theorem sh_prog_x_3 (b : Bool) (n : Int32) : nrun xZ (xY (xfm b)) xDT 58 1000 27 12 [(0, .ref 0), (1, .int n)] [] (xh2 b) 0 0 = some (some (.int (-1)), xh2 b) := by cases b <;> rfl
set_option maxRecDepth 100000 in
set_option maxHeartbeats 1000000 in
theorem sh_prog_x_4 (b : Bool) (n : Int32) : nrun xZ (xY (xfm b)) xDT 54 1000 27 12 [(0, .ref 0), (1, .int n)] [] (xh2 b) 0 0 = some (some (.int (-1)), xh2 b) := by cases b <;> rfl
theorem sy_prog_x (b : Bool) (n : Int32) (h : n ≠ 0) : xgn b 60 1000 27 (xh2 b) [.ref 0, .int n] = some (some (.int (-1)), xh2 b) := by
  show nrun xZ (xY (xfm b)) xDT 60 1000 27 0 [(0, .ref 0), (1, .int n)] [] (xh2 b) 0 0 = _
  rw [sh_prog_x_1]
  by_cases h1 : n < 0
  · rw [if_pos (xlt_c h1), sh_prog_x_3]
  · rw [if_neg (xlt_n h1), sh_prog_x_2, if_neg (xle_n h1 h), sh_prog_x_4]
theorem mj_317 : ∃ y b n r, zM xZ 317 = some (y, b, n, r, 12, 1, 0, 0) := ⟨_, _, _, _, rfl⟩
set_option maxRecDepth 100000 in
set_option maxHeartbeats 1000000 in
theorem sh_prog_m_1 (b : Bool) (n : Int32) : nrun xZ (xY (xfm b)) xDT 60 1000 317 0 [(0, .ref 49), (1, .int n)] [] (xh2 b) 0 0 = nrun xZ (xY (xfm b)) xDT 58 1000 317 (if xCn .lt n 0 = true then 12 else 4) [(0, .ref 49), (1, .int n)] [] (xh2 b) 0 0 := by
  obtain ⟨y, cb, nl, r, hj⟩ := mj_317
  rw [n_step (st' := [.int n]) (pc' := 1) (lv' := [(0, .ref 49), (1, .int n)]) (hp' := xh2 b) (i := .iload_n 1) (len := 1) rfl hj rfl rfl rfl]
  rw [n_step (st' := []) (pc' := if xCn .lt n 0 = true then 12 else 4) (lv' := [(0, .ref 49), (1, .int n)]) (hp' := xh2 b) (i := .ifCond .lt 11) (len := 3) rfl hj rfl rfl rfl]
set_option maxRecDepth 100000 in
set_option maxHeartbeats 1000000 in
theorem sh_prog_m_2 (b : Bool) (n : Int32) : nrun xZ (xY (xfm b)) xDT 58 1000 317 4 [(0, .ref 49), (1, .int n)] [] (xh2 b) 0 0 = nrun xZ (xY (xfm b)) xDT 54 1000 317 (if xCn .le n 0 = true then 14 else 12) [(0, .ref 49), (1, .int n)] [] (xh2 b) 0 0 := by
  obtain ⟨y, cb, nl, r, hj⟩ := mj_317
  rw [n_step (st' := [.int n]) (pc' := 5) (lv' := [(0, .ref 49), (1, .int n)]) (hp' := xh2 b) (i := .iload_n 1) (len := 1) rfl hj rfl rfl rfl]
  rw [n_step (st' := [.ref 49, .int n]) (pc' := 6) (lv' := [(0, .ref 49), (1, .int n)]) (hp' := xh2 b) (i := .aload_n 0) (len := 1) rfl hj rfl rfl rfl]
  rw [n_get (st' := [.int 0, .int n]) (pc' := 9) (lv' := [(0, .ref 49), (1, .int n)]) (hp' := xh2 b) (i := .getfield 237) (len := 3) rfl hj rfl rfl rfl (by cases b <;> rfl)]
  rw [n_step (st' := []) (pc' := if xCn .le n 0 = true then 14 else 12) (lv' := [(0, .ref 49), (1, .int n)]) (hp' := xh2 b) (i := .if_icmp .le 5) (len := 3) rfl hj rfl rfl rfl]
set_option maxRecDepth 100000 in
set_option maxHeartbeats 1000000 in
theorem sh_prog_m_3 (b : Bool) (n : Int32) : nrun xZ (xY (xfm b)) xDT 58 1000 317 12 [(0, .ref 49), (1, .int n)] [] (xh2 b) 0 0 = some (some (.int (-1)), xh2 b) := by cases b <;> rfl
set_option maxRecDepth 100000 in
set_option maxHeartbeats 1000000 in
theorem sh_prog_m_4 (b : Bool) (n : Int32) : nrun xZ (xY (xfm b)) xDT 54 1000 317 12 [(0, .ref 49), (1, .int n)] [] (xh2 b) 0 0 = some (some (.int (-1)), xh2 b) := by cases b <;> rfl
theorem sy_prog_m (b : Bool) (n : Int32) (h : n ≠ 0) : xgn b 60 1000 317 (xh2 b) [.ref 49, .int n] = some (some (.int (-1)), xh2 b) := by
  show nrun xZ (xY (xfm b)) xDT 60 1000 317 0 [(0, .ref 49), (1, .int n)] [] (xh2 b) 0 0 = _
  rw [sh_prog_m_1]
  by_cases h1 : n < 0
  · rw [if_pos (xlt_c h1), sh_prog_m_3]
  · rw [if_neg (xlt_n h1), sh_prog_m_2, if_neg (xle_n h1 h), sh_prog_m_4]
theorem mj_176 : ∃ y b n r, zM xZ 176 = some (y, b, n, r, 0, 1, 0, 0) := ⟨_, _, _, _, rfl⟩
set_option maxRecDepth 100000 in
set_option maxHeartbeats 1000000 in
theorem sh_blocks_x_1 (b : Bool) (n : Int32) : nrun xZ (xY (xfm b)) xDT 60 1000 176 0 [(0, .ref 0), (1, .int n)] [] (xh2 b) 0 0 = nrun xZ (xY (xfm b)) xDT 58 1000 176 (if xCn .lt n 0 = true then 12 else 4) [(0, .ref 0), (1, .int n)] [] (xh2 b) 0 0 := by
  obtain ⟨y, cb, nl, r, hj⟩ := mj_176
  rw [n_step (st' := [.int n]) (pc' := 1) (lv' := [(0, .ref 0), (1, .int n)]) (hp' := xh2 b) (i := .iload_n 1) (len := 1) rfl hj rfl rfl rfl]
  rw [n_step (st' := []) (pc' := if xCn .lt n 0 = true then 12 else 4) (lv' := [(0, .ref 0), (1, .int n)]) (hp' := xh2 b) (i := .ifCond .lt 11) (len := 3) rfl hj rfl rfl rfl]
set_option maxRecDepth 100000 in
set_option maxHeartbeats 1000000 in
theorem sh_blocks_x_2 (b : Bool) (n : Int32) : nrun xZ (xY (xfm b)) xDT 58 1000 176 4 [(0, .ref 0), (1, .int n)] [] (xh2 b) 0 0 = nrun xZ (xY (xfm b)) xDT 54 1000 176 (if xCn .le n 0 = true then 14 else 12) [(0, .ref 0), (1, .int n)] [] (xh2 b) 0 0 := by
  obtain ⟨y, cb, nl, r, hj⟩ := mj_176
  rw [n_step (st' := [.int n]) (pc' := 5) (lv' := [(0, .ref 0), (1, .int n)]) (hp' := xh2 b) (i := .iload_n 1) (len := 1) rfl hj rfl rfl rfl]
  rw [n_step (st' := [.ref 0, .int n]) (pc' := 6) (lv' := [(0, .ref 0), (1, .int n)]) (hp' := xh2 b) (i := .aload_n 0) (len := 1) rfl hj rfl rfl rfl]
  rw [n_get (st' := [.int 0, .int n]) (pc' := 9) (lv' := [(0, .ref 0), (1, .int n)]) (hp' := xh2 b) (i := .getfield 96) (len := 3) rfl hj rfl rfl rfl (by cases b <;> rfl)]
  rw [n_step (st' := []) (pc' := if xCn .le n 0 = true then 14 else 12) (lv' := [(0, .ref 0), (1, .int n)]) (hp' := xh2 b) (i := .if_icmp .le 5) (len := 3) rfl hj rfl rfl rfl]
set_option maxRecDepth 100000 in
set_option maxHeartbeats 1000000 in
theorem sh_blocks_x_3 (b : Bool) (n : Int32) : nrun xZ (xY (xfm b)) xDT 58 1000 176 12 [(0, .ref 0), (1, .int n)] [] (xh2 b) 0 0 = some (some (.int (-1)), xh2 b) := by cases b <;> rfl
set_option maxRecDepth 100000 in
set_option maxHeartbeats 1000000 in
theorem sh_blocks_x_4 (b : Bool) (n : Int32) : nrun xZ (xY (xfm b)) xDT 54 1000 176 12 [(0, .ref 0), (1, .int n)] [] (xh2 b) 0 0 = some (some (.int (-1)), xh2 b) := by cases b <;> rfl
theorem sy_blocks_x (b : Bool) (n : Int32) (h : n ≠ 0) : xgn b 60 1000 176 (xh2 b) [.ref 0, .int n] = some (some (.int (-1)), xh2 b) := by
  show nrun xZ (xY (xfm b)) xDT 60 1000 176 0 [(0, .ref 0), (1, .int n)] [] (xh2 b) 0 0 = _
  rw [sh_blocks_x_1]
  by_cases h1 : n < 0
  · rw [if_pos (xlt_c h1), sh_blocks_x_3]
  · rw [if_neg (xlt_n h1), sh_blocks_x_2, if_neg (xle_n h1 h), sh_blocks_x_4]
theorem mj_398 : ∃ y b n r, zM xZ 398 = some (y, b, n, r, 12, 1, 0, 0) := ⟨_, _, _, _, rfl⟩
set_option maxRecDepth 100000 in
set_option maxHeartbeats 1000000 in
theorem sh_blocks_m_1 (b : Bool) (n : Int32) : nrun xZ (xY (xfm b)) xDT 60 1000 398 0 [(0, .ref 49), (1, .int n)] [] (xh2 b) 0 0 = nrun xZ (xY (xfm b)) xDT 58 1000 398 (if xCn .lt n 0 = true then 12 else 4) [(0, .ref 49), (1, .int n)] [] (xh2 b) 0 0 := by
  obtain ⟨y, cb, nl, r, hj⟩ := mj_398
  rw [n_step (st' := [.int n]) (pc' := 1) (lv' := [(0, .ref 49), (1, .int n)]) (hp' := xh2 b) (i := .iload_n 1) (len := 1) rfl hj rfl rfl rfl]
  rw [n_step (st' := []) (pc' := if xCn .lt n 0 = true then 12 else 4) (lv' := [(0, .ref 49), (1, .int n)]) (hp' := xh2 b) (i := .ifCond .lt 11) (len := 3) rfl hj rfl rfl rfl]
set_option maxRecDepth 100000 in
set_option maxHeartbeats 1000000 in
theorem sh_blocks_m_2 (b : Bool) (n : Int32) : nrun xZ (xY (xfm b)) xDT 58 1000 398 4 [(0, .ref 49), (1, .int n)] [] (xh2 b) 0 0 = nrun xZ (xY (xfm b)) xDT 54 1000 398 (if xCn .le n 0 = true then 14 else 12) [(0, .ref 49), (1, .int n)] [] (xh2 b) 0 0 := by
  obtain ⟨y, cb, nl, r, hj⟩ := mj_398
  rw [n_step (st' := [.int n]) (pc' := 5) (lv' := [(0, .ref 49), (1, .int n)]) (hp' := xh2 b) (i := .iload_n 1) (len := 1) rfl hj rfl rfl rfl]
  rw [n_step (st' := [.ref 49, .int n]) (pc' := 6) (lv' := [(0, .ref 49), (1, .int n)]) (hp' := xh2 b) (i := .aload_n 0) (len := 1) rfl hj rfl rfl rfl]
  rw [n_get (st' := [.int 0, .int n]) (pc' := 9) (lv' := [(0, .ref 49), (1, .int n)]) (hp' := xh2 b) (i := .getfield 237) (len := 3) rfl hj rfl rfl rfl (by cases b <;> rfl)]
  rw [n_step (st' := []) (pc' := if xCn .le n 0 = true then 14 else 12) (lv' := [(0, .ref 49), (1, .int n)]) (hp' := xh2 b) (i := .if_icmp .le 5) (len := 3) rfl hj rfl rfl rfl]
set_option maxRecDepth 100000 in
set_option maxHeartbeats 1000000 in
theorem sh_blocks_m_3 (b : Bool) (n : Int32) : nrun xZ (xY (xfm b)) xDT 58 1000 398 12 [(0, .ref 49), (1, .int n)] [] (xh2 b) 0 0 = some (some (.int (-1)), xh2 b) := by cases b <;> rfl
set_option maxRecDepth 100000 in
set_option maxHeartbeats 1000000 in
theorem sh_blocks_m_4 (b : Bool) (n : Int32) : nrun xZ (xY (xfm b)) xDT 54 1000 398 12 [(0, .ref 49), (1, .int n)] [] (xh2 b) 0 0 = some (some (.int (-1)), xh2 b) := by cases b <;> rfl
theorem sy_blocks_m (b : Bool) (n : Int32) (h : n ≠ 0) : xgn b 60 1000 398 (xh2 b) [.ref 49, .int n] = some (some (.int (-1)), xh2 b) := by
  show nrun xZ (xY (xfm b)) xDT 60 1000 398 0 [(0, .ref 49), (1, .int n)] [] (xh2 b) 0 0 = _
  rw [sh_blocks_m_1]
  by_cases h1 : n < 0
  · rw [if_pos (xlt_c h1), sh_blocks_m_3]
  · rw [if_neg (xlt_n h1), sh_blocks_m_2, if_neg (xle_n h1 h), sh_blocks_m_4]
end
section
theorem mj_257 : ∃ y b n r, zM xZ 257 = some (y, b, n, r, 0, 2, 0, 0) := ⟨_, _, _, _, rfl⟩
set_option maxRecDepth 100000 in
set_option maxHeartbeats 1000000 in
theorem sh_run_0 (b : Bool) (f h : Int32) : nrun xZ (xY (xfm b)) xDT 60 1000 257 0 [(0, .ref 0), (1, .int f), (2, .int h)] [] (xh2 b) 0 0 = nrun xZ (xY (xfm b)) xDT 58 1000 257 (if xCn .lt f 0 = true then 29 else 4) [(0, .ref 0), (1, .int f), (2, .int h)] [] (xh2 b) 0 0 := by
  obtain ⟨y, cb, nl, r, hj⟩ := mj_257
  rw [n_step (st' := [.int f]) (pc' := 1) (lv' := [(0, .ref 0), (1, .int f), (2, .int h)]) (hp' := xh2 b) (i := .iload_n 1) (len := 1) rfl hj rfl rfl rfl]
  rw [n_step (st' := []) (pc' := if xCn .lt f 0 = true then 29 else 4) (lv' := [(0, .ref 0), (1, .int f), (2, .int h)]) (hp' := xh2 b) (i := .ifCond .lt 28) (len := 3) rfl hj rfl rfl rfl]
set_option maxRecDepth 100000 in
set_option maxHeartbeats 1000000 in
theorem sh_run_1 (b : Bool) (f h : Int32) : nrun xZ (xY (xfm b)) xDT 58 1000 257 4 [(0, .ref 0), (1, .int f), (2, .int h)] [] (xh2 b) 0 0 = nrun xZ (xY (xfm b)) xDT 55 1000 257 (if xCn .gt f ((Int16.ofInt 20000).toInt32) = true then 29 else 11) [(0, .ref 0), (1, .int f), (2, .int h)] [] (xh2 b) 0 0 := by
  obtain ⟨y, cb, nl, r, hj⟩ := mj_257
  rw [n_step (st' := [.int f]) (pc' := 5) (lv' := [(0, .ref 0), (1, .int f), (2, .int h)]) (hp' := xh2 b) (i := .iload_n 1) (len := 1) rfl hj rfl rfl rfl]
  rw [n_step (st' := [.int ((Int16.ofInt 20000).toInt32), .int f]) (pc' := 8) (lv' := [(0, .ref 0), (1, .int f), (2, .int h)]) (hp' := xh2 b) (i := .sipush 20000) (len := 3) rfl hj rfl rfl rfl]
  rw [n_step (st' := []) (pc' := if xCn .gt f ((Int16.ofInt 20000).toInt32) = true then 29 else 11) (lv' := [(0, .ref 0), (1, .int f), (2, .int h)]) (hp' := xh2 b) (i := .if_icmp .gt 21) (len := 3) rfl hj rfl rfl rfl]
set_option maxRecDepth 100000 in
set_option maxHeartbeats 1000000 in
theorem sh_run_2 (b : Bool) (f h : Int32) : nrun xZ (xY (xfm b)) xDT 55 1000 257 11 [(0, .ref 0), (1, .int f), (2, .int h)] [] (xh2 b) 0 0 = nrun xZ (xY (xfm b)) xDT 53 1000 257 (if xCn .lt h 0 = true then 29 else 15) [(0, .ref 0), (1, .int f), (2, .int h)] [] (xh2 b) 0 0 := by
  obtain ⟨y, cb, nl, r, hj⟩ := mj_257
  rw [n_step (st' := [.int h]) (pc' := 12) (lv' := [(0, .ref 0), (1, .int f), (2, .int h)]) (hp' := xh2 b) (i := .iload_n 2) (len := 1) rfl hj rfl rfl rfl]
  rw [n_step (st' := []) (pc' := if xCn .lt h 0 = true then 29 else 15) (lv' := [(0, .ref 0), (1, .int f), (2, .int h)]) (hp' := xh2 b) (i := .ifCond .lt 17) (len := 3) rfl hj rfl rfl rfl]
set_option maxRecDepth 100000 in
set_option maxHeartbeats 1000000 in
theorem sh_run_3 (b : Bool) (f h : Int32) : nrun xZ (xY (xfm b)) xDT 53 1000 257 15 [(0, .ref 0), (1, .int f), (2, .int h)] [] (xh2 b) 0 0 = nrun xZ (xY (xfm b)) xDT 50 1000 257 (if xCn .gt h ((Int16.ofInt 20000).toInt32) = true then 29 else 22) [(0, .ref 0), (1, .int f), (2, .int h)] [] (xh2 b) 0 0 := by
  obtain ⟨y, cb, nl, r, hj⟩ := mj_257
  rw [n_step (st' := [.int h]) (pc' := 16) (lv' := [(0, .ref 0), (1, .int f), (2, .int h)]) (hp' := xh2 b) (i := .iload_n 2) (len := 1) rfl hj rfl rfl rfl]
  rw [n_step (st' := [.int ((Int16.ofInt 20000).toInt32), .int h]) (pc' := 19) (lv' := [(0, .ref 0), (1, .int f), (2, .int h)]) (hp' := xh2 b) (i := .sipush 20000) (len := 3) rfl hj rfl rfl rfl]
  rw [n_step (st' := []) (pc' := if xCn .gt h ((Int16.ofInt 20000).toInt32) = true then 29 else 22) (lv' := [(0, .ref 0), (1, .int f), (2, .int h)]) (hp' := xh2 b) (i := .if_icmp .gt 10) (len := 3) rfl hj rfl rfl rfl]
set_option maxRecDepth 100000 in
set_option maxHeartbeats 1000000 in
theorem sh_run_e0 (b : Bool) (f h : Int32) : nrun xZ (xY (xfm b)) xDT 58 1000 257 29 [(0, .ref 0), (1, .int f), (2, .int h)] [] (xh2 b) 0 0 = some (some (.int (-1)), xh2 b) := by cases b <;> rfl
set_option maxRecDepth 100000 in
set_option maxHeartbeats 1000000 in
theorem sh_run_e1 (b : Bool) (f h : Int32) : nrun xZ (xY (xfm b)) xDT 55 1000 257 29 [(0, .ref 0), (1, .int f), (2, .int h)] [] (xh2 b) 0 0 = some (some (.int (-1)), xh2 b) := by cases b <;> rfl
set_option maxRecDepth 100000 in
set_option maxHeartbeats 1000000 in
theorem sh_run_e2 (b : Bool) (f h : Int32) : nrun xZ (xY (xfm b)) xDT 53 1000 257 29 [(0, .ref 0), (1, .int f), (2, .int h)] [] (xh2 b) 0 0 = some (some (.int (-1)), xh2 b) := by cases b <;> rfl
set_option maxRecDepth 100000 in
set_option maxHeartbeats 1000000 in
theorem sh_run_e3 (b : Bool) (f h : Int32) : nrun xZ (xY (xfm b)) xDT 50 1000 257 29 [(0, .ref 0), (1, .int f), (2, .int h)] [] (xh2 b) 0 0 = some (some (.int (-1)), xh2 b) := by cases b <;> rfl
set_option maxRecDepth 100000 in
set_option maxHeartbeats 1000000 in
theorem sh_run_z (b : Bool) (f h : Int32) : nrun xZ (xY (xfm b)) xDT 50 1000 257 22 [(0, .ref 0), (1, .int f), (2, .int h)] [] (xh2 b) 0 0 = some (some (.int (-1)), xh2 b) := by cases b <;> rfl
theorem sy_run_x (b : Bool) (f h : Int32) : xgn b 60 1000 257 (xh2 b) [.ref 0, .int f, .int h] = some (some (.int (-1)), xh2 b) := by
  show nrun xZ (xY (xfm b)) xDT 60 1000 257 0 [(0, .ref 0), (1, .int f), (2, .int h)] [] (xh2 b) 0 0 = _
  rw [sh_run_0]
  split
  · exact sh_run_e0 b f h
  · rw [sh_run_1]
    split
    · exact sh_run_e1 b f h
    · rw [sh_run_2]
      split
      · exact sh_run_e2 b f h
      · rw [sh_run_3]
        split
        · exact sh_run_e3 b f h
        · exact sh_run_z b f h
set_option maxRecDepth 100000 in
set_option maxHeartbeats 1000000 in
theorem sy_run_m (b : Bool) (f h : Int32) : xgn b 60 1000 445 (xh2 b) [.ref 49, .int f, .int h] = some (some (.int (-1)), xh2 b) := by cases b <;> rfl
theorem mj_302 : ∃ y b n r, zM xZ 302 = some (y, b, n, r, 0, 1, 0, 0) := ⟨_, _, _, _, rfl⟩
set_option maxRecDepth 100000 in
set_option maxHeartbeats 1000000 in
theorem sh_count_x_d (b : Bool) (w : Int32) : nrun xZ (xY (xfm b)) xDT 58 1000 302 152 [(0, .ref 0), (1, .int w)] [] (xh2 b) 0 0 = some (some (.int (-1)), xh2 b) := by cases b <;> rfl
set_option maxRecDepth 100000 in
set_option maxHeartbeats 1000000 in
theorem sy_count_x_d (b : Bool) (w : Int32) (h : w.toInt < 0 ∨ 6 < w.toInt) : xgn b 60 1000 302 (xh2 b) [.ref 0, .int w] = some (some (.int (-1)), xh2 b) := by
  show nrun xZ (xY (xfm b)) xDT 60 1000 302 0 [(0, .ref 0), (1, .int w)] [] (xh2 b) 0 0 = _
  obtain ⟨y, cb, nl, r, hj⟩ := mj_302
  have e : xTab 151 0 6 #[43, 62, 78, 105, 121, 126, 131] w = some 151 := by unfold xTab; rw [if_pos h]
  rw [n_step (st' := [.int w]) (pc' := 1) (lv' := [(0, .ref 0), (1, .int w)]) (hp' := xh2 b) (i := .iload_n 1) (len := 1) rfl hj rfl rfl rfl]
  rw [n_step (st' := []) (pc' := 152) (lv' := [(0, .ref 0), (1, .int w)]) (hp' := xh2 b) (i := .tableswitch 151 0 6 #[43, 62, 78, 105, 121, 126, 131]) (len := 43) rfl hj rfl rfl (by
    show ((xTab 151 0 6 #[43, 62, 78, 105, 121, 126, 131] w).bind fun off => (xTg 1 off).map fun t => (t, [(0, Value.ref 0), (1, Value.int w)], ([] : List Value), xh2 b)) = _
    rw [e]
    rfl)]
  exact sh_count_x_d b w
set_option maxRecDepth 100000 in
set_option maxHeartbeats 1000000 in
theorem sy_count_x_k (b : Bool) : ∀ k, k < 7 → xgn b 60 1000 302 (xh2 b) [.ref 0, .int (nI k)] = some (some (.int 0), xh2 b) := by
  intro k hk
  match k, hk with
  | 0, _ => cases b <;> rfl
  | 1, _ => cases b <;> rfl
  | 2, _ => cases b <;> rfl
  | 3, _ => cases b <;> rfl
  | 4, _ => cases b <;> rfl
  | 5, _ => cases b <;> rfl
  | 6, _ => cases b <;> rfl
  | k + 7, hk => exact absurd hk (by omega)
theorem mj_462 : ∃ y b n r, zM xZ 462 = some (y, b, n, r, 12, 1, 0, 0) := ⟨_, _, _, _, rfl⟩
set_option maxRecDepth 100000 in
set_option maxHeartbeats 1000000 in
theorem sh_count_m_d (b : Bool) (w : Int32) : nrun xZ (xY (xfm b)) xDT 58 1000 462 91 [(0, .ref 49), (1, .int w)] [] (xh2 b) 0 0 = some (some (.int (-1)), xh2 b) := by cases b <;> rfl
set_option maxRecDepth 100000 in
set_option maxHeartbeats 1000000 in
theorem sy_count_m_d (b : Bool) (w : Int32) (h : w.toInt < 0 ∨ 6 < w.toInt) : xgn b 60 1000 462 (xh2 b) [.ref 49, .int w] = some (some (.int (-1)), xh2 b) := by
  show nrun xZ (xY (xfm b)) xDT 60 1000 462 0 [(0, .ref 49), (1, .int w)] [] (xh2 b) 0 0 = _
  obtain ⟨y, cb, nl, r, hj⟩ := mj_462
  have e : xTab 90 0 6 #[43, 48, 53, 58, 63, 68, 73] w = some 90 := by unfold xTab; rw [if_pos h]
  rw [n_step (st' := [.int w]) (pc' := 1) (lv' := [(0, .ref 49), (1, .int w)]) (hp' := xh2 b) (i := .iload_n 1) (len := 1) rfl hj rfl rfl rfl]
  rw [n_step (st' := []) (pc' := 91) (lv' := [(0, .ref 49), (1, .int w)]) (hp' := xh2 b) (i := .tableswitch 90 0 6 #[43, 48, 53, 58, 63, 68, 73]) (len := 43) rfl hj rfl rfl (by
    show ((xTab 90 0 6 #[43, 48, 53, 58, 63, 68, 73] w).bind fun off => (xTg 1 off).map fun t => (t, [(0, Value.ref 49), (1, Value.int w)], ([] : List Value), xh2 b)) = _
    rw [e]
    rfl)]
  exact sh_count_m_d b w
set_option maxRecDepth 100000 in
set_option maxHeartbeats 1000000 in
theorem sy_count_m_k (b : Bool) : ∀ k, k < 7 → xgn b 60 1000 462 (xh2 b) [.ref 49, .int (nI k)] = some (some (.int 0), xh2 b) := by
  intro k hk
  match k, hk with
  | 0, _ => cases b <;> rfl
  | 1, _ => cases b <;> rfl
  | 2, _ => cases b <;> rfl
  | 3, _ => cases b <;> rfl
  | 4, _ => cases b <;> rfl
  | 5, _ => cases b <;> rfl
  | 6, _ => cases b <;> rfl
  | k + 7, hk => exact absurd hk (by omega)
end
section
def xgB (hp : List x_E) : Bool := Nat.beq hp.length 122 && (match hp[0]? with
  | some (Sum.inr (0, _)) => true
  | _ => false) && (match hp[49]? with
  | some (Sum.inr (12, _)) => true
  | _ => false)
theorem xgB_eq {hp : List x_E} (h : xgB hp = true) : xGd hp := by
  unfold xgB at h
  rw [Bool.and_eq_true, Bool.and_eq_true] at h
  obtain ⟨⟨h1, h2⟩, h3⟩ := h
  refine ⟨Nat.eq_of_beq_eq_true h1, ?_, ?_⟩
  · split at h2
    · rename_i fs e
      exact ⟨fs, e⟩
    · cases h2
  · split at h3
    · rename_i fs e
      exact ⟨fs, e⟩
    · cases h3
def xbg (b : Bool) (jx jm : Nat) (ax am : List Value) : Bool := match xgf b 3000 1000 jx (xh2 b) ax with
  | some (some (.int r), hp) => xgB hp && (match xgf b 3000 1000 jm hp am with
    | some (some (.int q), hp2) => decide (r = q) && xgB hp2
    | _ => false)
  | _ => false
theorem xgf_xbr {b : Bool} {f d j : Nat} {hp : List x_E} {avs : List Value} {R : Option Value × List x_E} (h : xgf b f d j hp avs = some R) : xbr b f d j hp avs = some R := by
  apply xgn_xbr
  unfold xgn
  rw [nrun_eq]
  exact h
/-- alike answers of a call on each, whatever is behind them -/
def xAl (b : Bool) (jx jm : Nat) (hp : List x_E) (as : List Int32) : Prop := ∃ (f f2 : Nat) (r : Int32) (hp1 hp2 : List x_E), xbr b f 1000 jx hp (.ref 0 :: as.map Value.int) = some (some (.int r), hp1) ∧ xbr b f2 1000 jm hp1 (.ref 49 :: as.map Value.int) = some (some (.int r), hp2) ∧ xGd hp1 ∧ xGd hp2
theorem xbg_al {b : Bool} {jx jm : Nat} {as : List Int32} (h : xbg b jx jm (.ref 0 :: as.map Value.int) (.ref 49 :: as.map Value.int) = true) : xAl b jx jm (xh2 b) as := by
  unfold xbg at h
  split at h
  · rename_i r hp1 e1
    rw [Bool.and_eq_true] at h
    obtain ⟨h1, h2⟩ := h
    split at h2
    · rename_i q hp2 e2
      rw [Bool.and_eq_true] at h2
      have e := of_decide_eq_true h2.1
      subst e
      exact ⟨3000, 3000, r, hp1, hp2, xgf_xbr e1, xgf_xbr e2, xgB_eq h1, xgB_eq h2.2⟩
    · cases h2
  · cases h
theorem xgd_h2 (b : Bool) : xGd (xh2 b) := ⟨len_h2 b, by cases b <;> exact ⟨_, rfl⟩, by cases b <;> exact ⟨_, rfl⟩⟩
/-- calls that leave the heap -/
theorem xsy_al {b : Bool} {jx jm : Nat} {as : List Int32} {r : Int32} (h1 : xgn b 60 1000 jx (xh2 b) (.ref 0 :: as.map Value.int) = some (some (.int r), xh2 b)) (h2 : xgn b 60 1000 jm (xh2 b) (.ref 49 :: as.map Value.int) = some (some (.int r), xh2 b)) : xAl b jx jm (xh2 b) as := ⟨60, 60, r, xh2 b, xh2 b, xgn_xbr h1, xgn_xbr h2, xgd_h2 b, xgd_h2 b⟩
end
section
theorem eg_pf : xbg false 27 317 [.ref 0, .int 0] [.ref 49, .int 0] = true := by decide +kernel
end
section
theorem eg_pt : xbg true 27 317 [.ref 0, .int 0] [.ref 49, .int 0] = true := by decide +kernel
end
section
theorem eg_bf : xbg false 176 398 [.ref 0, .int 0] [.ref 49, .int 0] = true := by decide +kernel
end
section
theorem eg_bt : xbg true 176 398 [.ref 0, .int 0] [.ref 49, .int 0] = true := by decide +kernel
end
section
/-- the shapes with so many bytes on the two tapes -/
def xfl (t : Nat) : x_S → x_S
  | .inr (c, fs) => .inr (c, fs.set 1 (.int (Int32.ofNat t)))
  | s => s
def xsF (t u : Nat) : List x_S := (xsM.modify 0 (xfl t)).modify 49 (xfl u)
set_option maxRecDepth 100000 in
set_option maxHeartbeats 4000000 in
theorem pw_0 (b : Bool) (f : Nat) (w : Int32) (cI : Nat → Nat → Int32) (cL : Nat → Nat → Int64) : sOk (xgn b (f + 120) 999 26 (xmks (xsF 0 0) cI cL 0) [.ref 0, .int w]) (xsF 4 0) = true := by cases b <;> rfl
set_option maxRecDepth 100000 in
set_option maxHeartbeats 4000000 in
theorem pw_4 (b : Bool) (f : Nat) (w : Int32) (cI : Nat → Nat → Int32) (cL : Nat → Nat → Int64) : sOk (xgn b (f + 120) 999 26 (xmks (xsF 4 0) cI cL 0) [.ref 0, .int w]) (xsF 8 0) = true := by cases b <;> rfl
set_option maxRecDepth 100000 in
set_option maxHeartbeats 4000000 in
theorem pw_8 (b : Bool) (f : Nat) (w : Int32) (cI : Nat → Nat → Int32) (cL : Nat → Nat → Int64) : sOk (xgn b (f + 120) 999 26 (xmks (xsF 8 0) cI cL 0) [.ref 0, .int w]) (xsF 12 0) = true := by cases b <;> rfl
set_option maxRecDepth 100000 in
set_option maxHeartbeats 4000000 in
theorem pw_12 (b : Bool) (f : Nat) (w : Int32) (cI : Nat → Nat → Int32) (cL : Nat → Nat → Int64) : sOk (xgn b (f + 120) 999 26 (xmks (xsF 12 0) cI cL 0) [.ref 0, .int w]) (xsF 16 0) = true := by cases b <;> rfl
set_option maxRecDepth 100000 in
set_option maxHeartbeats 4000000 in
theorem pw_16 (b : Bool) (f : Nat) (w : Int32) (cI : Nat → Nat → Int32) (cL : Nat → Nat → Int64) : sOk (xgn b (f + 120) 999 26 (xmks (xsF 16 0) cI cL 0) [.ref 0, .int w]) (xsF 20 0) = true := by cases b <;> rfl
end
section
set_option maxRecDepth 100000 in
set_option maxHeartbeats 4000000 in
theorem ly_0 (b : Bool) (f : Nat) (w : Int32) (cI : Nat → Nat → Int32) (cL : Nat → Nat → Int64) : sOk (xgn b (f + 120) 999 316 (xmks (xsF 20 0) cI cL 0) [.ref 49, .int w]) (xsF 20 4) = true := by cases b <;> rfl
set_option maxRecDepth 100000 in
set_option maxHeartbeats 4000000 in
theorem ly_4 (b : Bool) (f : Nat) (w : Int32) (cI : Nat → Nat → Int32) (cL : Nat → Nat → Int64) : sOk (xgn b (f + 120) 999 316 (xmks (xsF 20 4) cI cL 0) [.ref 49, .int w]) (xsF 20 8) = true := by cases b <;> rfl
set_option maxRecDepth 100000 in
set_option maxHeartbeats 4000000 in
theorem ly_8 (b : Bool) (f : Nat) (w : Int32) (cI : Nat → Nat → Int32) (cL : Nat → Nat → Int64) : sOk (xgn b (f + 120) 999 316 (xmks (xsF 20 8) cI cL 0) [.ref 49, .int w]) (xsF 20 12) = true := by cases b <;> rfl
set_option maxRecDepth 100000 in
set_option maxHeartbeats 4000000 in
theorem ly_12 (b : Bool) (f : Nat) (w : Int32) (cI : Nat → Nat → Int32) (cL : Nat → Nat → Int64) : sOk (xgn b (f + 120) 999 316 (xmks (xsF 20 12) cI cL 0) [.ref 49, .int w]) (xsF 20 16) = true := by cases b <;> rfl
set_option maxRecDepth 100000 in
set_option maxHeartbeats 4000000 in
theorem ly_16 (b : Bool) (f : Nat) (w : Int32) (cI : Nat → Nat → Int32) (cL : Nat → Nat → Int64) : sOk (xgn b (f + 120) 999 316 (xmks (xsF 20 16) cI cL 0) [.ref 49, .int w]) (xsF 20 20) = true := by cases b <;> rfl
end
section
/-- a call, one step of nrun -/
theorem n_call {Z : x_T} {Y : x_Y} {DT : Nat → Nat → Option (Instr × Nat)} {f d j pc : Nat} {lv : List (Nat × Value)} {st : List Value} {hp : List x_E} {k n : Nat} {i : Instr} {ki idx kd j' : Nat} {M M' : x_M} {avs r : List Value} {rv : Option Value} {hp1 : List x_E} (hd : DT j pc = some (i, 3)) (hj : zM Z j = some M) (hg : gH i = gIn ki idx) (ho : xObj Z M ki idx = false) (hm : xMth Z M ki idx st = none) (hl : zL Z (xo M) idx = some (kd, j')) (hr : xReq Z Y M ki idx st hp = some (M', avs, r)) (hc : xChk M M' lv r avs hp k n = true) (hrun : nrun Z Y DT f d j' 0 (lv_args 0 avs) [] hp 0 0 = some (rv, hp1)) (hle : hp.length ≤ hp1.length) : nrun Z Y DT (f + 1) (d + 1) j pc lv st hp k n = nrun Z Y DT f (d + 1) j (pc + 3) lv (rv.toList ++ r) hp1 (k + xmc M') (n + xms M') := by
  conv => lhs; unfold nrun
  rw [fN_eq, hd]
  dsimp only
  rw [hj]
  dsimp only
  rw [hg]
  unfold gIn
  rw [if_pos rfl, if_neg (by rw [ho]; decide), hm]
  dsimp only
  rw [hl]
  dsimp only
  rw [hr]
  dsimp only
  rw [if_pos hc, hrun]
  dsimp only
  rw [if_pos hle, fN_eq, fN_eq]
end
section
theorem sF_ok {b : Bool} {f j : Nat} {hp : List x_E} {avs : List Value} {l : List x_S} (h : sOk (xgn b f 999 j hp avs) l = true) : ∃ cI cL, nrun xZ (xY (xfm b)) xDT f 999 j 0 (lv_args 0 avs) [] hp 0 0 = some (none, xmks l cI cL 0) := ⟨_, _, xr_eq h (xr_c _)⟩
theorem rq_v {Y : x_Y} {M : x_M} {o o' idx j' v : Nat} (hM : xo M = o) (hl : zL xZ o idx = some (0, j')) {y : MethodName} {cb : ByteArray} {n : Nat} {r : Option FieldType} {mc ms : Nat} (hj' : zM xZ j' = some (y, cb, n, r, o', 1, mc, ms)) {hp : List x_E} {fs : List Value} {w : Int32} (hh : hp[v]? = some (.inr (o', fs))) : xReq xZ Y M 0 idx [.int w, .ref v] hp = some ((y, cb, n, r, o', 1, mc, ms), [.ref v, .int w], []) := by
  unfold xReq
  rw [hM, hl]
  dsimp only
  rw [hj']
  dsimp only
  rw [show xSplit 1 [Value.int w, Value.ref v] = some ([Value.int w], [Value.ref v]) from rfl]
  dsimp only
  rw [if_neg (by decide), if_pos rfl, hh]
  dsimp only
  rw [if_pos ⟨rfl, rfl⟩]
/-- the locals of feed -/
def fl (v : Nat) (a1 a2 a3 a4 a5 : Int32) : List (Nat × Value) := [(0, .ref v), (1, .int a1), (2, .int a2), (3, .int a3), (4, .int a4), (5, .int a5)]
/-- a word of feed: the object, the word, the call -/
theorem f_w {b : Bool} {f j j' o idx v pc pc1 len : Nat} {S S' : List x_S} {ld : Instr} {w a1 a2 a3 a4 a5 : Int32} {y y' : MethodName} {cb cb' : ByteArray} {nl : Nat} {r r' : Option FieldType} (hj : zM xZ j = some (y, cb, nl, r, o, 5, 0, 0)) (hj' : zM xZ j' = some (y', cb', 3, r', o, 1, 0, 0)) (hl : zL xZ o idx = some (0, j')) (hc : ∀ cI cL, ∃ fs, (xmks S cI cL 0)[v]? = some (.inr (o, fs))) (hw : ∀ cI cL, sOk (xgn b (f + 120) 999 j' (xmks S cI cL 0) [.ref v, .int w]) S' = true) (d0 : xDT j pc = some (.aload_n 0, 1)) (d1 : xDT j (pc + 1) = some (ld, len)) (hg : gH ld = gPl ld) (hh : sH ld = hPl ld) (hs : ∀ cI cL, xs1F ld (zcl xZ) (y.name == "<init>") nl (zF xZ o) (zKc xZ o) (zKl xZ o) len (pc + 1) (fl v a1 a2 a3 a4 a5) [.ref v] (xmks S cI cL 0) = some (pc1, fl v a1 a2 a3 a4 a5, [.int w, .ref v], xmks S cI cL 0)) (d2 : xDT j pc1 = some (.invokevirtual idx, 3)) (hck : ∀ cI cL, xChk (y, cb, nl, r, o, 5, 0, 0) (y', cb', 3, r', o, 1, 0, 0) (fl v a1 a2 a3 a4 a5) [] [.ref v, .int w] (xmks S cI cL 0) 0 0 = true) (hlen : ∀ cI cL cI' cL', (xmks S cI cL 0).length ≤ (xmks S' cI' cL' 0).length) (cI : Nat → Nat → Int32) (cL : Nat → Nat → Int64) : ∃ cI' cL', nrun xZ (xY (xfm b)) xDT (f + 123) 1000 j pc (fl v a1 a2 a3 a4 a5) [] (xmks S cI cL 0) 0 0 = nrun xZ (xY (xfm b)) xDT (f + 120) 1000 j (pc1 + 3) (fl v a1 a2 a3 a4 a5) [] (xmks S' cI' cL' 0) 0 0 := by
  obtain ⟨c1, c2, h⟩ := sF_ok (hw cI cL)
  obtain ⟨fs, hfs⟩ := hc cI cL
  refine ⟨c1, c2, ?_⟩
  rw [n_step (f := f + 122) (i := .aload_n 0) (len := 1) (pc' := pc + 1) (lv' := fl v a1 a2 a3 a4 a5) (st' := [.ref v]) (hp' := xmks S cI cL 0) d0 hj rfl rfl rfl]
  rw [n_step (f := f + 121) (i := ld) (len := len) (pc' := pc1) (lv' := fl v a1 a2 a3 a4 a5) (st' := [.int w, .ref v]) (hp' := xmks S cI cL 0) d1 hj hg hh (hs cI cL)]
  exact n_call (f := f + 120) (d := 999) (i := .invokevirtual idx) (ki := 0) (idx := idx) (M' := (y', cb', 3, r', o, 1, 0, 0)) (avs := [.ref v, .int w]) (r := []) (rv := none) d2 hj rfl rfl rfl hl (rq_v rfl hl hj' hfs) (hck cI cL) h (hlen cI cL c1 c2)
theorem mj_25 : ∃ y b n r, zM xZ 25 = some (y, b, n, r, 0, 5, 0, 0) := ⟨_, _, _, _, rfl⟩
theorem mj_26 : ∃ y b r, zM xZ 26 = some (y, b, 3, r, 0, 1, 0, 0) := ⟨_, _, _, rfl⟩
theorem mj_315 : ∃ y b n r, zM xZ 315 = some (y, b, n, r, 12, 5, 0, 0) := ⟨_, _, _, _, rfl⟩
theorem mj_316 : ∃ y b r, zM xZ 316 = some (y, b, 3, r, 12, 1, 0, 0) := ⟨_, _, _, rfl⟩
theorem sF_00 : xsF 0 0 = xsM := rfl
end
section
set_option maxRecDepth 100000 in
set_option maxHeartbeats 4000000 in
theorem fd_x0 (b : Bool) (f : Nat) (a1 a2 a3 a4 a5 : Int32) (cI : Nat → Nat → Int32) (cL : Nat → Nat → Int64) : nrun xZ (xY (xfm b)) xDT (f + 4) 1000 25 0 (fl 0 a1 a2 a3 a4 a5) [] (xmks (xsF 0 0) cI cL 0) 0 0 = nrun xZ (xY (xfm b)) xDT f 1000 25 12 (fl 0 a1 a2 a3 a4 a5) [] (xmks (xsF 0 0) cI cL 0) 0 0 := by
  obtain ⟨y, cb, nl, r, hj⟩ := mj_25
  rw [n_step (f := f + 3) (st' := [.ref 0]) (pc' := 1) (lv' := fl 0 a1 a2 a3 a4 a5) (hp' := xmks (xsF 0 0) cI cL 0) (i := .aload_n 0) (len := 1) rfl hj rfl rfl rfl]
  rw [n_get (f := f + 2) (st' := [.int 0]) (pc' := 4) (lv' := fl 0 a1 a2 a3 a4 a5) (hp' := xmks (xsF 0 0) cI cL 0) (i := .getfield 96) (len := 3) rfl hj rfl rfl rfl rfl]
  rw [n_step (f := f + 1) (st' := [.int ((Int16.ofInt 5980).toInt32), .int 0]) (pc' := 7) (lv' := fl 0 a1 a2 a3 a4 a5) (hp' := xmks (xsF 0 0) cI cL 0) (i := .sipush 5980) (len := 3) rfl hj rfl rfl rfl]
  rw [n_step (f := f) (st' := []) (pc' := 12) (lv' := fl 0 a1 a2 a3 a4 a5) (hp' := xmks (xsF 0 0) cI cL 0) (i := .if_icmp .le 5) (len := 3) rfl hj rfl rfl rfl]
set_option maxRecDepth 100000 in
set_option maxHeartbeats 4000000 in
theorem fd_x1 (b : Bool) (f : Nat) (a1 a2 a3 a4 a5 : Int32) (cI : Nat → Nat → Int32) (cL : Nat → Nat → Int64) : ∃ cI' cL', nrun xZ (xY (xfm b)) xDT (f + 123) 1000 25 12 (fl 0 a1 a2 a3 a4 a5) [] (xmks (xsF 0 0) cI cL 0) 0 0 = nrun xZ (xY (xfm b)) xDT (f + 120) 1000 25 17 (fl 0 a1 a2 a3 a4 a5) [] (xmks (xsF 4 0) cI' cL' 0) 0 0 := by
  obtain ⟨y, cb, nl, r, hj⟩ := mj_25
  obtain ⟨y', cb', r', hj'⟩ := mj_26
  exact f_w (ld := .iload_n 1) (len := 1) (pc1 := 14) (idx := 100) (w := a1) hj hj' rfl (fun _ _ => ⟨_, rfl⟩) (fun c e => pw_0 b f a1 c e) rfl rfl rfl rfl (fun _ _ => rfl) rfl (fun _ _ => rfl) (fun _ _ _ _ => Nat.le_of_ble_eq_true rfl) cI cL
set_option maxRecDepth 100000 in
set_option maxHeartbeats 4000000 in
theorem fd_x2 (b : Bool) (f : Nat) (a1 a2 a3 a4 a5 : Int32) (cI : Nat → Nat → Int32) (cL : Nat → Nat → Int64) : ∃ cI' cL', nrun xZ (xY (xfm b)) xDT (f + 123) 1000 25 17 (fl 0 a1 a2 a3 a4 a5) [] (xmks (xsF 4 0) cI cL 0) 0 0 = nrun xZ (xY (xfm b)) xDT (f + 120) 1000 25 22 (fl 0 a1 a2 a3 a4 a5) [] (xmks (xsF 8 0) cI' cL' 0) 0 0 := by
  obtain ⟨y, cb, nl, r, hj⟩ := mj_25
  obtain ⟨y', cb', r', hj'⟩ := mj_26
  exact f_w (ld := .iload_n 2) (len := 1) (pc1 := 19) (idx := 100) (w := a2) hj hj' rfl (fun _ _ => ⟨_, rfl⟩) (fun c e => pw_4 b f a2 c e) rfl rfl rfl rfl (fun _ _ => rfl) rfl (fun _ _ => rfl) (fun _ _ _ _ => Nat.le_of_ble_eq_true rfl) cI cL
set_option maxRecDepth 100000 in
set_option maxHeartbeats 4000000 in
theorem fd_x3 (b : Bool) (f : Nat) (a1 a2 a3 a4 a5 : Int32) (cI : Nat → Nat → Int32) (cL : Nat → Nat → Int64) : ∃ cI' cL', nrun xZ (xY (xfm b)) xDT (f + 123) 1000 25 22 (fl 0 a1 a2 a3 a4 a5) [] (xmks (xsF 8 0) cI cL 0) 0 0 = nrun xZ (xY (xfm b)) xDT (f + 120) 1000 25 27 (fl 0 a1 a2 a3 a4 a5) [] (xmks (xsF 12 0) cI' cL' 0) 0 0 := by
  obtain ⟨y, cb, nl, r, hj⟩ := mj_25
  obtain ⟨y', cb', r', hj'⟩ := mj_26
  exact f_w (ld := .iload_n 3) (len := 1) (pc1 := 24) (idx := 100) (w := a3) hj hj' rfl (fun _ _ => ⟨_, rfl⟩) (fun c e => pw_8 b f a3 c e) rfl rfl rfl rfl (fun _ _ => rfl) rfl (fun _ _ => rfl) (fun _ _ _ _ => Nat.le_of_ble_eq_true rfl) cI cL
set_option maxRecDepth 100000 in
set_option maxHeartbeats 4000000 in
theorem fd_x4 (b : Bool) (f : Nat) (a1 a2 a3 a4 a5 : Int32) (cI : Nat → Nat → Int32) (cL : Nat → Nat → Int64) : ∃ cI' cL', nrun xZ (xY (xfm b)) xDT (f + 123) 1000 25 27 (fl 0 a1 a2 a3 a4 a5) [] (xmks (xsF 12 0) cI cL 0) 0 0 = nrun xZ (xY (xfm b)) xDT (f + 120) 1000 25 33 (fl 0 a1 a2 a3 a4 a5) [] (xmks (xsF 16 0) cI' cL' 0) 0 0 := by
  obtain ⟨y, cb, nl, r, hj⟩ := mj_25
  obtain ⟨y', cb', r', hj'⟩ := mj_26
  exact f_w (ld := .iload 4) (len := 2) (pc1 := 30) (idx := 100) (w := a4) hj hj' rfl (fun _ _ => ⟨_, rfl⟩) (fun c e => pw_12 b f a4 c e) rfl rfl rfl rfl (fun _ _ => rfl) rfl (fun _ _ => rfl) (fun _ _ _ _ => Nat.le_of_ble_eq_true rfl) cI cL
set_option maxRecDepth 100000 in
set_option maxHeartbeats 4000000 in
theorem fd_x5 (b : Bool) (f : Nat) (a1 a2 a3 a4 a5 : Int32) (cI : Nat → Nat → Int32) (cL : Nat → Nat → Int64) : ∃ cI' cL', nrun xZ (xY (xfm b)) xDT (f + 123) 1000 25 33 (fl 0 a1 a2 a3 a4 a5) [] (xmks (xsF 16 0) cI cL 0) 0 0 = nrun xZ (xY (xfm b)) xDT (f + 120) 1000 25 39 (fl 0 a1 a2 a3 a4 a5) [] (xmks (xsF 20 0) cI' cL' 0) 0 0 := by
  obtain ⟨y, cb, nl, r, hj⟩ := mj_25
  obtain ⟨y', cb', r', hj'⟩ := mj_26
  exact f_w (ld := .iload 5) (len := 2) (pc1 := 36) (idx := 100) (w := a5) hj hj' rfl (fun _ _ => ⟨_, rfl⟩) (fun c e => pw_16 b f a5 c e) rfl rfl rfl rfl (fun _ _ => rfl) rfl (fun _ _ => rfl) (fun _ _ _ _ => Nat.le_of_ble_eq_true rfl) cI cL
set_option maxRecDepth 100000 in
set_option maxHeartbeats 4000000 in
theorem fd_xe (b : Bool) (f : Nat) (a1 a2 a3 a4 a5 : Int32) (hp : List x_E) : nrun xZ (xY (xfm b)) xDT (f + 2) 1000 25 39 (fl 0 a1 a2 a3 a4 a5) [] hp 0 0 = some (some (.int 1), hp) := rfl
end
section
set_option maxRecDepth 100000 in
set_option maxHeartbeats 4000000 in
theorem fd_m0 (b : Bool) (f : Nat) (a1 a2 a3 a4 a5 : Int32) (cI : Nat → Nat → Int32) (cL : Nat → Nat → Int64) : nrun xZ (xY (xfm b)) xDT (f + 6) 1000 315 0 (fl 49 a1 a2 a3 a4 a5) [] (xmks (xsF 20 0) cI cL 0) 0 0 = nrun xZ (xY (xfm b)) xDT f 1000 315 15 (fl 49 a1 a2 a3 a4 a5) [] (xmks (xsF 20 0) cI cL 0) 0 0 := by
  obtain ⟨y, cb, nl, r, hj⟩ := mj_315
  rw [n_step (f := f + 5) (st' := [.ref 49]) (pc' := 1) (lv' := fl 49 a1 a2 a3 a4 a5) (hp' := xmks (xsF 20 0) cI cL 0) (i := .aload_n 0) (len := 1) rfl hj rfl rfl rfl]
  rw [n_get (f := f + 4) (st' := [.int 0]) (pc' := 4) (lv' := fl 49 a1 a2 a3 a4 a5) (hp' := xmks (xsF 20 0) cI cL 0) (i := .getfield 237) (len := 3) rfl hj rfl rfl rfl rfl]
  rw [n_step (f := f + 3) (st' := [.int 20, .int 0]) (pc' := 6) (lv' := fl 49 a1 a2 a3 a4 a5) (hp' := xmks (xsF 20 0) cI cL 0) (i := .bipush 20) (len := 2) rfl hj rfl rfl rfl]
  rw [n_step (f := f + 2) (st' := [.int 20]) (pc' := 7) (lv' := fl 49 a1 a2 a3 a4 a5) (hp' := xmks (xsF 20 0) cI cL 0) (i := .iadd) (len := 1) rfl hj rfl rfl rfl]
  rw [n_step (f := f + 1) (st' := [.int ((Int16.ofInt 6000).toInt32), .int 20]) (pc' := 10) (lv' := fl 49 a1 a2 a3 a4 a5) (hp' := xmks (xsF 20 0) cI cL 0) (i := .sipush 6000) (len := 3) rfl hj rfl rfl rfl]
  rw [n_step (f := f) (st' := []) (pc' := 15) (lv' := fl 49 a1 a2 a3 a4 a5) (hp' := xmks (xsF 20 0) cI cL 0) (i := .if_icmp .le 5) (len := 3) rfl hj rfl rfl rfl]
set_option maxRecDepth 100000 in
set_option maxHeartbeats 4000000 in
theorem fd_m1 (b : Bool) (f : Nat) (a1 a2 a3 a4 a5 : Int32) (cI : Nat → Nat → Int32) (cL : Nat → Nat → Int64) : ∃ cI' cL', nrun xZ (xY (xfm b)) xDT (f + 123) 1000 315 15 (fl 49 a1 a2 a3 a4 a5) [] (xmks (xsF 20 0) cI cL 0) 0 0 = nrun xZ (xY (xfm b)) xDT (f + 120) 1000 315 20 (fl 49 a1 a2 a3 a4 a5) [] (xmks (xsF 20 4) cI' cL' 0) 0 0 := by
  obtain ⟨y, cb, nl, r, hj⟩ := mj_315
  obtain ⟨y', cb', r', hj'⟩ := mj_316
  exact f_w (ld := .iload_n 1) (len := 1) (pc1 := 17) (idx := 240) (w := a1) hj hj' rfl (fun _ _ => ⟨_, rfl⟩) (fun c e => ly_0 b f a1 c e) rfl rfl rfl rfl (fun _ _ => rfl) rfl (fun _ _ => rfl) (fun _ _ _ _ => Nat.le_of_ble_eq_true rfl) cI cL
set_option maxRecDepth 100000 in
set_option maxHeartbeats 4000000 in
theorem fd_m2 (b : Bool) (f : Nat) (a1 a2 a3 a4 a5 : Int32) (cI : Nat → Nat → Int32) (cL : Nat → Nat → Int64) : ∃ cI' cL', nrun xZ (xY (xfm b)) xDT (f + 123) 1000 315 20 (fl 49 a1 a2 a3 a4 a5) [] (xmks (xsF 20 4) cI cL 0) 0 0 = nrun xZ (xY (xfm b)) xDT (f + 120) 1000 315 25 (fl 49 a1 a2 a3 a4 a5) [] (xmks (xsF 20 8) cI' cL' 0) 0 0 := by
  obtain ⟨y, cb, nl, r, hj⟩ := mj_315
  obtain ⟨y', cb', r', hj'⟩ := mj_316
  exact f_w (ld := .iload_n 2) (len := 1) (pc1 := 22) (idx := 240) (w := a2) hj hj' rfl (fun _ _ => ⟨_, rfl⟩) (fun c e => ly_4 b f a2 c e) rfl rfl rfl rfl (fun _ _ => rfl) rfl (fun _ _ => rfl) (fun _ _ _ _ => Nat.le_of_ble_eq_true rfl) cI cL
set_option maxRecDepth 100000 in
set_option maxHeartbeats 4000000 in
theorem fd_m3 (b : Bool) (f : Nat) (a1 a2 a3 a4 a5 : Int32) (cI : Nat → Nat → Int32) (cL : Nat → Nat → Int64) : ∃ cI' cL', nrun xZ (xY (xfm b)) xDT (f + 123) 1000 315 25 (fl 49 a1 a2 a3 a4 a5) [] (xmks (xsF 20 8) cI cL 0) 0 0 = nrun xZ (xY (xfm b)) xDT (f + 120) 1000 315 30 (fl 49 a1 a2 a3 a4 a5) [] (xmks (xsF 20 12) cI' cL' 0) 0 0 := by
  obtain ⟨y, cb, nl, r, hj⟩ := mj_315
  obtain ⟨y', cb', r', hj'⟩ := mj_316
  exact f_w (ld := .iload_n 3) (len := 1) (pc1 := 27) (idx := 240) (w := a3) hj hj' rfl (fun _ _ => ⟨_, rfl⟩) (fun c e => ly_8 b f a3 c e) rfl rfl rfl rfl (fun _ _ => rfl) rfl (fun _ _ => rfl) (fun _ _ _ _ => Nat.le_of_ble_eq_true rfl) cI cL
set_option maxRecDepth 100000 in
set_option maxHeartbeats 4000000 in
theorem fd_m4 (b : Bool) (f : Nat) (a1 a2 a3 a4 a5 : Int32) (cI : Nat → Nat → Int32) (cL : Nat → Nat → Int64) : ∃ cI' cL', nrun xZ (xY (xfm b)) xDT (f + 123) 1000 315 30 (fl 49 a1 a2 a3 a4 a5) [] (xmks (xsF 20 12) cI cL 0) 0 0 = nrun xZ (xY (xfm b)) xDT (f + 120) 1000 315 36 (fl 49 a1 a2 a3 a4 a5) [] (xmks (xsF 20 16) cI' cL' 0) 0 0 := by
  obtain ⟨y, cb, nl, r, hj⟩ := mj_315
  obtain ⟨y', cb', r', hj'⟩ := mj_316
  exact f_w (ld := .iload 4) (len := 2) (pc1 := 33) (idx := 240) (w := a4) hj hj' rfl (fun _ _ => ⟨_, rfl⟩) (fun c e => ly_12 b f a4 c e) rfl rfl rfl rfl (fun _ _ => rfl) rfl (fun _ _ => rfl) (fun _ _ _ _ => Nat.le_of_ble_eq_true rfl) cI cL
set_option maxRecDepth 100000 in
set_option maxHeartbeats 4000000 in
theorem fd_m5 (b : Bool) (f : Nat) (a1 a2 a3 a4 a5 : Int32) (cI : Nat → Nat → Int32) (cL : Nat → Nat → Int64) : ∃ cI' cL', nrun xZ (xY (xfm b)) xDT (f + 123) 1000 315 36 (fl 49 a1 a2 a3 a4 a5) [] (xmks (xsF 20 16) cI cL 0) 0 0 = nrun xZ (xY (xfm b)) xDT (f + 120) 1000 315 42 (fl 49 a1 a2 a3 a4 a5) [] (xmks (xsF 20 20) cI' cL' 0) 0 0 := by
  obtain ⟨y, cb, nl, r, hj⟩ := mj_315
  obtain ⟨y', cb', r', hj'⟩ := mj_316
  exact f_w (ld := .iload 5) (len := 2) (pc1 := 39) (idx := 240) (w := a5) hj hj' rfl (fun _ _ => ⟨_, rfl⟩) (fun c e => ly_16 b f a5 c e) rfl rfl rfl rfl (fun _ _ => rfl) rfl (fun _ _ => rfl) (fun _ _ _ _ => Nat.le_of_ble_eq_true rfl) cI cL
set_option maxRecDepth 100000 in
set_option maxHeartbeats 4000000 in
theorem fd_me (b : Bool) (f : Nat) (a1 a2 a3 a4 a5 : Int32) (hp : List x_E) : nrun xZ (xY (xfm b)) xDT (f + 2) 1000 315 42 (fl 49 a1 a2 a3 a4 a5) [] hp 0 0 = some (some (.int 1), hp) := rfl
end
section
theorem sy_feed_x (b : Bool) (a1 a2 a3 a4 a5 : Int32) (cI : Nat → Nat → Int32) (cL : Nat → Nat → Int64) : ∃ cI' cL', nrun xZ (xY (xfm b)) xDT 500 1000 25 0 (fl 0 a1 a2 a3 a4 a5) [] (xmks (xsF 0 0) cI cL 0) 0 0 = some (some (.int 1), xmks (xsF 20 0) cI' cL' 0) := by
  obtain ⟨c1, e1, h1⟩ := fd_x1 b 373 a1 a2 a3 a4 a5 cI cL
  obtain ⟨c2, e2, h2⟩ := fd_x2 b 370 a1 a2 a3 a4 a5 c1 e1
  obtain ⟨c3, e3, h3⟩ := fd_x3 b 367 a1 a2 a3 a4 a5 c2 e2
  obtain ⟨c4, e4, h4⟩ := fd_x4 b 364 a1 a2 a3 a4 a5 c3 e3
  obtain ⟨c5, e5, h5⟩ := fd_x5 b 361 a1 a2 a3 a4 a5 c4 e4
  exact ⟨c5, e5, (fd_x0 b 496 a1 a2 a3 a4 a5 cI cL).trans (h1.trans (h2.trans (h3.trans (h4.trans (h5.trans (fd_xe b 479 a1 a2 a3 a4 a5 _))))))⟩
theorem sy_feed_m (b : Bool) (a1 a2 a3 a4 a5 : Int32) (cI : Nat → Nat → Int32) (cL : Nat → Nat → Int64) : ∃ cI' cL', nrun xZ (xY (xfm b)) xDT 500 1000 315 0 (fl 49 a1 a2 a3 a4 a5) [] (xmks (xsF 20 0) cI cL 0) 0 0 = some (some (.int 1), xmks (xsF 20 20) cI' cL' 0) := by
  obtain ⟨c1, e1, h1⟩ := fd_m1 b 371 a1 a2 a3 a4 a5 cI cL
  obtain ⟨c2, e2, h2⟩ := fd_m2 b 368 a1 a2 a3 a4 a5 c1 e1
  obtain ⟨c3, e3, h3⟩ := fd_m3 b 365 a1 a2 a3 a4 a5 c2 e2
  obtain ⟨c4, e4, h4⟩ := fd_m4 b 362 a1 a2 a3 a4 a5 c3 e3
  obtain ⟨c5, e5, h5⟩ := fd_m5 b 359 a1 a2 a3 a4 a5 c4 e4
  exact ⟨c5, e5, (fd_m0 b 494 a1 a2 a3 a4 a5 cI cL).trans (h1.trans (h2.trans (h3.trans (h4.trans (h5.trans (fd_me b 477 a1 a2 a3 a4 a5 _))))))⟩
set_option maxRecDepth 100000 in
theorem xgd_F (t u : Nat) (cI : Nat → Nat → Int32) (cL : Nat → Nat → Int64) : xGd (xmks (xsF t u) cI cL 0) := ⟨rfl, ⟨_, rfl⟩, ⟨_, rfl⟩⟩
theorem al_feed (b : Bool) (a1 a2 a3 a4 a5 : Int32) : xAl b 25 315 (xh2 b) [a1, a2, a3, a4, a5] := by
  obtain ⟨c1, e1, h1⟩ := sy_feed_x b a1 a2 a3 a4 a5 (xrI (xr2 b)) (xrL (xr2 b))
  obtain ⟨c2, e2, h2⟩ := sy_feed_m b a1 a2 a3 a4 a5 c1 e1
  have h3 : xgn b 500 1000 25 (xh2 b) [.ref 0, .int a1, .int a2, .int a3, .int a4, .int a5] = some (some (.int 1), xmks (xsF 20 0) c1 e1 0) := by
    unfold xh2
    rw [← sF_00]
    exact h1
  have h4 : xgn b 500 1000 315 (xmks (xsF 20 0) c1 e1 0) [.ref 49, .int a1, .int a2, .int a3, .int a4, .int a5] = some (some (.int 1), xmks (xsF 20 20) c2 e2 0) := h2
  exact ⟨500, 500, 1, _, _, xgn_xbr h3, xgn_xbr h4, xgd_F 20 0 c1 e1, xgd_F 20 20 c2 e2⟩
end
section
/-! the first call on the two new objects: p1's law as it stands, and whole's first step -/
theorem ln0 {as : List Int32} (h : as.length = 0) : as = [] := by
  cases as with
  | nil => rfl
  | cons a r => simp at h
theorem ln1 {as : List Int32} (h : as.length = 1) : ∃ a, as = [a] := by
  cases as with
  | nil => simp at h
  | cons a r => exact ⟨a, by rw [ln0 (as := r) (by simpa using h)]⟩
theorem ln2 {as : List Int32} (h : as.length = 2) : ∃ a b, as = [a, b] := by
  cases as with
  | nil => simp at h
  | cons a r =>
    obtain ⟨b, rfl⟩ := ln1 (as := r) (by simpa using h)
    exact ⟨a, b, rfl⟩
theorem ln5 {as : List Int32} (h : as.length = 5) : ∃ a b c d e, as = [a, b, c, d, e] := by
  cases as with
  | nil => simp at h
  | cons a r => cases r with
    | nil => simp at h
    | cons b r => cases r with
      | nil => simp at h
      | cons c r =>
        obtain ⟨d, e, rfl⟩ := ln2 (as := r) (by simpa using h)
        exact ⟨a, b, c, d, e, rfl⟩
theorem al_prog (z : Bool) (n : Int32) : xAl z 27 317 (xh2 z) [n] := by
  by_cases h : n = 0
  · subst h
    cases z
    · exact xbg_al (as := [0]) eg_pf
    · exact xbg_al (as := [0]) eg_pt
  · exact xsy_al (as := [n]) (sy_prog_x z n h) (sy_prog_m z n h)
theorem al_blocks (z : Bool) (n : Int32) : xAl z 176 398 (xh2 z) [n] := by
  by_cases h : n = 0
  · subst h
    cases z
    · exact xbg_al (as := [0]) eg_bf
    · exact xbg_al (as := [0]) eg_bt
  · exact xsy_al (as := [n]) (sy_blocks_x z n h) (sy_blocks_m z n h)
theorem al_count (z : Bool) (w : Int32) : xAl z 302 462 (xh2 z) [w] := by
  by_cases h : w.toInt < 0 ∨ 6 < w.toInt
  · exact xsy_al (as := [w]) (sy_count_x_d z w h) (sy_count_m_d z w h)
  · have hk : w.toInt.toNat < 7 := by omega
    have e : w = nI w.toInt.toNat := by
      apply Int32.toInt_inj.mp
      rw [nI_toInt (by omega)]
      omega
    rw [e]
    exact xsy_al (as := [nI w.toInt.toNat]) (sy_count_x_k z _ hk) (sy_count_m_k z _ hk)
theorem al_all (z : Bool) (q : Nat × Nat × Nat) (hq : q ∈ xCalls) (as : List Int32) (hla : as.length = q.2.2) : xAl z q.1 q.2.1 (xh2 z) as := by
  simp only [xCalls, List.mem_cons, List.not_mem_nil, or_false] at hq
  rcases hq with rfl | rfl | rfl | rfl | rfl | rfl | rfl | rfl | rfl | rfl | rfl | rfl
  · obtain ⟨a, b, c, d, e, rfl⟩ := ln5 hla
    exact al_feed z a b c d e
  · obtain ⟨n, rfl⟩ := ln1 hla
    exact al_prog z n
  · obtain ⟨n, rfl⟩ := ln1 hla
    exact al_blocks z n
  · have e := ln0 hla
    subst e
    exact xsy_al (as := []) (sy_place_x z) (sy_place_m z)
  · obtain ⟨n, rfl⟩ := ln1 hla
    exact xsy_al (as := [n]) (sy_kind_x z n) (sy_kind_m z n)
  · obtain ⟨n, rfl⟩ := ln1 hla
    exact xsy_al (as := [n]) (sy_code_x z n) (sy_code_m z n)
  · obtain ⟨n, rfl⟩ := ln1 hla
    exact xsy_al (as := [n]) (sy_label_x z n) (sy_label_m z n)
  · obtain ⟨f, h, rfl⟩ := ln2 hla
    exact xsy_al (as := [f, h]) (sy_run_x z f h) (sy_run_m z f h)
  · have e := ln0 hla
    subst e
    exact xsy_al (as := []) (sy_value_x z) (sy_value_m z)
  · obtain ⟨n, rfl⟩ := ln1 hla
    exact al_count z n
  · obtain ⟨n, rfl⟩ := ln1 hla
    exact xsy_al (as := [n]) (sy_register_x z n) (sy_register_m z n)
  · obtain ⟨n, rfl⟩ := ln1 hla
    exact xsy_al (as := [n]) (sy_heap_x z n) (sy_heap_m z n)
/-- what is kept over one call -/
def xI1 (z : Bool) (i : Nat) (hp : List x_E) : Prop := xGd hp ∧ (i = 0 → hp = xh2 z)
theorem xI1_step (z : Bool) : xStep z 6 (xI1 z) := by
  intro i hp hi hI q hq as hla
  have i0 : i = 0 := by omega
  subst i0
  have e := hI.2 rfl
  subst e
  obtain ⟨f, f2, r, hp1, hp2, h1, h2, g1, g2⟩ := al_all z q hq as hla
  exact ⟨f, f2, r, hp1, hp2, h1, h2, g1, g2, g2, fun h => absurd h (Nat.succ_ne_zero 0)⟩
end
section
/-- from the entry, for every script of at most 6 ints, the law comes to its end with true -/
theorem whole_start {p : Program} {e : Env} {s : State} {m : MethodId} {below : List Frame} {meth : Method} {c : Code} (l : Launch) {b L : Nat} {xs : Nat → Int32} (hL : L ≤ 6) (C0 : lw_At p s m meth c b L xs) : W p l e room_1 s m #[Value.ref b] below meth c s.heap [] 0 0 (lw_Z below #[Value.ref b] s) (entryFrame m ([Value.ref b] : List Value).toArray 4) :=
  whole_of l hL (by decide) C0 (Inv := xI1) (fun z => ⟨xgd_h2 z, fun _ => rfl⟩) xI1_step (fun _ i _ h => ⟨h.1, fun h => absurd h (Nat.succ_ne_zero i)⟩) (fun _ _ _ h => h.1)
set_option maxHeartbeats 4000000 in
theorem lw_walk (l : Launch) (b : Addr) (xs : List Int32) : MetFree l x (headSpec (Jvm.Cond.code x code maxLocals ret :: tables_1) room_1) (lw_P b xs) (fun _ _ _ _ _ => True) lw_Q := by
  refine MetFree.of_bodyS (code := code) (maxLocals := maxLocals) (ret := ret) (by decide) ?_ ?_
  · intro args s m h hn
    obtain ⟨meth, c, h1, h2, h3, h4, h5, h6, -, -⟩ := Cond.code_spec hn (atoms_spec (ws := Jvm.Cond.code x code maxLocals ret :: tables_1) h _ List.mem_cons_self)
    exact ⟨meth, c, h1, h2, h3, h4, h5, h6⟩
  · intro p e s m args below meth c s₁ B hml0 hP _
    obtain ⟨rfl, hx, hbd, hgv⟩ := hP
    obtain ⟨scr, harrAt, hlist, hof, hsmall⟩ := hx
    obtain ⟨hcb, hkn, -, -⟩ := State.arrayAt?_spec harrAt
    have hown : s.vm.findClass R_law = some m.cls := findClass_of_methodNamed B.named
    have hts0 : ∀ c ∈ (Jvm.Cond.code x code maxLocals ret :: tables_1), c.before #[Value.ref b] s = true := atoms_spec (ws := Jvm.Cond.code x code maxLocals ret :: tables_1) B.pre
    have hts : ∀ w ∈ lw_tbl, w.before #[Value.ref b] s = true := k2_hts_sels lw_privs (fun w hw => hts0 w (List.mem_cons_of_mem _ hw)) lw_privs_ok
    have hml : c.maxLocals = 4 := B.maxLocals_eq (hts0 _ List.mem_cons_self)
    have X₀ : Stand p l e room_1 s m #[Value.ref b] below meth c s₁ [] 0 0 := Stand.of_body B
    have hh0 : s₁.heap = s.heap := by rw [B.state]; rfl
    have hsz : scr.slots.size = xs.length := by rw [← Array.length_toList, hlist, List.length_map]
    have hval : ∀ j : Nat, j < xs.length → scr.slots[j]? = some (.int (xs.getD j 0)) := fun j hj => by
      rw [← Array.getElem?_toList, hlist]
      simp [hj]
    have hbl : b < s.heap.size := (Array.getElem?_eq_some_iff.mp hcb).1
    have hX : va_X b xs.length (fun j => xs.getD j 0) s s.heap := ⟨scr, hcb, hof, hkn, hsz, hval⟩
    have K : W p l e room_1 s m #[Value.ref b] below meth c s₁.heap [] 0 0 (lw_Z below #[Value.ref b] s) (entryFrame m ([Value.ref b] : List Value).toArray 4) := by
      rw [hh0]
      exact whole_start l hbd ⟨B.exec, B.bytes, B.returns, hml, hown, hts, hX, hbl, B.notSynchronized, hgv⟩
    obtain ⟨t, a1, o, b1, b2, b3⟩ := K s₁ rfl X₀
    exact ⟨t, o, a1, b1, b2, b3⟩
theorem lw_pre_spec {args : Array Value} {s : State} (h : (Jvm.Cond.and given_1 narrow_1).before args s = true) (hr : rest_1_c.before args s = true) : ∃ (b : Addr) (xs : List Int32), lw_P b xs args s := by
  have hs := flat_of_before _ h
  have hq := flat_of_before _ hr
  have hc : (Cond.count 1).before args s = true := hs _ (by decide +kernel)
  have harr : (Cond.arrayOf (.arg 0) .int).before args s = true := hs _ (by decide +kernel)
  have hle : (Cond.le (.length (.arg 0)) (.int 6)).before args s = true := hs _ (by decide +kernel)
  have hlen : (Cond.isInt (.length (.arg 0))).before args s = true := hq _ (by decide +kernel)
  have hall : (Cond.all (.arg 0) (.isInt (.elem (.arg 0) (.index 0)))).before args s = true := hq _ (by decide +kernel)
  obtain ⟨b, xs, hb, hx⟩ := State.ints_of_pre rfl harr hlen hall
  have hsm : xs.length < 2 ^ 31 := hx.choose_spec.2.2.2
  have hev : (Term.length (.arg 0)).eval args s none [] s = some (.int xs.length.toInt32) := hx.length_eval hb
  have hv := Cond.le_ints hev (show (Term.int 6).eval args s none [] s = some (.int 6) from rfl)
  have hd : xs.length.toInt32 ≤ 6 := by
    simpa [Cond.before, Cond.holds, hv] using hle
  have hN : xs.length ≤ 6 := (Int32.ofNat_le_ofNat hsm (by decide)).mp (show Int32.ofNat xs.length ≤ Int32.ofNat 6 from hd)
  exact ⟨b, xs, Cond.one_arg hc (show args[0]? = some (.ref b) from hb), hx, hN, h⟩
theorem lw_comes (l : Launch) : Comes l x (Jvm.Cond.code x code maxLocals ret :: tables_1) room_1 (fun tb e args s => Calls_1 tb e args s ∧ rest_1 tb e args s ∧ Pre_1 tb e args s)
    (fun _ _ args s o t => lw_Q args s o t) := by
  intro p e ha hc hk s m args below hf hfit hheap happ hpre
  obtain ⟨b, xs, hP⟩ := lw_pre_spec hpre.2.2 hpre.2.1
  obtain ⟨k, o, h1, h2, h3, hQ⟩ := lw_walk l b xs p e ha hc hk s m args below hf ((Spec.applies_iff_loose hf).mp happ).1 hP trivial
  exact ⟨k, o, h1, h2, h3, hQ⟩
theorem lw_frame {s t : State} {o : Outcome} {args : Array Value} (h : Framed s o t [] 600000 7302249) :
    Framed s o t (fieldLocs frame_1_writes args s ++ arrayLocs frame_1_arrays args s ++ staticLocs frame_1_statics s) 600000 7302249 := h
theorem lw_limb (L : Cond) (hL : ∀ (args : Array Value) (s t : State), L.after args s (.returned (some (.int 1))) t = true) :
    ArmFor flags0 classFile x code maxLocals ret World_1 tables_1 room_1 Calls_1 rest_1 Pre_1
      (fun tb e a s o t => postC L tb e a s o t ∧ Framed s o t (fieldLocs frame_1_writes a s ++ arrayLocs frame_1_arrays a s ++ staticLocs frame_1_statics s) 600000 7302249) := by
  intro l _ _ _ p e ha hc hk s m args below hf hfit hheap happ hpre
  obtain ⟨k, o, h1, h2, h3, rfl, hF⟩ := lw_comes l p e ha hc hk s m args below hf hfit hheap happ hpre
  exact ⟨k, _, h1, h2, h3, hL args s _, lw_frame hF⟩
theorem i_vc : Claimed_1_1 ∧ Claimed_1_2 := ⟨lw_limb limb_1_1 (fun args s t => by simp [limb_1_1, Cond.after, Cond.holds, Cond.value]), lw_limb limb_1_2 (fun args s t => Cond.after_iff.mpr (by
  first | (rw [show limb_1_2 = Cond.eq .result (.int 1) from rfl, Cond.eq_ints (x := 1) (y := 1) rfl rfl]; simp; done) | (simp [limb_1_2, Cond.value, Term.eval]; done)))⟩
end
