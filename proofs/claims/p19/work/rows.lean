section
-- ===== PART A: goes FIRST, ahead of the names: the tables' words, and 'selects' of the private methods out of them =====
/-- a private method of a class that the tables say can be made, by its rows of tables_1 -/
def lw_okq (q : MethodName × Nat) : Prop := (q.1.cls ≠ "java/lang/invoke/MethodHandle" ∧ q.1.cls ≠ "java/lang/invoke/VarHandle") ∧ Cond.instantiable q.1.cls q.2 ∈ tables_1 ∧ Cond.privateMethod q.1 ∈ tables_1 ∧ Cond.instanceMethod q.1 ∈ tables_1
theorem lw_p0 : lw_okq (⟨"TypeLoom", "forgetProgram", "()V"⟩, 11) := ⟨⟨by decide +kernel, by decide +kernel⟩, List.mem_of_getElem? (i := 27) (by decide +kernel), List.mem_of_getElem? (i := 499) (by decide +kernel), List.mem_of_getElem? (i := 500) (by decide +kernel)⟩
theorem lw_p1 : lw_okq (⟨"TypeLoom$Tokens", "pastBlanks", "(I)I"⟩, 8) := ⟨⟨by decide +kernel, by decide +kernel⟩, List.mem_of_getElem? (i := 50) (by decide +kernel), List.mem_of_getElem? (i := 530) (by decide +kernel), List.mem_of_getElem? (i := 531) (by decide +kernel)⟩
theorem lw_p2 : lw_okq (⟨"TypeLoom$Tokens", "byteOf", "(I)I"⟩, 8) := ⟨⟨by decide +kernel, by decide +kernel⟩, List.mem_of_getElem? (i := 50) (by decide +kernel), List.mem_of_getElem? (i := 534) (by decide +kernel), List.mem_of_getElem? (i := 535) (by decide +kernel)⟩
theorem lw_p3 : lw_okq (⟨"TypeLoom$Tokens", "readToken", "(I)I"⟩, 8) := ⟨⟨by decide +kernel, by decide +kernel⟩, List.mem_of_getElem? (i := 50) (by decide +kernel), List.mem_of_getElem? (i := 538) (by decide +kernel), List.mem_of_getElem? (i := 539) (by decide +kernel)⟩
theorem lw_p4 : lw_okq (⟨"TypeLoom$Tokens", "add", "(IIIJ)I"⟩, 8) := ⟨⟨by decide +kernel, by decide +kernel⟩, List.mem_of_getElem? (i := 50) (by decide +kernel), List.mem_of_getElem? (i := 542) (by decide +kernel), List.mem_of_getElem? (i := 543) (by decide +kernel)⟩
theorem lw_p5 : lw_okq (⟨"TypeLoom$Tokens", "readWord", "(II)I"⟩, 8) := ⟨⟨by decide +kernel, by decide +kernel⟩, List.mem_of_getElem? (i := 50) (by decide +kernel), List.mem_of_getElem? (i := 552) (by decide +kernel), List.mem_of_getElem? (i := 553) (by decide +kernel)⟩
theorem lw_p6 : lw_okq (⟨"TypeLoom$Tokens", "kindOfWord", "(J)I"⟩, 8) := ⟨⟨by decide +kernel, by decide +kernel⟩, List.mem_of_getElem? (i := 50) (by decide +kernel), List.mem_of_getElem? (i := 559) (by decide +kernel), List.mem_of_getElem? (i := 560) (by decide +kernel)⟩
theorem lw_p7 : lw_okq (⟨"TypeLoom$Tokens", "readNumber", "(I)I"⟩, 8) := ⟨⟨by decide +kernel, by decide +kernel⟩, List.mem_of_getElem? (i := 50) (by decide +kernel), List.mem_of_getElem? (i := 563) (by decide +kernel), List.mem_of_getElem? (i := 564) (by decide +kernel)⟩
theorem lw_p8 : lw_okq (⟨"TypeLoom$Tokens", "readSymbol", "(II)I"⟩, 8) := ⟨⟨by decide +kernel, by decide +kernel⟩, List.mem_of_getElem? (i := 50) (by decide +kernel), List.mem_of_getElem? (i := 567) (by decide +kernel), List.mem_of_getElem? (i := 568) (by decide +kernel)⟩
theorem lw_p9 : lw_okq (⟨"TypeLoom$Parser", "start", "(LTypeLoom$Steps;)V"⟩, 4) := ⟨⟨by decide +kernel, by decide +kernel⟩, List.mem_of_getElem? (i := 311) (by decide +kernel), List.mem_of_getElem? (i := 635) (by decide +kernel), List.mem_of_getElem? (i := 636) (by decide +kernel)⟩
theorem lw_p10 : lw_okq (⟨"TypeLoom$Parser", "item", "()V"⟩, 4) := ⟨⟨by decide +kernel, by decide +kernel⟩, List.mem_of_getElem? (i := 311) (by decide +kernel), List.mem_of_getElem? (i := 640) (by decide +kernel), List.mem_of_getElem? (i := 641) (by decide +kernel)⟩
theorem lw_p11 : lw_okq (⟨"TypeLoom$Parser", "kind", "()I"⟩, 4) := ⟨⟨by decide +kernel, by decide +kernel⟩, List.mem_of_getElem? (i := 311) (by decide +kernel), List.mem_of_getElem? (i := 644) (by decide +kernel), List.mem_of_getElem? (i := 645) (by decide +kernel)⟩
theorem lw_p12 : lw_okq (⟨"TypeLoom$Parser", "typeItem", "()V"⟩, 4) := ⟨⟨by decide +kernel, by decide +kernel⟩, List.mem_of_getElem? (i := 311) (by decide +kernel), List.mem_of_getElem? (i := 653) (by decide +kernel), List.mem_of_getElem? (i := 654) (by decide +kernel)⟩
theorem lw_p13 : lw_okq (⟨"TypeLoom$Parser", "add", "(IIII)I"⟩, 4) := ⟨⟨by decide +kernel, by decide +kernel⟩, List.mem_of_getElem? (i := 311) (by decide +kernel), List.mem_of_getElem? (i := 657) (by decide +kernel), List.mem_of_getElem? (i := 658) (by decide +kernel)⟩
theorem lw_p14 : lw_okq (⟨"TypeLoom$Parser", "take", "(I)V"⟩, 4) := ⟨⟨by decide +kernel, by decide +kernel⟩, List.mem_of_getElem? (i := 311) (by decide +kernel), List.mem_of_getElem? (i := 665) (by decide +kernel), List.mem_of_getElem? (i := 666) (by decide +kernel)⟩
theorem lw_p15 : lw_okq (⟨"TypeLoom$Parser", "fail", "()V"⟩, 4) := ⟨⟨by decide +kernel, by decide +kernel⟩, List.mem_of_getElem? (i := 311) (by decide +kernel), List.mem_of_getElem? (i := 669) (by decide +kernel), List.mem_of_getElem? (i := 670) (by decide +kernel)⟩
def lw_privs_1 : List (MethodName × Nat) := [(⟨"TypeLoom", "forgetProgram", "()V"⟩, 11), (⟨"TypeLoom$Tokens", "pastBlanks", "(I)I"⟩, 8), (⟨"TypeLoom$Tokens", "byteOf", "(I)I"⟩, 8), (⟨"TypeLoom$Tokens", "readToken", "(I)I"⟩, 8), (⟨"TypeLoom$Tokens", "add", "(IIIJ)I"⟩, 8), (⟨"TypeLoom$Tokens", "readWord", "(II)I"⟩, 8), (⟨"TypeLoom$Tokens", "kindOfWord", "(J)I"⟩, 8), (⟨"TypeLoom$Tokens", "readNumber", "(I)I"⟩, 8), (⟨"TypeLoom$Tokens", "readSymbol", "(II)I"⟩, 8), (⟨"TypeLoom$Parser", "start", "(LTypeLoom$Steps;)V"⟩, 4), (⟨"TypeLoom$Parser", "item", "()V"⟩, 4), (⟨"TypeLoom$Parser", "kind", "()I"⟩, 4), (⟨"TypeLoom$Parser", "typeItem", "()V"⟩, 4), (⟨"TypeLoom$Parser", "add", "(IIII)I"⟩, 4), (⟨"TypeLoom$Parser", "take", "(I)V"⟩, 4), (⟨"TypeLoom$Parser", "fail", "()V"⟩, 4)]
theorem lw_r1 : ∀ q ∈ lw_privs_1, lw_okq q := List.forall_mem_cons.mpr ⟨lw_p0, List.forall_mem_cons.mpr ⟨lw_p1, List.forall_mem_cons.mpr ⟨lw_p2, List.forall_mem_cons.mpr ⟨lw_p3, List.forall_mem_cons.mpr ⟨lw_p4, List.forall_mem_cons.mpr ⟨lw_p5, List.forall_mem_cons.mpr ⟨lw_p6, List.forall_mem_cons.mpr ⟨lw_p7, List.forall_mem_cons.mpr ⟨lw_p8, List.forall_mem_cons.mpr ⟨lw_p9, List.forall_mem_cons.mpr ⟨lw_p10, List.forall_mem_cons.mpr ⟨lw_p11, List.forall_mem_cons.mpr ⟨lw_p12, List.forall_mem_cons.mpr ⟨lw_p13, List.forall_mem_cons.mpr ⟨lw_p14, List.forall_mem_cons.mpr ⟨lw_p15, fun _ h => absurd h List.not_mem_nil⟩⟩⟩⟩⟩⟩⟩⟩⟩⟩⟩⟩⟩⟩⟩⟩
theorem lw_p16 : lw_okq (⟨"TypeLoom$Parser", "constructor", "()V"⟩, 4) := ⟨⟨by decide +kernel, by decide +kernel⟩, List.mem_of_getElem? (i := 311) (by decide +kernel), List.mem_of_getElem? (i := 681) (by decide +kernel), List.mem_of_getElem? (i := 682) (by decide +kernel)⟩
theorem lw_p17 : lw_okq (⟨"TypeLoom$Parser", "startsPart", "()Z"⟩, 4) := ⟨⟨by decide +kernel, by decide +kernel⟩, List.mem_of_getElem? (i := 311) (by decide +kernel), List.mem_of_getElem? (i := 685) (by decide +kernel), List.mem_of_getElem? (i := 686) (by decide +kernel)⟩
theorem lw_p18 : lw_okq (⟨"TypeLoom$Parser", "part", "(I)V"⟩, 4) := ⟨⟨by decide +kernel, by decide +kernel⟩, List.mem_of_getElem? (i := 311) (by decide +kernel), List.mem_of_getElem? (i := 689) (by decide +kernel), List.mem_of_getElem? (i := 690) (by decide +kernel)⟩
theorem lw_p19 : lw_okq (⟨"TypeLoom$Parser", "form", "(I)V"⟩, 4) := ⟨⟨by decide +kernel, by decide +kernel⟩, List.mem_of_getElem? (i := 311) (by decide +kernel), List.mem_of_getElem? (i := 693) (by decide +kernel), List.mem_of_getElem? (i := 694) (by decide +kernel)⟩
theorem lw_p20 : lw_okq (⟨"TypeLoom$Parser", "formPair", "(I)V"⟩, 4) := ⟨⟨by decide +kernel, by decide +kernel⟩, List.mem_of_getElem? (i := 311) (by decide +kernel), List.mem_of_getElem? (i := 697) (by decide +kernel), List.mem_of_getElem? (i := 698) (by decide +kernel)⟩
theorem lw_p21 : lw_okq (⟨"TypeLoom$Parser", "formUse", "(I)V"⟩, 4) := ⟨⟨by decide +kernel, by decide +kernel⟩, List.mem_of_getElem? (i := 311) (by decide +kernel), List.mem_of_getElem? (i := 701) (by decide +kernel), List.mem_of_getElem? (i := 702) (by decide +kernel)⟩
theorem lw_p22 : lw_okq (⟨"TypeLoom$Parser", "definition", "()V"⟩, 4) := ⟨⟨by decide +kernel, by decide +kernel⟩, List.mem_of_getElem? (i := 311) (by decide +kernel), List.mem_of_getElem? (i := 705) (by decide +kernel), List.mem_of_getElem? (i := 706) (by decide +kernel)⟩
theorem lw_p23 : lw_okq (⟨"TypeLoom$Parser", "expression", "(I)I"⟩, 4) := ⟨⟨by decide +kernel, by decide +kernel⟩, List.mem_of_getElem? (i := 311) (by decide +kernel), List.mem_of_getElem? (i := 709) (by decide +kernel), List.mem_of_getElem? (i := 710) (by decide +kernel)⟩
theorem lw_p24 : lw_okq (⟨"TypeLoom$Parser", "let", "(I)I"⟩, 4) := ⟨⟨by decide +kernel, by decide +kernel⟩, List.mem_of_getElem? (i := 311) (by decide +kernel), List.mem_of_getElem? (i := 713) (by decide +kernel), List.mem_of_getElem? (i := 714) (by decide +kernel)⟩
theorem lw_p25 : lw_okq (⟨"TypeLoom$Parser", "addExpression", "(IIII)I"⟩, 4) := ⟨⟨by decide +kernel, by decide +kernel⟩, List.mem_of_getElem? (i := 311) (by decide +kernel), List.mem_of_getElem? (i := 717) (by decide +kernel), List.mem_of_getElem? (i := 718) (by decide +kernel)⟩
theorem lw_p26 : lw_okq (⟨"TypeLoom$Steps", "has", "(I)Z"⟩, 8) := ⟨⟨by decide +kernel, by decide +kernel⟩, List.mem_of_getElem? (i := 280) (by decide +kernel), List.mem_of_getElem? (i := 729) (by decide +kernel), List.mem_of_getElem? (i := 730) (by decide +kernel)⟩
theorem lw_p27 : lw_okq (⟨"TypeLoom$Parser", "fun", "(I)I"⟩, 4) := ⟨⟨by decide +kernel, by decide +kernel⟩, List.mem_of_getElem? (i := 311) (by decide +kernel), List.mem_of_getElem? (i := 733) (by decide +kernel), List.mem_of_getElem? (i := 734) (by decide +kernel)⟩
theorem lw_p28 : lw_okq (⟨"TypeLoom$Parser", "condition", "(I)I"⟩, 4) := ⟨⟨by decide +kernel, by decide +kernel⟩, List.mem_of_getElem? (i := 311) (by decide +kernel), List.mem_of_getElem? (i := 737) (by decide +kernel), List.mem_of_getElem? (i := 738) (by decide +kernel)⟩
theorem lw_p29 : lw_okq (⟨"TypeLoom$Parser", "cases", "(I)I"⟩, 4) := ⟨⟨by decide +kernel, by decide +kernel⟩, List.mem_of_getElem? (i := 311) (by decide +kernel), List.mem_of_getElem? (i := 741) (by decide +kernel), List.mem_of_getElem? (i := 742) (by decide +kernel)⟩
theorem lw_p30 : lw_okq (⟨"TypeLoom$Parser", "choice", "(IIII)I"⟩, 4) := ⟨⟨by decide +kernel, by decide +kernel⟩, List.mem_of_getElem? (i := 311) (by decide +kernel), List.mem_of_getElem? (i := 745) (by decide +kernel), List.mem_of_getElem? (i := 746) (by decide +kernel)⟩
theorem lw_p31 : lw_okq (⟨"TypeLoom$Parser", "relation", "(I)I"⟩, 4) := ⟨⟨by decide +kernel, by decide +kernel⟩, List.mem_of_getElem? (i := 311) (by decide +kernel), List.mem_of_getElem? (i := 757) (by decide +kernel), List.mem_of_getElem? (i := 758) (by decide +kernel)⟩
def lw_privs_2 : List (MethodName × Nat) := [(⟨"TypeLoom$Parser", "constructor", "()V"⟩, 4), (⟨"TypeLoom$Parser", "startsPart", "()Z"⟩, 4), (⟨"TypeLoom$Parser", "part", "(I)V"⟩, 4), (⟨"TypeLoom$Parser", "form", "(I)V"⟩, 4), (⟨"TypeLoom$Parser", "formPair", "(I)V"⟩, 4), (⟨"TypeLoom$Parser", "formUse", "(I)V"⟩, 4), (⟨"TypeLoom$Parser", "definition", "()V"⟩, 4), (⟨"TypeLoom$Parser", "expression", "(I)I"⟩, 4), (⟨"TypeLoom$Parser", "let", "(I)I"⟩, 4), (⟨"TypeLoom$Parser", "addExpression", "(IIII)I"⟩, 4), (⟨"TypeLoom$Steps", "has", "(I)Z"⟩, 8), (⟨"TypeLoom$Parser", "fun", "(I)I"⟩, 4), (⟨"TypeLoom$Parser", "condition", "(I)I"⟩, 4), (⟨"TypeLoom$Parser", "cases", "(I)I"⟩, 4), (⟨"TypeLoom$Parser", "choice", "(IIII)I"⟩, 4), (⟨"TypeLoom$Parser", "relation", "(I)I"⟩, 4)]
theorem lw_r2 : ∀ q ∈ lw_privs_2, lw_okq q := List.forall_mem_cons.mpr ⟨lw_p16, List.forall_mem_cons.mpr ⟨lw_p17, List.forall_mem_cons.mpr ⟨lw_p18, List.forall_mem_cons.mpr ⟨lw_p19, List.forall_mem_cons.mpr ⟨lw_p20, List.forall_mem_cons.mpr ⟨lw_p21, List.forall_mem_cons.mpr ⟨lw_p22, List.forall_mem_cons.mpr ⟨lw_p23, List.forall_mem_cons.mpr ⟨lw_p24, List.forall_mem_cons.mpr ⟨lw_p25, List.forall_mem_cons.mpr ⟨lw_p26, List.forall_mem_cons.mpr ⟨lw_p27, List.forall_mem_cons.mpr ⟨lw_p28, List.forall_mem_cons.mpr ⟨lw_p29, List.forall_mem_cons.mpr ⟨lw_p30, List.forall_mem_cons.mpr ⟨lw_p31, fun _ h => absurd h List.not_mem_nil⟩⟩⟩⟩⟩⟩⟩⟩⟩⟩⟩⟩⟩⟩⟩⟩
theorem lw_p32 : lw_okq (⟨"TypeLoom$Parser", "sum", "(I)I"⟩, 4) := ⟨⟨by decide +kernel, by decide +kernel⟩, List.mem_of_getElem? (i := 311) (by decide +kernel), List.mem_of_getElem? (i := 761) (by decide +kernel), List.mem_of_getElem? (i := 762) (by decide +kernel)⟩
theorem lw_p33 : lw_okq (⟨"TypeLoom$Parser", "product", "(I)I"⟩, 4) := ⟨⟨by decide +kernel, by decide +kernel⟩, List.mem_of_getElem? (i := 311) (by decide +kernel), List.mem_of_getElem? (i := 765) (by decide +kernel), List.mem_of_getElem? (i := 766) (by decide +kernel)⟩
theorem lw_p34 : lw_okq (⟨"TypeLoom$Parser", "call", "(I)I"⟩, 4) := ⟨⟨by decide +kernel, by decide +kernel⟩, List.mem_of_getElem? (i := 311) (by decide +kernel), List.mem_of_getElem? (i := 769) (by decide +kernel), List.mem_of_getElem? (i := 770) (by decide +kernel)⟩
theorem lw_p35 : lw_okq (⟨"TypeLoom$Parser", "atom", "(I)I"⟩, 4) := ⟨⟨by decide +kernel, by decide +kernel⟩, List.mem_of_getElem? (i := 311) (by decide +kernel), List.mem_of_getElem? (i := 773) (by decide +kernel), List.mem_of_getElem? (i := 774) (by decide +kernel)⟩
theorem lw_p36 : lw_okq (⟨"TypeLoom$Parser", "single", "(II)I"⟩, 4) := ⟨⟨by decide +kernel, by decide +kernel⟩, List.mem_of_getElem? (i := 311) (by decide +kernel), List.mem_of_getElem? (i := 777) (by decide +kernel), List.mem_of_getElem? (i := 778) (by decide +kernel)⟩
theorem lw_p37 : lw_okq (⟨"TypeLoom$Parser", "bracket", "(I)I"⟩, 4) := ⟨⟨by decide +kernel, by decide +kernel⟩, List.mem_of_getElem? (i := 311) (by decide +kernel), List.mem_of_getElem? (i := 781) (by decide +kernel), List.mem_of_getElem? (i := 782) (by decide +kernel)⟩
theorem lw_p38 : lw_okq (⟨"TypeLoom$Parser", "startsAtom", "()Z"⟩, 4) := ⟨⟨by decide +kernel, by decide +kernel⟩, List.mem_of_getElem? (i := 311) (by decide +kernel), List.mem_of_getElem? (i := 785) (by decide +kernel), List.mem_of_getElem? (i := 786) (by decide +kernel)⟩
theorem lw_p39 : lw_okq (⟨"TypeLoom$Checker", "leaveDefinition", "()V"⟩, 12) := ⟨⟨by decide +kernel, by decide +kernel⟩, List.mem_of_getElem? (i := 330) (by decide +kernel), List.mem_of_getElem? (i := 793) (by decide +kernel), List.mem_of_getElem? (i := 794) (by decide +kernel)⟩
theorem lw_p40 : lw_okq (⟨"TypeLoom$Checker", "typeOfExpression", "(III)I"⟩, 12) := ⟨⟨by decide +kernel, by decide +kernel⟩, List.mem_of_getElem? (i := 330) (by decide +kernel), List.mem_of_getElem? (i := 812) (by decide +kernel), List.mem_of_getElem? (i := 813) (by decide +kernel)⟩
theorem lw_p41 : lw_okq (⟨"TypeLoom$Checker", "typeOfName", "(I)I"⟩, 12) := ⟨⟨by decide +kernel, by decide +kernel⟩, List.mem_of_getElem? (i := 330) (by decide +kernel), List.mem_of_getElem? (i := 816) (by decide +kernel), List.mem_of_getElem? (i := 817) (by decide +kernel)⟩
theorem lw_p42 : lw_okq (⟨"TypeLoom$Types", "enter", "(II)I"⟩, 12) := ⟨⟨by decide +kernel, by decide +kernel⟩, List.mem_of_getElem? (i := 132) (by decide +kernel), List.mem_of_getElem? (i := 852) (by decide +kernel), List.mem_of_getElem? (i := 853) (by decide +kernel)⟩
theorem lw_p43 : lw_okq (⟨"TypeLoom$Types", "twinOf", "(IZ)I"⟩, 12) := ⟨⟨by decide +kernel, by decide +kernel⟩, List.mem_of_getElem? (i := 132) (by decide +kernel), List.mem_of_getElem? (i := 856) (by decide +kernel), List.mem_of_getElem? (i := 857) (by decide +kernel)⟩
theorem lw_p44 : lw_okq (⟨"TypeLoom$Types", "noteOfKid", "(II)I"⟩, 12) := ⟨⟨by decide +kernel, by decide +kernel⟩, List.mem_of_getElem? (i := 132) (by decide +kernel), List.mem_of_getElem? (i := 860) (by decide +kernel), List.mem_of_getElem? (i := 861) (by decide +kernel)⟩
theorem lw_p45 : lw_okq (⟨"TypeLoom$Checker", "tellAtToken", "(II)V"⟩, 12) := ⟨⟨by decide +kernel, by decide +kernel⟩, List.mem_of_getElem? (i := 330) (by decide +kernel), List.mem_of_getElem? (i := 897) (by decide +kernel), List.mem_of_getElem? (i := 898) (by decide +kernel)⟩
theorem lw_p46 : lw_okq (⟨"TypeLoom$Checker", "typeOfCapital", "(I)I"⟩, 12) := ⟨⟨by decide +kernel, by decide +kernel⟩, List.mem_of_getElem? (i := 330) (by decide +kernel), List.mem_of_getElem? (i := 903) (by decide +kernel), List.mem_of_getElem? (i := 904) (by decide +kernel)⟩
theorem lw_p47 : lw_okq (⟨"TypeLoom$Checker", "typeOfCall", "(II)I"⟩, 12) := ⟨⟨by decide +kernel, by decide +kernel⟩, List.mem_of_getElem? (i := 330) (by decide +kernel), List.mem_of_getElem? (i := 920) (by decide +kernel), List.mem_of_getElem? (i := 921) (by decide +kernel)⟩
def lw_privs_3 : List (MethodName × Nat) := [(⟨"TypeLoom$Parser", "sum", "(I)I"⟩, 4), (⟨"TypeLoom$Parser", "product", "(I)I"⟩, 4), (⟨"TypeLoom$Parser", "call", "(I)I"⟩, 4), (⟨"TypeLoom$Parser", "atom", "(I)I"⟩, 4), (⟨"TypeLoom$Parser", "single", "(II)I"⟩, 4), (⟨"TypeLoom$Parser", "bracket", "(I)I"⟩, 4), (⟨"TypeLoom$Parser", "startsAtom", "()Z"⟩, 4), (⟨"TypeLoom$Checker", "leaveDefinition", "()V"⟩, 12), (⟨"TypeLoom$Checker", "typeOfExpression", "(III)I"⟩, 12), (⟨"TypeLoom$Checker", "typeOfName", "(I)I"⟩, 12), (⟨"TypeLoom$Types", "enter", "(II)I"⟩, 12), (⟨"TypeLoom$Types", "twinOf", "(IZ)I"⟩, 12), (⟨"TypeLoom$Types", "noteOfKid", "(II)I"⟩, 12), (⟨"TypeLoom$Checker", "tellAtToken", "(II)V"⟩, 12), (⟨"TypeLoom$Checker", "typeOfCapital", "(I)I"⟩, 12), (⟨"TypeLoom$Checker", "typeOfCall", "(II)I"⟩, 12)]
theorem lw_r3 : ∀ q ∈ lw_privs_3, lw_okq q := List.forall_mem_cons.mpr ⟨lw_p32, List.forall_mem_cons.mpr ⟨lw_p33, List.forall_mem_cons.mpr ⟨lw_p34, List.forall_mem_cons.mpr ⟨lw_p35, List.forall_mem_cons.mpr ⟨lw_p36, List.forall_mem_cons.mpr ⟨lw_p37, List.forall_mem_cons.mpr ⟨lw_p38, List.forall_mem_cons.mpr ⟨lw_p39, List.forall_mem_cons.mpr ⟨lw_p40, List.forall_mem_cons.mpr ⟨lw_p41, List.forall_mem_cons.mpr ⟨lw_p42, List.forall_mem_cons.mpr ⟨lw_p43, List.forall_mem_cons.mpr ⟨lw_p44, List.forall_mem_cons.mpr ⟨lw_p45, List.forall_mem_cons.mpr ⟨lw_p46, List.forall_mem_cons.mpr ⟨lw_p47, fun _ h => absurd h List.not_mem_nil⟩⟩⟩⟩⟩⟩⟩⟩⟩⟩⟩⟩⟩⟩⟩⟩
theorem lw_p48 : lw_okq (⟨"TypeLoom$Types", "join", "(III)I"⟩, 12) := ⟨⟨by decide +kernel, by decide +kernel⟩, List.mem_of_getElem? (i := 132) (by decide +kernel), List.mem_of_getElem? (i := 933) (by decide +kernel), List.mem_of_getElem? (i := 934) (by decide +kernel)⟩
theorem lw_p49 : lw_okq (⟨"TypeLoom$Checker", "need", "(II)V"⟩, 12) := ⟨⟨by decide +kernel, by decide +kernel⟩, List.mem_of_getElem? (i := 330) (by decide +kernel), List.mem_of_getElem? (i := 943) (by decide +kernel), List.mem_of_getElem? (i := 944) (by decide +kernel)⟩
theorem lw_p50 : lw_okq (⟨"TypeLoom$Checker", "typeOfFun", "(II)I"⟩, 12) := ⟨⟨by decide +kernel, by decide +kernel⟩, List.mem_of_getElem? (i := 330) (by decide +kernel), List.mem_of_getElem? (i := 947) (by decide +kernel), List.mem_of_getElem? (i := 948) (by decide +kernel)⟩
theorem lw_p51 : lw_okq (⟨"TypeLoom$Checker", "takeStep", "(II)V"⟩, 12) := ⟨⟨by decide +kernel, by decide +kernel⟩, List.mem_of_getElem? (i := 330) (by decide +kernel), List.mem_of_getElem? (i := 964) (by decide +kernel), List.mem_of_getElem? (i := 965) (by decide +kernel)⟩
theorem lw_p52 : lw_okq (⟨"TypeLoom$Checker", "beginDefinition", "(I)V"⟩, 12) := ⟨⟨by decide +kernel, by decide +kernel⟩, List.mem_of_getElem? (i := 330) (by decide +kernel), List.mem_of_getElem? (i := 968) (by decide +kernel), List.mem_of_getElem? (i := 969) (by decide +kernel)⟩
theorem lw_p53 : lw_okq (⟨"TypeLoom$Forms", "forgetMarks", "()V"⟩, 11) := ⟨⟨by decide +kernel, by decide +kernel⟩, List.mem_of_getElem? (i := 356) (by decide +kernel), List.mem_of_getElem? (i := 976) (by decide +kernel), List.mem_of_getElem? (i := 977) (by decide +kernel)⟩
theorem lw_p54 : lw_okq (⟨"TypeLoom$Checker", "endDefinition", "(II)V"⟩, 12) := ⟨⟨by decide +kernel, by decide +kernel⟩, List.mem_of_getElem? (i := 330) (by decide +kernel), List.mem_of_getElem? (i := 993) (by decide +kernel), List.mem_of_getElem? (i := 994) (by decide +kernel)⟩
theorem lw_p55 : lw_okq (⟨"TypeLoom$Checker", "bindLet", "(II)V"⟩, 12) := ⟨⟨by decide +kernel, by decide +kernel⟩, List.mem_of_getElem? (i := 330) (by decide +kernel), List.mem_of_getElem? (i := 1016) (by decide +kernel), List.mem_of_getElem? (i := 1017) (by decide +kernel)⟩
theorem lw_p56 : lw_okq (⟨"TypeLoom$Checker", "beginChoice", "(III)V"⟩, 12) := ⟨⟨by decide +kernel, by decide +kernel⟩, List.mem_of_getElem? (i := 330) (by decide +kernel), List.mem_of_getElem? (i := 1030) (by decide +kernel), List.mem_of_getElem? (i := 1031) (by decide +kernel)⟩
theorem lw_p57 : lw_okq (⟨"TypeLoom$Checker", "isChosenAhead", "(II)Z"⟩, 12) := ⟨⟨by decide +kernel, by decide +kernel⟩, List.mem_of_getElem? (i := 330) (by decide +kernel), List.mem_of_getElem? (i := 1034) (by decide +kernel), List.mem_of_getElem? (i := 1035) (by decide +kernel)⟩
theorem lw_p58 : lw_okq (⟨"TypeLoom$Checker", "namesBehind", "(I)I"⟩, 12) := ⟨⟨by decide +kernel, by decide +kernel⟩, List.mem_of_getElem? (i := 330) (by decide +kernel), List.mem_of_getElem? (i := 1042) (by decide +kernel), List.mem_of_getElem? (i := 1043) (by decide +kernel)⟩
theorem lw_p59 : lw_okq (⟨"TypeLoom$Checker", "endChoice", "(III)V"⟩, 12) := ⟨⟨by decide +kernel, by decide +kernel⟩, List.mem_of_getElem? (i := 330) (by decide +kernel), List.mem_of_getElem? (i := 1048) (by decide +kernel), List.mem_of_getElem? (i := 1049) (by decide +kernel)⟩
theorem lw_p60 : lw_okq (⟨"TypeLoom$Forms", "beginType", "(I)V"⟩, 11) := ⟨⟨by decide +kernel, by decide +kernel⟩, List.mem_of_getElem? (i := 356) (by decide +kernel), List.mem_of_getElem? (i := 1056) (by decide +kernel), List.mem_of_getElem? (i := 1057) (by decide +kernel)⟩
theorem lw_p61 : lw_okq (⟨"TypeLoom$Forms", "tellIf", "(ZII)V"⟩, 11) := ⟨⟨by decide +kernel, by decide +kernel⟩, List.mem_of_getElem? (i := 356) (by decide +kernel), List.mem_of_getElem? (i := 1064) (by decide +kernel), List.mem_of_getElem? (i := 1065) (by decide +kernel)⟩
theorem lw_p62 : lw_okq (⟨"TypeLoom$Forms", "typeNamed", "(I)I"⟩, 11) := ⟨⟨by decide +kernel, by decide +kernel⟩, List.mem_of_getElem? (i := 356) (by decide +kernel), List.mem_of_getElem? (i := 1070) (by decide +kernel), List.mem_of_getElem? (i := 1071) (by decide +kernel)⟩
theorem lw_p63 : lw_okq (⟨"TypeLoom$Forms", "addMark", "(I)V"⟩, 11) := ⟨⟨by decide +kernel, by decide +kernel⟩, List.mem_of_getElem? (i := 356) (by decide +kernel), List.mem_of_getElem? (i := 1084) (by decide +kernel), List.mem_of_getElem? (i := 1085) (by decide +kernel)⟩
def lw_privs_4 : List (MethodName × Nat) := [(⟨"TypeLoom$Types", "join", "(III)I"⟩, 12), (⟨"TypeLoom$Checker", "need", "(II)V"⟩, 12), (⟨"TypeLoom$Checker", "typeOfFun", "(II)I"⟩, 12), (⟨"TypeLoom$Checker", "takeStep", "(II)V"⟩, 12), (⟨"TypeLoom$Checker", "beginDefinition", "(I)V"⟩, 12), (⟨"TypeLoom$Forms", "forgetMarks", "()V"⟩, 11), (⟨"TypeLoom$Checker", "endDefinition", "(II)V"⟩, 12), (⟨"TypeLoom$Checker", "bindLet", "(II)V"⟩, 12), (⟨"TypeLoom$Checker", "beginChoice", "(III)V"⟩, 12), (⟨"TypeLoom$Checker", "isChosenAhead", "(II)Z"⟩, 12), (⟨"TypeLoom$Checker", "namesBehind", "(I)I"⟩, 12), (⟨"TypeLoom$Checker", "endChoice", "(III)V"⟩, 12), (⟨"TypeLoom$Forms", "beginType", "(I)V"⟩, 11), (⟨"TypeLoom$Forms", "tellIf", "(ZII)V"⟩, 11), (⟨"TypeLoom$Forms", "typeNamed", "(I)I"⟩, 11), (⟨"TypeLoom$Forms", "addMark", "(I)V"⟩, 11)]
theorem lw_r4 : ∀ q ∈ lw_privs_4, lw_okq q := List.forall_mem_cons.mpr ⟨lw_p48, List.forall_mem_cons.mpr ⟨lw_p49, List.forall_mem_cons.mpr ⟨lw_p50, List.forall_mem_cons.mpr ⟨lw_p51, List.forall_mem_cons.mpr ⟨lw_p52, List.forall_mem_cons.mpr ⟨lw_p53, List.forall_mem_cons.mpr ⟨lw_p54, List.forall_mem_cons.mpr ⟨lw_p55, List.forall_mem_cons.mpr ⟨lw_p56, List.forall_mem_cons.mpr ⟨lw_p57, List.forall_mem_cons.mpr ⟨lw_p58, List.forall_mem_cons.mpr ⟨lw_p59, List.forall_mem_cons.mpr ⟨lw_p60, List.forall_mem_cons.mpr ⟨lw_p61, List.forall_mem_cons.mpr ⟨lw_p62, List.forall_mem_cons.mpr ⟨lw_p63, fun _ h => absurd h List.not_mem_nil⟩⟩⟩⟩⟩⟩⟩⟩⟩⟩⟩⟩⟩⟩⟩⟩
theorem lw_p64 : lw_okq (⟨"TypeLoom$Forms", "letterOf", "(I)I"⟩, 11) := ⟨⟨by decide +kernel, by decide +kernel⟩, List.mem_of_getElem? (i := 356) (by decide +kernel), List.mem_of_getElem? (i := 1088) (by decide +kernel), List.mem_of_getElem? (i := 1089) (by decide +kernel)⟩
theorem lw_p65 : lw_okq (⟨"TypeLoom$Forms", "beginConstructor", "(I)V"⟩, 11) := ⟨⟨by decide +kernel, by decide +kernel⟩, List.mem_of_getElem? (i := 356) (by decide +kernel), List.mem_of_getElem? (i := 1103) (by decide +kernel), List.mem_of_getElem? (i := 1104) (by decide +kernel)⟩
theorem lw_p66 : lw_okq (⟨"TypeLoom$Forms", "endConstructor", "(I)V"⟩, 11) := ⟨⟨by decide +kernel, by decide +kernel⟩, List.mem_of_getElem? (i := 356) (by decide +kernel), List.mem_of_getElem? (i := 1112) (by decide +kernel), List.mem_of_getElem? (i := 1113) (by decide +kernel)⟩
theorem lw_p67 : lw_okq (⟨"TypeLoom$Forms", "useMark", "(I)V"⟩, 11) := ⟨⟨by decide +kernel, by decide +kernel⟩, List.mem_of_getElem? (i := 356) (by decide +kernel), List.mem_of_getElem? (i := 1128) (by decide +kernel), List.mem_of_getElem? (i := 1129) (by decide +kernel)⟩
theorem lw_p68 : lw_okq (⟨"TypeLoom$Forms", "putValue", "(I)V"⟩, 11) := ⟨⟨by decide +kernel, by decide +kernel⟩, List.mem_of_getElem? (i := 356) (by decide +kernel), List.mem_of_getElem? (i := 1132) (by decide +kernel), List.mem_of_getElem? (i := 1133) (by decide +kernel)⟩
theorem lw_p69 : lw_okq (⟨"TypeLoom$Forms", "useName", "(II)V"⟩, 11) := ⟨⟨by decide +kernel, by decide +kernel⟩, List.mem_of_getElem? (i := 356) (by decide +kernel), List.mem_of_getElem? (i := 1136) (by decide +kernel), List.mem_of_getElem? (i := 1137) (by decide +kernel)⟩
theorem lw_p70 : lw_okq (⟨"TypeLoom$Forms", "joinPair", "()V"⟩, 11) := ⟨⟨by decide +kernel, by decide +kernel⟩, List.mem_of_getElem? (i := 356) (by decide +kernel), List.mem_of_getElem? (i := 1144) (by decide +kernel), List.mem_of_getElem? (i := 1145) (by decide +kernel)⟩
theorem lw_p71 : lw_okq (⟨"TypeLoom$Forms", "joinArrows", "(I)V"⟩, 11) := ⟨⟨by decide +kernel, by decide +kernel⟩, List.mem_of_getElem? (i := 356) (by decide +kernel), List.mem_of_getElem? (i := 1149) (by decide +kernel), List.mem_of_getElem? (i := 1150) (by decide +kernel)⟩
theorem lw_p72 : lw_okq (⟨"java/lang/Throwable", "fillInStackTrace", "(I)Ljava/lang/Throwable;"⟩, 6) := ⟨⟨by decide +kernel, by decide +kernel⟩, List.mem_of_getElem? (i := 1197) (by decide +kernel), List.mem_of_getElem? (i := 1195) (by decide +kernel), List.mem_of_getElem? (i := 1196) (by decide +kernel)⟩
theorem lw_p73 : lw_okq (⟨"TypeLoom", "amountOf", "(I)I"⟩, 11) := ⟨⟨by decide +kernel, by decide +kernel⟩, List.mem_of_getElem? (i := 27) (by decide +kernel), List.mem_of_getElem? (i := 1226) (by decide +kernel), List.mem_of_getElem? (i := 1227) (by decide +kernel)⟩
theorem lw_p74 : lw_okq (⟨"TypeLoom$Writer", "lengthOf", "(I)I"⟩, 7) := ⟨⟨by decide +kernel, by decide +kernel⟩, List.mem_of_getElem? (i := 433) (by decide +kernel), List.mem_of_getElem? (i := 1254) (by decide +kernel), List.mem_of_getElem? (i := 1255) (by decide +kernel)⟩
theorem lw_p75 : lw_okq (⟨"TypeLoom$Writer", "ownLength", "(I)I"⟩, 7) := ⟨⟨by decide +kernel, by decide +kernel⟩, List.mem_of_getElem? (i := 433) (by decide +kernel), List.mem_of_getElem? (i := 1272) (by decide +kernel), List.mem_of_getElem? (i := 1273) (by decide +kernel)⟩
theorem lw_p76 : lw_okq (⟨"TypeLoom$Writer", "isWrapped", "(II)Z"⟩, 7) := ⟨⟨by decide +kernel, by decide +kernel⟩, List.mem_of_getElem? (i := 433) (by decide +kernel), List.mem_of_getElem? (i := 1286) (by decide +kernel), List.mem_of_getElem? (i := 1287) (by decide +kernel)⟩
theorem lw_p77 : lw_okq (⟨"TypeLoom$Writer", "blanks", "(I)I"⟩, 7) := ⟨⟨by decide +kernel, by decide +kernel⟩, List.mem_of_getElem? (i := 433) (by decide +kernel), List.mem_of_getElem? (i := 1290) (by decide +kernel), List.mem_of_getElem? (i := 1291) (by decide +kernel)⟩
theorem lw_p78 : lw_okq (⟨"TypeLoom$Writer", "later", "(I)V"⟩, 7) := ⟨⟨by decide +kernel, by decide +kernel⟩, List.mem_of_getElem? (i := 433) (by decide +kernel), List.mem_of_getElem? (i := 1301) (by decide +kernel), List.mem_of_getElem? (i := 1302) (by decide +kernel)⟩
theorem lw_p79 : lw_okq (⟨"TypeLoom$Writer", "putByte", "(I)V"⟩, 7) := ⟨⟨by decide +kernel, by decide +kernel⟩, List.mem_of_getElem? (i := 433) (by decide +kernel), List.mem_of_getElem? (i := 1305) (by decide +kernel), List.mem_of_getElem? (i := 1306) (by decide +kernel)⟩
def lw_privs_5 : List (MethodName × Nat) := [(⟨"TypeLoom$Forms", "letterOf", "(I)I"⟩, 11), (⟨"TypeLoom$Forms", "beginConstructor", "(I)V"⟩, 11), (⟨"TypeLoom$Forms", "endConstructor", "(I)V"⟩, 11), (⟨"TypeLoom$Forms", "useMark", "(I)V"⟩, 11), (⟨"TypeLoom$Forms", "putValue", "(I)V"⟩, 11), (⟨"TypeLoom$Forms", "useName", "(II)V"⟩, 11), (⟨"TypeLoom$Forms", "joinPair", "()V"⟩, 11), (⟨"TypeLoom$Forms", "joinArrows", "(I)V"⟩, 11), (⟨"java/lang/Throwable", "fillInStackTrace", "(I)Ljava/lang/Throwable;"⟩, 6), (⟨"TypeLoom", "amountOf", "(I)I"⟩, 11), (⟨"TypeLoom$Writer", "lengthOf", "(I)I"⟩, 7), (⟨"TypeLoom$Writer", "ownLength", "(I)I"⟩, 7), (⟨"TypeLoom$Writer", "isWrapped", "(II)Z"⟩, 7), (⟨"TypeLoom$Writer", "blanks", "(I)I"⟩, 7), (⟨"TypeLoom$Writer", "later", "(I)V"⟩, 7), (⟨"TypeLoom$Writer", "putByte", "(I)V"⟩, 7)]
theorem lw_r5 : ∀ q ∈ lw_privs_5, lw_okq q := List.forall_mem_cons.mpr ⟨lw_p64, List.forall_mem_cons.mpr ⟨lw_p65, List.forall_mem_cons.mpr ⟨lw_p66, List.forall_mem_cons.mpr ⟨lw_p67, List.forall_mem_cons.mpr ⟨lw_p68, List.forall_mem_cons.mpr ⟨lw_p69, List.forall_mem_cons.mpr ⟨lw_p70, List.forall_mem_cons.mpr ⟨lw_p71, List.forall_mem_cons.mpr ⟨lw_p72, List.forall_mem_cons.mpr ⟨lw_p73, List.forall_mem_cons.mpr ⟨lw_p74, List.forall_mem_cons.mpr ⟨lw_p75, List.forall_mem_cons.mpr ⟨lw_p76, List.forall_mem_cons.mpr ⟨lw_p77, List.forall_mem_cons.mpr ⟨lw_p78, List.forall_mem_cons.mpr ⟨lw_p79, fun _ h => absurd h List.not_mem_nil⟩⟩⟩⟩⟩⟩⟩⟩⟩⟩⟩⟩⟩⟩⟩⟩
theorem lw_p80 : lw_okq (⟨"TypeLoom$Writer", "putNode", "(I)V"⟩, 7) := ⟨⟨by decide +kernel, by decide +kernel⟩, List.mem_of_getElem? (i := 433) (by decide +kernel), List.mem_of_getElem? (i := 1309) (by decide +kernel), List.mem_of_getElem? (i := 1310) (by decide +kernel)⟩
theorem lw_p81 : lw_okq (⟨"TypeLoom$Writer", "putText", "(Ljava/lang/String;)V"⟩, 7) := ⟨⟨by decide +kernel, by decide +kernel⟩, List.mem_of_getElem? (i := 433) (by decide +kernel), List.mem_of_getElem? (i := 1314) (by decide +kernel), List.mem_of_getElem? (i := 1315) (by decide +kernel)⟩
theorem lw_p82 : lw_okq (⟨"TypeLoom$Writer", "putMark", "(I)V"⟩, 7) := ⟨⟨by decide +kernel, by decide +kernel⟩, List.mem_of_getElem? (i := 433) (by decide +kernel), List.mem_of_getElem? (i := 1321) (by decide +kernel), List.mem_of_getElem? (i := 1322) (by decide +kernel)⟩
theorem lw_p83 : lw_okq (⟨"TypeLoom$Writer", "laterPart", "(II)V"⟩, 7) := ⟨⟨by decide +kernel, by decide +kernel⟩, List.mem_of_getElem? (i := 433) (by decide +kernel), List.mem_of_getElem? (i := 1328) (by decide +kernel), List.mem_of_getElem? (i := 1329) (by decide +kernel)⟩
theorem lw_p84 : lw_okq (⟨"TypeLoom$Writer", "laterText", "(Ljava/lang/String;)V"⟩, 7) := ⟨⟨by decide +kernel, by decide +kernel⟩, List.mem_of_getElem? (i := 433) (by decide +kernel), List.mem_of_getElem? (i := 1333) (by decide +kernel), List.mem_of_getElem? (i := 1334) (by decide +kernel)⟩
theorem lw_p85 : lw_okq (⟨"TypeLoom$Writer", "putNamed", "(II)V"⟩, 7) := ⟨⟨by decide +kernel, by decide +kernel⟩, List.mem_of_getElem? (i := 433) (by decide +kernel), List.mem_of_getElem? (i := 1338) (by decide +kernel), List.mem_of_getElem? (i := 1339) (by decide +kernel)⟩
theorem lw_p86 : lw_okq (⟨"TypeLoom", "measured", "(II)I"⟩, 11) := ⟨⟨by decide +kernel, by decide +kernel⟩, List.mem_of_getElem? (i := 27) (by decide +kernel), List.mem_of_getElem? (i := 1372) (by decide +kernel), List.mem_of_getElem? (i := 1373) (by decide +kernel)⟩
theorem lw_p87 : lw_okq (⟨"TypeLoom", "append", "(I)V"⟩, 11) := ⟨⟨by decide +kernel, by decide +kernel⟩, List.mem_of_getElem? (i := 27) (by decide +kernel), List.mem_of_getElem? (i := 1428) (by decide +kernel), List.mem_of_getElem? (i := 1429) (by decide +kernel)⟩
def lw_privs_6 : List (MethodName × Nat) := [(⟨"TypeLoom$Writer", "putNode", "(I)V"⟩, 7), (⟨"TypeLoom$Writer", "putText", "(Ljava/lang/String;)V"⟩, 7), (⟨"TypeLoom$Writer", "putMark", "(I)V"⟩, 7), (⟨"TypeLoom$Writer", "laterPart", "(II)V"⟩, 7), (⟨"TypeLoom$Writer", "laterText", "(Ljava/lang/String;)V"⟩, 7), (⟨"TypeLoom$Writer", "putNamed", "(II)V"⟩, 7), (⟨"TypeLoom", "measured", "(II)I"⟩, 11), (⟨"TypeLoom", "append", "(I)V"⟩, 11)]
theorem lw_r6 : ∀ q ∈ lw_privs_6, lw_okq q := List.forall_mem_cons.mpr ⟨lw_p80, List.forall_mem_cons.mpr ⟨lw_p81, List.forall_mem_cons.mpr ⟨lw_p82, List.forall_mem_cons.mpr ⟨lw_p83, List.forall_mem_cons.mpr ⟨lw_p84, List.forall_mem_cons.mpr ⟨lw_p85, List.forall_mem_cons.mpr ⟨lw_p86, List.forall_mem_cons.mpr ⟨lw_p87, fun _ h => absurd h List.not_mem_nil⟩⟩⟩⟩⟩⟩⟩⟩
def lw_privs : List (MethodName × Nat) := lw_privs_1 ++ (lw_privs_2 ++ (lw_privs_3 ++ (lw_privs_4 ++ (lw_privs_5 ++ (lw_privs_6)))))
def lw_tbl : List Cond := k2_sels lw_privs ++ tables_1
theorem lw_privs_ok : ∀ q ∈ lw_privs, lw_okq q := by
  show ∀ q ∈ lw_privs_1 ++ (lw_privs_2 ++ (lw_privs_3 ++ (lw_privs_4 ++ (lw_privs_5 ++ (lw_privs_6))))), lw_okq q
  exact List.forall_mem_append.mpr ⟨lw_r1, List.forall_mem_append.mpr ⟨lw_r2, List.forall_mem_append.mpr ⟨lw_r3, List.forall_mem_append.mpr ⟨lw_r4, List.forall_mem_append.mpr ⟨lw_r5, lw_r6⟩⟩⟩⟩⟩
end
section
/-! ===== BEGIN words of one list among another's, by their places ===== -/
theorem goodIn_r {big : List Cond} (ws : List Cond) (ps : List Nat) (hp : ws = ps.filterMap (fun i => big[i]?)) (h : ws.all goodWord = true) : GoodIn big ws := by
  intro w hw
  have h1 := List.all_eq_true.mp h w hw
  rw [hp] at hw
  obtain ⟨i, -, hi⟩ := List.mem_filterMap.mp hw
  have hm : w ∈ big := by first | exact List.mem_of_getElem? hi | exact List.getElem?_mem hi
  exact ⟨hm, good_of_word h1⟩
theorem goodIn_app {big a b : List Cond} (ha : GoodIn big a) (hb : GoodIn big b) : GoodIn big (a ++ b) := fun w h => (List.mem_append.mp h).elim (ha w) (hb w)
theorem goodIn_ca {big a b : List Cond} {c : Cond} (ha : GoodIn big (c :: a)) (hb : GoodIn big b) : GoodIn big (c :: (a ++ b)) := fun w h => (List.mem_cons.mp h).elim (fun e => ha w (List.mem_cons.mpr (Or.inl e))) (fun h => (List.mem_append.mp h).elim (fun h => ha w (List.mem_cons.mpr (Or.inr h))) (hb w))
theorem goodIn_sub {big ws : List Cond} (hm : ∀ w ∈ ws, w ∈ big) (h : ws.all goodWord = true) : GoodIn big ws := fun w hw => ⟨hm w hw, good_of_word (List.all_eq_true.mp h w hw)⟩
/-! ===== END ===== -/
/-! ===== BEGIN exceptions that leave a method, and their catching by the caller (launches without stack traces) ===== -/
section VXA
/-! The laws vx_back, vx_callV, vx_callS, vx_callSW, vx_throw0, vx_throwS follow proofs of the library, with one case more: JvmDerived/Free/Laws.lean (Back.of_free), Shelf42/LK1.lean (callV, callS), Shelf/KitTraced.lean (throwNew0V, throwNewS). -/
/-- where a method has thrown q: the class by its name, the cell, what was written, the world -/
def vx_T (XC : String → State → State → Prop) (st : State) (q : Addr) (t : State) (mc ms : Nat) (free : Addr → Prop) : Prop :=
  ∃ (E : String) (ce : Cell) (L : List Loc), XC E st t ∧ t.heap[q]? = some ce ∧ ce.vm = .none ∧ st.vm.findClass E = some ce.cls ∧ st.WarmedH t.vm ∧ st.sameButNew ({ t with vm := st.vm } : State) L mc ms ∧ ∀ z ∈ L, free z.base
def vx_Q (Qc : Array Value → State → Outcome → State → Prop) (XC : String → State → State → Prop) (mc ms : Nat) (free : Addr → Prop) : Array Value → State → Outcome → State → Prop := fun a st o t =>
  (Qc a st o t ∧ ∃ L, FrameEnd st o t L mc ms ∧ ∀ q ∈ L, free q.base) ∨ ∃ q, o = .threw q ∧ vx_T XC st q t mc ms free
/-- a callee that returns or throws -/
def vx_Met (l : Launch) (y : MethodName) (ws : List Cond) (rm : Room) (Pc : Array Value → State → Prop) (Qc : Array Value → State → Outcome → State → Prop) (XC : String → State → State → Prop) (mc ms : Nat) (free : Addr → Prop) : Prop :=
  MetFree l y (headSpec ws rm) Pc (fun _ _ _ _ _ => True) (vx_Q Qc XC mc ms free)
def vx_Post (XC : String → State → State → Prop) (mc ms : Nat) (free : Addr → Prop) : Pt → Array Value → Addr → Pt → Prop := fun A a q B =>
  ∃ (g : JFrame) (mk : MethodId) (t : State) (L : List Loc) (E : String) (ce : Cell), B.U.heap = t.heap ∧ B.U.vm = t.vm ∧ XC E (A.U.calling g mk a) t ∧ t.heap[q]? = some ce ∧ ce.vm = .none ∧ A.U.vm.findClass E = some ce.cls ∧ B.locs = A.locs ++ L ∧ (∀ z ∈ L, free z.base) ∧ B.cells = A.cells + mc ∧ B.slots = A.slots + ms
def vx_Back (l : Launch) (R : Room) (p : Program) (e : Env) (below : List Frame) (s : State) (sargs : Array Value) (y : MethodName) (len W9 : Nat)
    (Pre : Pt → Array Value → Prop) (Post : Pt → Array Value → Option Value → Pt → Prop) (PostX : Pt → Array Value → Addr → Pt → Prop) : Prop :=
  ∀ (m : MethodId) (meth : Method) (c : Code) (A : Pt) (g : JFrame) (ig : Instr) (mk : MethodId) (a : Array Value),
    Stand p l e R s m sargs below meth c A.U A.locs A.cells A.slots → g.method = m → g.locals.size = c.maxLocals → decode c.code g.pc = .ok (ig, len) →
    2 * g.monitorRoom + (g.stack.map fun v => v.category).sum ≤ W9 → A.U.methodNamed? y = some mk → Pre A a →
    (∃ (v : Option Value) (B : Pt), Stand p l e R s m sargs below meth c B.U B.locs B.cells B.slots ∧ Post A a v B ∧
      Steps p.tables e below (doInvoke e (A.U.setTop g) [] mk a).1 (B.U.setTop { g with pc := g.pc + len, stack := v.toList ++ g.stack })) ∨
    (∃ (q : Addr) (B : Pt), Stand p l e R s m sargs below meth c B.U B.locs B.cells B.slots ∧ PostX A a q B ∧
      Steps p.tables e below (doInvoke e (A.U.setTop g) [] mk a).1 ((B.U.setTop g).pushFrame (.throwing q)))
section Payer
variable {l : Launch} {R : Room} {p : Program} {e : Env} {below : List Frame} {s : State} {sargs : Array Value} {y : MethodName} {len W9 : Nat}
theorem vx_back {ws : List Cond} {rm : Room} {Pc : Array Value → State → Prop} {Qc : Array Value → State → Outcome → State → Prop} {XC : String → State → State → Prop} {mc ms : Nat} {free : Addr → Prop} {bytes : ByteArray} {maxL : Nat} {ret : Option FieldType}
    (hM : vx_Met l y ws rm Pc Qc XC mc ms free) (hblind : FrameBlind Pc) (hrc : rm.cells = mc) (hrs : rm.slots = ms)
    (hframes : rm.frames + 1 ≤ R.frames) (hlocals : W9 + (maxL + 11) + rm.locals ≤ R.locals)
    (hws : ∀ w ∈ ws, ∀ a' U, s.WarmedH U.vm → w.before a' U = true) (hcode : Cond.code y bytes maxL ret ∈ ws) (hinit : ∀ a' U, s.WarmedH U.vm → (Cond.initialized y.cls).before a' U = true) :
    vx_Back l R p e below s sargs y len W9 (PreOf R mc ms Pc) (PostOf Qc mc ms free) (vx_Post XC mc ms free) := by
  intro m meth c A g ig mk a X hg hsize hdg hW hn hp
  have h1 : (headSpec ws rm).pre.before a A.U = true := atoms_intro fun w hw => hws w hw _ _ X.warmed
  have h2 : (Cond.code y bytes maxL ret).before a A.U = true := hws _ hcode _ _ X.warmed
  have h3 : (Cond.initialized y.cls).before a A.U = true := hinit _ _ X.warmed
  have h4 : A.cells + (headSpec ws rm).room.cells ≤ R.cells := by rw [show (headSpec ws rm).room.cells = mc from hrc]; exact hp.1
  have h5 : A.slots + (headSpec ws rm).room.slots ≤ R.slots := by rw [show (headSpec ws rm).room.slots = ms from hrs]; exact hp.2.1
  have hPc : Pc a (A.U.calling g mk a) := hblind _ _ _ _ hp.2.2
  obtain ⟨U, Ls, c0, s0⟩ := A
  dsimp only [Pt.U, Pt.locs, Pt.cells, Pt.slots] at h1 h2 h3 h4 h5 X hn hPc ⊢
  obtain ⟨methY, cY, hmY, hcY, -, hlY, -, -, -, -⟩ := Cond.code_spec hn h2
  obtain ⟨kY, hkY, -⟩ := className_of_methodNamed hn
  have hinitY : kY.init = .initialized := Cond.initialized_spec (findClass_of_methodNamed hn) hkY h3
  have h : At U g.method c below := by rw [hg]; exact X.here
  have hlocals9 : W9 + (maxL + 11) + (headSpec ws rm).room.locals ≤ R.locals := hlocals
  have happ : (headSpec ws rm).appliesLoose y e.platform (U.calling g mk a) = true :=
    Spec.appliesLoose_calling (g := g) h hdg hn hkY hinitY
      (X.room_calling (g := g) (R' := (headSpec ws rm).room) hsize hmY hcY hframes (by rw [hlY]; omega) h4 h5) h1
  obtain ⟨mid, hmid⟩ := h.above
  have hfr : (U.setTop g).frames = (.java g :: mid) ++ below := by rw [State.frames_setTop' g h.top, hmid]; rfl
  obtain ⟨o, s₂, hsteps, -, hend, hq⟩ := Steps.callFree hM p X.admits X.cas X.clock (acts := []) hfr happ hPc trivial
  have hq' : vx_Q Qc XC mc ms free a (U.calling g mk a) o s₂ := hq
  rw [State.frames_setTop' g h.top] at hend
  obtain ⟨g₀, hg0⟩ := Option.isSome_iff_exists.mp h.top
  obtain ⟨r, hr⟩ := State.topJava?_eq_some.mp hg0
  have hr' : (({ U with heap := s₂.heap, slotsUsed := s₂.slotsUsed } : State).setVm s₂.vm).frames = .java g₀ :: r := hr
  rcases hq' with ⟨hqc, L, hfe, hL⟩ | ⟨q, rfl, E, ce, L, hx, hce, hcv, hcl, hW₂, hsm, hL⟩
  · obtain ⟨⟨v, rfl⟩, hW₂, e2, q2, q3, q4, q5, q6⟩ := id hfe
    have e3 : s₂ = ({ (U.calling g mk a).setFrames s₂.frames with heap := s₂.heap, slotsUsed := s₂.slotsUsed } : State).setVm s₂.vm := by
      have : s₂ = ({ s₂ with vm := (U.calling g mk a).vm } : State).setVm s₂.vm := rfl
      rw [e2] at this
      exact this
    obtain ⟨c₂, i₂, len₂, hc₂, hd₂, hf₂⟩ := hend
    have hW' : U.WarmedH s₂.vm := hW₂
    have hcc : c₂ = c := by
      have h1 : s₂.code? g.method = U.code? g.method := by
        rw [State.code?_eq, State.code?_eq, hW'.alike.method?]
      exact Option.some.inj (hc₂.symm.trans (h1.trans h.code))
    subst hcc
    have hlen : len₂ = len := by rw [hdg] at hd₂; cases hd₂; rfl
    subst hlen
    have hs₂ : s₂ = (({ U with heap := s₂.heap, slotsUsed := s₂.slotsUsed } : State).setVm s₂.vm).setTop { g with pc := g.pc + len₂, stack := v.toList ++ g.stack } := by
      refine e3.trans ?_
      rw [hf₂, State.calling_eq h.top, State.setFrames_setFrames, State.setTop_of_frames _ hr', hr]
      rfl
    have hsame : U.sameButNew ({ U with heap := s₂.heap, slotsUsed := s₂.slotsUsed } : State) L mc ms := by
      refine ⟨?_, q2, q3, q4, q5, q6⟩
      obtain ⟨t, ht, -⟩ := State.frames_cons hr
      show ({ U with heap := s₂.heap, slotsUsed := s₂.slotsUsed } : State) = { U.setFrames U.frames with heap := s₂.heap, slotsUsed := s₂.slotsUsed }
      rw [State.setFrames_self ht]
    subst hg
    refine Or.inl ⟨v, ⟨(({ U with heap := s₂.heap, slotsUsed := s₂.slotsUsed } : State).setVm s₂.vm), Ls ++ L, c0 + mc, s0 + ms⟩,
      ⟨X.admits, X.cas, X.clock, X.frames, X.room, X.hears, X.method, X.code, (X.here.setHeapUsed s₂.heap s₂.slotsUsed).setVm hW'.alike, X.tail, State.WarmedH.trans X.warmed hW', X.limits, X.bytes, X.same.trans (hsame.setVm s.vm)⟩,
      ⟨g, mk, s₂, L, rfl, rfl, hqc, rfl, hL, rfl, rfl⟩, ?_⟩
    show Steps p.tables e below _ ((({ U with heap := s₂.heap, slotsUsed := s₂.slotsUsed } : State).setVm s₂.vm).setTop { g with pc := g.pc + len₂, stack := v.toList ++ g.stack })
    rw [← hs₂]
    exact hsteps
  · obtain ⟨e2, q2, q3, q4, q5, q6⟩ := id hsm
    have e3 : s₂ = ({ (U.calling g mk a).setFrames s₂.frames with heap := s₂.heap, slotsUsed := s₂.slotsUsed } : State).setVm s₂.vm := by
      have : s₂ = ({ s₂ with vm := (U.calling g mk a).vm } : State).setVm s₂.vm := rfl
      rw [e2] at this
      exact this
    have hf₂ : s₂.frames = .throwing q :: .java g :: U.frames.tail := hend
    have hW' : U.WarmedH s₂.vm := hW₂
    have hs₂ : s₂ = ((({ U with heap := s₂.heap, slotsUsed := s₂.slotsUsed } : State).setVm s₂.vm).setTop g).pushFrame (.throwing q) := by
      refine e3.trans ?_
      rw [hf₂, State.calling_eq h.top, State.setFrames_setFrames, State.pushFrame, State.frames_setTop _ hr', State.setTop_of_frames _ hr', State.setFrames_setFrames, hr]
      rfl
    have hsame : U.sameButNew ({ U with heap := s₂.heap, slotsUsed := s₂.slotsUsed } : State) L mc ms := by
      refine ⟨?_, q2, q3, q4, q5, q6⟩
      obtain ⟨t, ht, -⟩ := State.frames_cons hr
      show ({ U with heap := s₂.heap, slotsUsed := s₂.slotsUsed } : State) = { U.setFrames U.frames with heap := s₂.heap, slotsUsed := s₂.slotsUsed }
      rw [State.setFrames_self ht]
    subst hg
    refine Or.inr ⟨q, ⟨(({ U with heap := s₂.heap, slotsUsed := s₂.slotsUsed } : State).setVm s₂.vm), Ls ++ L, c0 + mc, s0 + ms⟩,
      ⟨X.admits, X.cas, X.clock, X.frames, X.room, X.hears, X.method, X.code, (X.here.setHeapUsed s₂.heap s₂.slotsUsed).setVm hW'.alike, X.tail, State.WarmedH.trans X.warmed hW', X.limits, X.bytes, X.same.trans (hsame.setVm s.vm)⟩,
      ⟨g, mk, s₂, L, E, ce, rfl, rfl, hx, hce, hcv, hcl, rfl, hL, rfl, rfl⟩, ?_⟩
    show Steps p.tables e below _ (((({ U with heap := s₂.heap, slotsUsed := s₂.slotsUsed } : State).setVm s₂.vm).setTop g).pushFrame (.throwing q))
    rw [← hs₂]
    exact hsteps
end Payer
section Calls
variable {p : Program} {l : Launch} {e : Env} {R : Room} {s : State} {m : MethodId} {args : Array Value} {below : List Frame} {meth : Method} {c : Code} {T : State} {locs : List Loc} {cells slots : Nat}
theorem vx_callV (X : Stand p l e R s m args below meth c T locs cells slots) (hexec : p.tables.exec = Jvm.exec) {own C : String} {index : Nat} {y : MethodName} {bytes : ByteArray} {maxL : Nat} {ret : Option FieldType}
    (hown : s.vm.findClass own = some m.cls) (hlink : (Cond.methodLink own index y).before args s = true) (hinst : (Cond.instanceMethod y).before args s = true) (hsel : (Cond.selects C y y).before args s = true)
    (hcode : (Cond.code y bytes maxL ret).before args s = true) (hy : y.cls ≠ "java/lang/invoke/MethodHandle" ∧ y.cls ≠ "java/lang/invoke/VarHandle")
    {W9 : Nat} {Pre : Pt → Array Value → Prop} {Post : Pt → Array Value → Option Value → Pt → Prop} {PostX : Pt → Array Value → Addr → Pt → Prop} (hK : vx_Back l R p e below s args y 3 W9 Pre Post PostX)
    {b : Addr} {cellB : Cell} (hcell : T.heap[b]? = some cellB) (hobj : cellB.vm.isStatics = false) (hcls : s.vm.findClass C = some cellB.cls)
    {g : JFrame} (hg : g.method = m) (hsize : g.locals.size = c.maxLocals) {argsL rest : List Value} (hlen : ∀ sig, parseMethodDescriptor y.desc = some sig → argsL.length = sig.parameters.length)
    (hstack : g.stack = argsL.reverse ++ .ref b :: rest) (hW : 2 * g.monitorRoom + (rest.map fun v => v.category).sum ≤ W9) (hdg : decode c.code g.pc = .ok (.invokevirtual index, 3))
    (hpre : ∀ vm₁, s.WarmedH vm₁ → Pre ⟨T.setVm vm₁, locs, cells, slots⟩ (Value.ref b :: argsL).toArray) :
    (∃ (v : Option Value) (vm₁ : Vm) (B : Pt), s.WarmedH vm₁ ∧ Stand p l e R s m args below meth c B.U B.locs B.cells B.slots ∧ Post ⟨T.setVm vm₁, locs, cells, slots⟩ (Value.ref b :: argsL).toArray v B ∧
      ∀ target, Steps p.tables e below (B.U.setTop { g with pc := g.pc + 3, stack := v.toList ++ rest }) target → Steps p.tables e below (T.setTop g) target) ∨
    (∃ (q : Addr) (vm₁ : Vm) (B : Pt), s.WarmedH vm₁ ∧ Stand p l e R s m args below meth c B.U B.locs B.cells B.slots ∧ PostX ⟨T.setVm vm₁, locs, cells, slots⟩ (Value.ref b :: argsL).toArray q B ∧
      Steps p.tables e below (T.setTop g) ((B.U.setTop { g with stack := rest }).pushFrame (.throwing q))) := by
  obtain ⟨mk, methM, hnamed, hmethM, hstM, habM⟩ := Cond.instanceMethod_spec hinst
  obtain ⟨methM', cM, hmethM', -, -, -, -, -, -, hsigM⟩ := Cond.code_spec hnamed hcode
  cases hmethM.symm.trans hmethM'
  obtain ⟨c2, r2, m2, q1, q2, q3, q4, kP, hkP, hkPi⟩ := Cond.selects_spec hsel
  cases hcls.symm.trans q1
  cases (State.methodFound?_of_named hnamed hy).symm.trans q2
  cases hnamed.symm.trans q3
  have hselP : selectMethod e.platform s.vm cellB.cls mk = .method mk := by rw [Launch.admits_selectMethod X.admits]; exact q4
  obtain ⟨vm₁, X₁, hstep₁⟩ := X.invokevirtual hexec hown hlink hnamed hmethM hstM hkP hkPi hy (a := b) (cell := cellB) hcell
    (fun z h => by rw [h] at hobj; cases hobj) hselP hmethM habM hkP hkPi (g := g) hg (argsL := argsL) (rest := rest) (hlen _ hsigM) hstack hdg
  rcases hK m meth c ⟨T.setVm vm₁, locs, cells, slots⟩ { g with stack := rest } (.invokevirtual index) mk (Value.ref b :: argsL).toArray X₁ hg hsize hdg hW (X₁.named hnamed) (hpre vm₁ X₁.warmed) with ⟨v, B, X', hpost, hsteps⟩ | ⟨q, B, X', hpost, hsteps⟩
  · exact Or.inl ⟨v, vm₁, B, X₁.warmed, X', hpost, fun target h => hstep₁ _ fun acts => by rw [doInvoke_state]; exact hsteps.trans h⟩
  · exact Or.inr ⟨q, vm₁, B, X₁.warmed, X', hpost, hstep₁ _ fun acts => by rw [doInvoke_state]; exact hsteps⟩
theorem vx_callS (X : Stand p l e R s m args below meth c T locs cells slots) (hexec : p.tables.exec = Jvm.exec) {own : String} {index : Nat} {y : MethodName} {bytes : ByteArray} {maxL : Nat} {ret : Option FieldType}
    (hown : s.vm.findClass own = some m.cls) (hlink : (Cond.methodLink own index y).before args s = true) (hstat : (Cond.static y).before args s = true) (hinit : (Cond.initialized y.cls).before args s = true)
    (hcode : (Cond.code y bytes maxL ret).before args s = true) (hy : y.cls ≠ "java/lang/invoke/MethodHandle" ∧ y.cls ≠ "java/lang/invoke/VarHandle")
    {W9 : Nat} {Pre : Pt → Array Value → Prop} {Post : Pt → Array Value → Option Value → Pt → Prop} {PostX : Pt → Array Value → Addr → Pt → Prop} (hK : vx_Back l R p e below s args y 3 W9 Pre Post PostX)
    {g : JFrame} (hg : g.method = m) (hsize : g.locals.size = c.maxLocals) {argsL rest : List Value} (hlen : ∀ sig, parseMethodDescriptor y.desc = some sig → argsL.length = sig.parameters.length)
    (hstack : g.stack = argsL.reverse ++ rest) (hW : 2 * g.monitorRoom + (rest.map fun v => v.category).sum ≤ W9) (hdg : decode c.code g.pc = .ok (.invokestatic index, 3))
    (hpre : ∀ vm₁, s.WarmedH vm₁ → Pre ⟨T.setVm vm₁, locs, cells, slots⟩ argsL.toArray) :
    (∃ (v : Option Value) (vm₁ : Vm) (B : Pt), s.WarmedH vm₁ ∧ Stand p l e R s m args below meth c B.U B.locs B.cells B.slots ∧ Post ⟨T.setVm vm₁, locs, cells, slots⟩ argsL.toArray v B ∧
      ∀ target, Steps p.tables e below (B.U.setTop { g with pc := g.pc + 3, stack := v.toList ++ rest }) target → Steps p.tables e below (T.setTop g) target) ∨
    (∃ (q : Addr) (vm₁ : Vm) (B : Pt), s.WarmedH vm₁ ∧ Stand p l e R s m args below meth c B.U B.locs B.cells B.slots ∧ PostX ⟨T.setVm vm₁, locs, cells, slots⟩ argsL.toArray q B ∧
      Steps p.tables e below (T.setTop g) ((B.U.setTop { g with stack := rest }).pushFrame (.throwing q))) := by
  obtain ⟨mk, hnamed⟩ := Cond.code_named hcode
  obtain ⟨methM, cM, hmethM, -, -, -, -, -, -, hsigM⟩ := Cond.code_spec hnamed hcode
  have hstatic : methM.isStatic = true := Cond.static_spec hnamed hmethM hstat
  obtain ⟨kP, hkP, -⟩ := className_of_methodNamed hnamed
  have hinitP : kP.init = .initialized := Cond.initialized_spec (findClass_of_methodNamed hnamed) hkP hinit
  obtain ⟨vm₁, X₁, hstep₁⟩ := X.invokestatic hexec hown hlink hnamed hmethM hstatic hkP hinitP hy (g := g) hg (argsL := argsL) (rest := rest) (hlen _ hsigM) hstack hdg
  rcases hK m meth c ⟨T.setVm vm₁, locs, cells, slots⟩ { g with stack := rest } (.invokestatic index) mk argsL.toArray X₁ hg hsize hdg hW (X₁.named hnamed) (hpre vm₁ X₁.warmed) with ⟨v, B, X', hpost, hsteps⟩ | ⟨q, B, X', hpost, hsteps⟩
  · exact Or.inl ⟨v, vm₁, B, X₁.warmed, X', hpost, fun target h => hstep₁ _ fun acts => by rw [doInvoke_state]; exact hsteps.trans h⟩
  · exact Or.inr ⟨q, vm₁, B, X₁.warmed, X', hpost, hstep₁ _ fun acts => by rw [doInvoke_state]; exact hsteps⟩
end Calls
theorem vx_cls {s : State} {T : State} {vm₁ : Vm} {E : String} {k : ClassId} (hW : s.WarmedH vm₁) (h : (T.setVm vm₁).vm.findClass E = some k) : s.vm.findClass E = some k := by
  have h1 : vm₁.findClass E = some k := h
  rw [hW.alike.findClass] at h1
  exact h1
/-- the method's frame g, with q thrown over it -/
def vx_W (p : Program) (l : Launch) (e : Env) (R : Room) (s : State) (m : MethodId) (args : Array Value) (below : List Frame) (meth : Method) (c : Code) (H : Heap) (locs : List Loc) (cells slots : Nat) (Q : State → Prop) (g : JFrame) (q : Addr) : Prop :=
  ∀ T : State, T.heap = H → Stand p l e R s m args below meth c T locs cells slots → ∃ t, Steps p.tables e below ((T.setTop g).pushFrame (.throwing q)) t ∧ Q t
def vx_Run (p : Program) (l : Launch) (e : Env) (R : Room) (s : State) (m : MethodId) (args : Array Value) (below : List Frame) (meth : Method) (c : Code) (H : Heap) (locs : List Loc) (cells slots mc ms : Nat) (g : JFrame) (rest : List Value) (Qa : State → Outcome → State → Prop) (XC : String → State → State → Prop) (free : Addr → Prop) : Prop :=
  ∀ T : State, T.heap = H → Stand p l e R s m args below meth c T locs cells slots →
    (∃ (v : Option Value) (st₀ t T' : State) (L : List Loc), st₀.heap = H ∧ Stand p l e R s m args below meth c T' (locs ++ L) (cells + mc) (slots + ms) ∧ (∀ q ∈ L, free q.base) ∧ T'.heap = t.heap ∧ T'.vm = t.vm ∧ Qa st₀ (.returned v) t ∧
      Goes p e below T g T' { g with pc := g.pc + 3, stack := v.toList ++ rest }) ∨
    (∃ (q : Addr) (st₀ t T' : State) (L : List Loc) (E : String) (ce : Cell), st₀.heap = H ∧ Stand p l e R s m args below meth c T' (locs ++ L) (cells + mc) (slots + ms) ∧ (∀ z ∈ L, free z.base) ∧ T'.heap = t.heap ∧ T'.vm = t.vm ∧ XC E st₀ t ∧ t.heap[q]? = some ce ∧ ce.vm = .none ∧ s.vm.findClass E = some ce.cls ∧
      Steps p.tables e below (T.setTop g) ((T'.setTop { g with stack := rest }).pushFrame (.throwing q)))
def vx_X {S : Type} (px : S → Prop) (B : String → S → State → Prop) (A : Nat → Prop) : String → State → State → Prop := fun E st t => ∃ u : S, px u ∧ B E u t ∧ va_F A st t
section Runs
variable {p : Program} {l : Launch} {e : Env} {R : Room} {s : State} {m : MethodId} {args : Array Value} {below : List Frame} {meth : Method} {c : Code} {H : Heap} {locs : List Loc} {cells slots : Nat}
variable {y : MethodName} {bytes cc : ByteArray} {maxL nL mc ms n index : Nat} {ret : Option FieldType} {ws : List Cond} {rm : Room} {Pc : Array Value → State → Prop} {Qc : Array Value → State → Outcome → State → Prop} {XC : String → State → State → Prop} {free : Addr → Prop} {Ts : List Cond} {own C : String} {b : Addr} {As rest : List Value} {g : JFrame}
theorem vx_callBack (cb : CallB R s args own index y bytes maxL ret ws rm mc ms n) (hM : vx_Met l y ws rm Pc Qc XC mc ms free) (hbl : FrameBlind Pc) : vx_Back l R p e below s args y 3 8 (PreOf R mc ms Pc) (PostOf Qc mc ms free) (vx_Post XC mc ms free) := by
  obtain ⟨hrc, hrs, hfr, hlo, hws, hcw, -, hini, -⟩ := cb
  exact vx_back (bytes := bytes) (maxL := maxL) (ret := ret) hM hbl hrc hrs hfr hlo hws hcw (fun a' U hW => word_at hW (Or.inl (by first | rfl | simp [Cond.onTables, Cond.keeps, Cond.steady])) hini)
theorem vx_runV (S : CallFix p m c cc nL s args Ts own) (hM : vx_Met l y ws rm Pc Qc XC mc ms free) (cw : CallW R s args own C index y bytes maxL ret ws rm mc ms n) (hp : PreV s H C b Pc As)
    (hg : g.method = m) (hn : As.length = n) (hsize : g.locals.size = nL) (hstack : g.stack = As.reverse ++ .ref b :: rest) (hW : 2 * g.monitorRoom + (rest.map fun v => v.category).sum ≤ 8) (hdg : decode cc g.pc = .ok (.invokevirtual index, 3)) (hf : cells + mc ≤ R.cells ∧ slots + ms ≤ R.slots) :
    vx_Run p l e R s m args below meth c H locs cells slots mc ms g rest (Qc (Value.ref b :: As).toArray) XC free := by
  have hK : vx_Back l R p e below s args y 3 8 (PreOf R mc ms Pc) (PostOf Qc mc ms free) (vx_Post XC mc ms free) := vx_callBack cw.1 hM hp.1
  obtain ⟨⟨-, -, -, -, -, -, hcode, -, hy, hlen, hl⟩, hin, hse⟩ := cw
  obtain ⟨hx, hb, hml, ho, -⟩ := S
  obtain ⟨-, ⟨cellB, hcB, hoB, hclB⟩, hPc⟩ := hp
  intro T hT X
  rcases vx_callV X hx (C := C) (bytes := bytes) (maxL := maxL) (ret := ret) ho hl hin hse hcode hy hK (by rw [hT]; exact hcB) hoB hclB hg (hsize.trans hml.symm) (argsL := As) (rest := rest) (fun sig h => hn.trans (hlen sig h)) hstack hW (by rw [hb]; exact hdg)
    (fun vm₁ hW₁ => ⟨hf.1, hf.2, hPc (T.setVm vm₁) hT hW₁⟩) with ⟨v, vm₁, ⟨U', l2, c2, s2⟩, hW₁, X', ⟨g', mk, t, L, e1, e2, hq, h1, hL, h2, h3⟩, st⟩ | ⟨q, vm₁, ⟨U', l2, c2, s2⟩, hW₁, X', ⟨g', mk, t, L, E, ce, e1, e2, hq, hce, hcv, hcl, h1, hL, h2, h3⟩, st⟩
  · dsimp only [Pt.U, Pt.locs, Pt.cells, Pt.slots] at X' e1 e2 h1 h2 h3 st
    subst h1; subst h2; subst h3
    exact Or.inl ⟨v, (T.setVm vm₁).calling g' mk (Value.ref b :: As).toArray, t, U', L, hT, X', hL, e1, e2, hq, st⟩
  · dsimp only [Pt.U, Pt.locs, Pt.cells, Pt.slots] at X' e1 e2 h1 h2 h3 st hcl
    subst h1; subst h2; subst h3
    exact Or.inr ⟨q, (T.setVm vm₁).calling g' mk (Value.ref b :: As).toArray, t, U', L, E, ce, hT, X', hL, e1, e2, hq, hce, hcv, vx_cls hW₁ hcl, st⟩
theorem vx_runS (S : CallFix p m c cc nL s args Ts own) (hM : vx_Met l y ws rm Pc Qc XC mc ms free) (cw : CallB R s args own index y bytes maxL ret ws rm mc ms n ∧ (Cond.static y).before args s = true) (hp : PreS s H Pc As)
    (hg : g.method = m) (hn : As.length = n) (hsize : g.locals.size = nL) (hstack : g.stack = As.reverse ++ rest) (hW : 2 * g.monitorRoom + (rest.map fun v => v.category).sum ≤ 8) (hdg : decode cc g.pc = .ok (.invokestatic index, 3)) (hf : cells + mc ≤ R.cells ∧ slots + ms ≤ R.slots) :
    vx_Run p l e R s m args below meth c H locs cells slots mc ms g rest (Qc As.toArray) XC free := by
  have hK : vx_Back l R p e below s args y 3 8 (PreOf R mc ms Pc) (PostOf Qc mc ms free) (vx_Post XC mc ms free) := vx_callBack cw.1 hM hp.1
  obtain ⟨⟨-, -, -, -, -, -, hcode, hini, hy, hlen, hl⟩, hstt⟩ := cw
  obtain ⟨hx, hb, hml, ho, -⟩ := S
  intro T hT X
  rcases vx_callS X hx (bytes := bytes) (maxL := maxL) (ret := ret) ho hl hstt hini hcode hy hK hg (hsize.trans hml.symm) (argsL := As) (rest := rest) (fun sig h => hn.trans (hlen sig h)) hstack hW (by rw [hb]; exact hdg)
    (fun vm₁ hW₁ => ⟨hf.1, hf.2, hp.2 (T.setVm vm₁) hT hW₁⟩) with ⟨v, vm₁, ⟨U', l2, c2, s2⟩, hW₁, X', ⟨g', mk, t, L, e1, e2, hq, h1, hL, h2, h3⟩, st⟩ | ⟨q, vm₁, ⟨U', l2, c2, s2⟩, hW₁, X', ⟨g', mk, t, L, E, ce, e1, e2, hq, hce, hcv, hcl, h1, hL, h2, h3⟩, st⟩
  · dsimp only [Pt.U, Pt.locs, Pt.cells, Pt.slots] at X' e1 e2 h1 h2 h3 st
    subst h1; subst h2; subst h3
    exact Or.inl ⟨v, (T.setVm vm₁).calling g' mk As.toArray, t, U', L, hT, X', hL, e1, e2, hq, st⟩
  · dsimp only [Pt.U, Pt.locs, Pt.cells, Pt.slots] at X' e1 e2 h1 h2 h3 st hcl
    subst h1; subst h2; subst h3
    exact Or.inr ⟨q, (T.setVm vm₁).calling g' mk As.toArray, t, U', L, E, ce, hT, X', hL, e1, e2, hq, hce, hcv, vx_cls hW₁ hcl, st⟩
end Runs
section Rows
variable {p : Program} {l : Launch} {e : Env} {R : Room} {s : State} {m : MethodId} {args : Array Value} {below : List Frame} {meth : Method} {c : Code} {H : Heap} {locs : List Loc} {cells slots : Nat} {Q : State → Prop}
variable {mc ms : Nat} {free : Addr → Prop} {A0 A1 : Nat → Prop} {H0 : Heap} {a : Array Value} {pc : Nat} {ls : Array Slot} {st0 rest : List Value}
theorem vx_keep {st₀ t T' : State} {L : List Loc} (h0 : st₀.heap = H) (e1 : T'.heap = t.heap) (hS : va_S A0 H0 H locs) (hA : ∀ q, q < H.size → A1 q → A0 q) (hf : ∀ q, free q → A0 q) (hL : ∀ q ∈ L, free q.base) (hF : va_F A1 st₀ t) :
    H.size ≤ T'.heap.size ∧ (∀ q : Nat, q < H.size → ¬ A1 q → T'.heap[q]? = H[q]?) ∧ va_S A0 H0 T'.heap (locs ++ L) := by
  obtain ⟨hz, hk⟩ := hF
  rw [h0] at hz hk
  exact ⟨by rw [e1]; exact hz, fun q h1 h2 => by rw [e1]; exact hk q h1 h2,
    ⟨Nat.le_trans hS.1 (by rw [e1]; exact hz), fun q h1 h2 => by rw [e1, hk q (Nat.lt_of_lt_of_le h1 hS.1) (fun z => h2 (hA q (Nat.lt_of_lt_of_le h1 hS.1) z))]; exact hS.2.1 q h1 h2, fun q hq => by
      rcases List.mem_append.mp hq with h | h
      · exact hS.2.2 q h
      · exact hf _ (hL q h)⟩⟩
theorem vx_calli {S SX : Type} {post : Int32 → S → Prop} {px : SX → Prop} {B : S → State → Prop} {BX : String → SX → State → Prop} {AX : Nat → Prop} (hr : vx_Run p l e R s m args below meth c H locs cells slots mc ms (F0 m pc ls st0) rest (va_Qi post B A1 a) (vx_X px BX AX) free) (hS : va_S A0 H0 H locs) (hA : ∀ q, q < H.size → A1 q → A0 q) (hf : ∀ q, free q → A0 q) (hAX : ∀ q, q < H.size → AX q → A0 q)
    (kx : ∀ (E : String) (ce : Cell) (q9 : Addr) (u : SX) (t : State) (H1 : Heap) (locs1 : List Loc), t.heap = H1 → s.vm.Alike t.vm → px u → BX E u t → H.size ≤ H1.size → (∀ q : Nat, q < H.size → ¬ AX q → H1[q]? = H[q]?) → va_S A0 H0 H1 locs1 → H1[q9]? = some ce → ce.vm = .none → s.vm.findClass E = some ce.cls → vx_W p l e R s m args below meth c H1 locs1 (cells + mc) (slots + ms) Q (F0 m pc ls rest) q9)
    (kk : ∀ (r : Int32) (u : S) (t : State) (H1 : Heap) (locs1 : List Loc), t.heap = H1 → s.vm.Alike t.vm → post r u → B u t → H.size ≤ H1.size → (∀ q : Nat, q < H.size → ¬ A1 q → H1[q]? = H[q]?) → va_S A0 H0 H1 locs1 → W p l e R s m args below meth c H1 locs1 (cells + mc) (slots + ms) Q (F0 m (pc + 3) ls (.int r :: rest))) : W p l e R s m args below meth c H locs cells slots Q (F0 m pc ls st0) := by
  intro T hT X
  rcases hr T hT X with ⟨v, st₀, t, T', L, h0, X', hL, e1, e2, ⟨⟨r, u, hv, hp, hb⟩, hF⟩, st⟩ | ⟨q, st₀, t, T', L, E, ce, h0, X', hL, e1, e2, ⟨u, hp, hb, hF⟩, hce, hcv, hcl, st⟩
  · cases hv
    obtain ⟨k1, k2, k3⟩ := vx_keep h0 e1 hS hA hf hL hF
    obtain ⟨t2, a1, b1⟩ := kk r u t T'.heap (locs ++ L) e1.symm (by rw [← e2]; exact X'.warmed.alike) hp hb k1 k2 k3 T' rfl X'
    exact ⟨t2, st t2 a1, b1⟩
  · obtain ⟨k1, k2, k3⟩ := vx_keep h0 e1 hS hAX hf hL hF
    obtain ⟨t2, a1, b1⟩ := kx E ce q u t T'.heap (locs ++ L) e1.symm (by rw [← e2]; exact X'.warmed.alike) hp hb k1 k2 k3 (by rw [e1]; exact hce) hcv hcl T' rfl X'
    exact ⟨t2, st.trans a1, b1⟩
theorem vx_calll {S SX : Type} {post : Int64 → S → Prop} {px : SX → Prop} {B : S → State → Prop} {BX : String → SX → State → Prop} {AX : Nat → Prop} (hr : vx_Run p l e R s m args below meth c H locs cells slots mc ms (F0 m pc ls st0) rest (va_Ql post B A1 a) (vx_X px BX AX) free) (hS : va_S A0 H0 H locs) (hA : ∀ q, q < H.size → A1 q → A0 q) (hf : ∀ q, free q → A0 q) (hAX : ∀ q, q < H.size → AX q → A0 q)
    (kx : ∀ (E : String) (ce : Cell) (q9 : Addr) (u : SX) (t : State) (H1 : Heap) (locs1 : List Loc), t.heap = H1 → s.vm.Alike t.vm → px u → BX E u t → H.size ≤ H1.size → (∀ q : Nat, q < H.size → ¬ AX q → H1[q]? = H[q]?) → va_S A0 H0 H1 locs1 → H1[q9]? = some ce → ce.vm = .none → s.vm.findClass E = some ce.cls → vx_W p l e R s m args below meth c H1 locs1 (cells + mc) (slots + ms) Q (F0 m pc ls rest) q9)
    (kk : ∀ (r : Int64) (u : S) (t : State) (H1 : Heap) (locs1 : List Loc), t.heap = H1 → s.vm.Alike t.vm → post r u → B u t → H.size ≤ H1.size → (∀ q : Nat, q < H.size → ¬ A1 q → H1[q]? = H[q]?) → va_S A0 H0 H1 locs1 → W p l e R s m args below meth c H1 locs1 (cells + mc) (slots + ms) Q (F0 m (pc + 3) ls (.long r :: rest))) : W p l e R s m args below meth c H locs cells slots Q (F0 m pc ls st0) := by
  intro T hT X
  rcases hr T hT X with ⟨v, st₀, t, T', L, h0, X', hL, e1, e2, ⟨⟨r, u, hv, hp, hb⟩, hF⟩, st⟩ | ⟨q, st₀, t, T', L, E, ce, h0, X', hL, e1, e2, ⟨u, hp, hb, hF⟩, hce, hcv, hcl, st⟩
  · cases hv
    obtain ⟨k1, k2, k3⟩ := vx_keep h0 e1 hS hA hf hL hF
    obtain ⟨t2, a1, b1⟩ := kk r u t T'.heap (locs ++ L) e1.symm (by rw [← e2]; exact X'.warmed.alike) hp hb k1 k2 k3 T' rfl X'
    exact ⟨t2, st t2 a1, b1⟩
  · obtain ⟨k1, k2, k3⟩ := vx_keep h0 e1 hS hAX hf hL hF
    obtain ⟨t2, a1, b1⟩ := kx E ce q u t T'.heap (locs ++ L) e1.symm (by rw [← e2]; exact X'.warmed.alike) hp hb k1 k2 k3 (by rw [e1]; exact hce) hcv hcl T' rfl X'
    exact ⟨t2, st.trans a1, b1⟩
theorem vx_callf {S SX : Type} {post : UInt32 → S → Prop} {px : SX → Prop} {B : S → State → Prop} {BX : String → SX → State → Prop} {AX : Nat → Prop} (hr : vx_Run p l e R s m args below meth c H locs cells slots mc ms (F0 m pc ls st0) rest (va_Qf post B A1 a) (vx_X px BX AX) free) (hS : va_S A0 H0 H locs) (hA : ∀ q, q < H.size → A1 q → A0 q) (hf : ∀ q, free q → A0 q) (hAX : ∀ q, q < H.size → AX q → A0 q)
    (kx : ∀ (E : String) (ce : Cell) (q9 : Addr) (u : SX) (t : State) (H1 : Heap) (locs1 : List Loc), t.heap = H1 → s.vm.Alike t.vm → px u → BX E u t → H.size ≤ H1.size → (∀ q : Nat, q < H.size → ¬ AX q → H1[q]? = H[q]?) → va_S A0 H0 H1 locs1 → H1[q9]? = some ce → ce.vm = .none → s.vm.findClass E = some ce.cls → vx_W p l e R s m args below meth c H1 locs1 (cells + mc) (slots + ms) Q (F0 m pc ls rest) q9)
    (kk : ∀ (r : UInt32) (u : S) (t : State) (H1 : Heap) (locs1 : List Loc), t.heap = H1 → s.vm.Alike t.vm → post r u → B u t → H.size ≤ H1.size → (∀ q : Nat, q < H.size → ¬ A1 q → H1[q]? = H[q]?) → va_S A0 H0 H1 locs1 → W p l e R s m args below meth c H1 locs1 (cells + mc) (slots + ms) Q (F0 m (pc + 3) ls (.float r :: rest))) : W p l e R s m args below meth c H locs cells slots Q (F0 m pc ls st0) := by
  intro T hT X
  rcases hr T hT X with ⟨v, st₀, t, T', L, h0, X', hL, e1, e2, ⟨⟨r, u, hv, hp, hb⟩, hF⟩, st⟩ | ⟨q, st₀, t, T', L, E, ce, h0, X', hL, e1, e2, ⟨u, hp, hb, hF⟩, hce, hcv, hcl, st⟩
  · cases hv
    obtain ⟨k1, k2, k3⟩ := vx_keep h0 e1 hS hA hf hL hF
    obtain ⟨t2, a1, b1⟩ := kk r u t T'.heap (locs ++ L) e1.symm (by rw [← e2]; exact X'.warmed.alike) hp hb k1 k2 k3 T' rfl X'
    exact ⟨t2, st t2 a1, b1⟩
  · obtain ⟨k1, k2, k3⟩ := vx_keep h0 e1 hS hAX hf hL hF
    obtain ⟨t2, a1, b1⟩ := kx E ce q u t T'.heap (locs ++ L) e1.symm (by rw [← e2]; exact X'.warmed.alike) hp hb k1 k2 k3 (by rw [e1]; exact hce) hcv hcl T' rfl X'
    exact ⟨t2, st.trans a1, b1⟩
theorem vx_calld {S SX : Type} {post : UInt64 → S → Prop} {px : SX → Prop} {B : S → State → Prop} {BX : String → SX → State → Prop} {AX : Nat → Prop} (hr : vx_Run p l e R s m args below meth c H locs cells slots mc ms (F0 m pc ls st0) rest (va_Qd post B A1 a) (vx_X px BX AX) free) (hS : va_S A0 H0 H locs) (hA : ∀ q, q < H.size → A1 q → A0 q) (hf : ∀ q, free q → A0 q) (hAX : ∀ q, q < H.size → AX q → A0 q)
    (kx : ∀ (E : String) (ce : Cell) (q9 : Addr) (u : SX) (t : State) (H1 : Heap) (locs1 : List Loc), t.heap = H1 → s.vm.Alike t.vm → px u → BX E u t → H.size ≤ H1.size → (∀ q : Nat, q < H.size → ¬ AX q → H1[q]? = H[q]?) → va_S A0 H0 H1 locs1 → H1[q9]? = some ce → ce.vm = .none → s.vm.findClass E = some ce.cls → vx_W p l e R s m args below meth c H1 locs1 (cells + mc) (slots + ms) Q (F0 m pc ls rest) q9)
    (kk : ∀ (r : UInt64) (u : S) (t : State) (H1 : Heap) (locs1 : List Loc), t.heap = H1 → s.vm.Alike t.vm → post r u → B u t → H.size ≤ H1.size → (∀ q : Nat, q < H.size → ¬ A1 q → H1[q]? = H[q]?) → va_S A0 H0 H1 locs1 → W p l e R s m args below meth c H1 locs1 (cells + mc) (slots + ms) Q (F0 m (pc + 3) ls (.double r :: rest))) : W p l e R s m args below meth c H locs cells slots Q (F0 m pc ls st0) := by
  intro T hT X
  rcases hr T hT X with ⟨v, st₀, t, T', L, h0, X', hL, e1, e2, ⟨⟨r, u, hv, hp, hb⟩, hF⟩, st⟩ | ⟨q, st₀, t, T', L, E, ce, h0, X', hL, e1, e2, ⟨u, hp, hb, hF⟩, hce, hcv, hcl, st⟩
  · cases hv
    obtain ⟨k1, k2, k3⟩ := vx_keep h0 e1 hS hA hf hL hF
    obtain ⟨t2, a1, b1⟩ := kk r u t T'.heap (locs ++ L) e1.symm (by rw [← e2]; exact X'.warmed.alike) hp hb k1 k2 k3 T' rfl X'
    exact ⟨t2, st t2 a1, b1⟩
  · obtain ⟨k1, k2, k3⟩ := vx_keep h0 e1 hS hAX hf hL hF
    obtain ⟨t2, a1, b1⟩ := kx E ce q u t T'.heap (locs ++ L) e1.symm (by rw [← e2]; exact X'.warmed.alike) hp hb k1 k2 k3 (by rw [e1]; exact hce) hcv hcl T' rfl X'
    exact ⟨t2, st.trans a1, b1⟩
theorem vx_callv {S SX : Type} {post : S → Prop} {px : SX → Prop} {B : S → State → Prop} {BX : String → SX → State → Prop} {AX : Nat → Prop} (hr : vx_Run p l e R s m args below meth c H locs cells slots mc ms (F0 m pc ls st0) rest (va_Qv post B A1 a) (vx_X px BX AX) free) (hS : va_S A0 H0 H locs) (hA : ∀ q, q < H.size → A1 q → A0 q) (hf : ∀ q, free q → A0 q) (hAX : ∀ q, q < H.size → AX q → A0 q)
    (kx : ∀ (E : String) (ce : Cell) (q9 : Addr) (u : SX) (t : State) (H1 : Heap) (locs1 : List Loc), t.heap = H1 → s.vm.Alike t.vm → px u → BX E u t → H.size ≤ H1.size → (∀ q : Nat, q < H.size → ¬ AX q → H1[q]? = H[q]?) → va_S A0 H0 H1 locs1 → H1[q9]? = some ce → ce.vm = .none → s.vm.findClass E = some ce.cls → vx_W p l e R s m args below meth c H1 locs1 (cells + mc) (slots + ms) Q (F0 m pc ls rest) q9)
    (kk : ∀ (u : S) (t : State) (H1 : Heap) (locs1 : List Loc), t.heap = H1 → s.vm.Alike t.vm → post u → B u t → H.size ≤ H1.size → (∀ q : Nat, q < H.size → ¬ A1 q → H1[q]? = H[q]?) → va_S A0 H0 H1 locs1 → W p l e R s m args below meth c H1 locs1 (cells + mc) (slots + ms) Q (F0 m (pc + 3) ls (rest))) : W p l e R s m args below meth c H locs cells slots Q (F0 m pc ls st0) := by
  intro T hT X
  rcases hr T hT X with ⟨v, st₀, t, T', L, h0, X', hL, e1, e2, ⟨⟨u, hv, hp, hb⟩, hF⟩, st⟩ | ⟨q, st₀, t, T', L, E, ce, h0, X', hL, e1, e2, ⟨u, hp, hb, hF⟩, hce, hcv, hcl, st⟩
  · cases hv
    obtain ⟨k1, k2, k3⟩ := vx_keep h0 e1 hS hA hf hL hF
    obtain ⟨t2, a1, b1⟩ := kk u t T'.heap (locs ++ L) e1.symm (by rw [← e2]; exact X'.warmed.alike) hp hb k1 k2 k3 T' rfl X'
    exact ⟨t2, st t2 a1, b1⟩
  · obtain ⟨k1, k2, k3⟩ := vx_keep h0 e1 hS hAX hf hL hF
    obtain ⟨t2, a1, b1⟩ := kx E ce q u t T'.heap (locs ++ L) e1.symm (by rw [← e2]; exact X'.warmed.alike) hp hb k1 k2 k3 (by rw [e1]; exact hce) hcv hcl T' rfl X'
    exact ⟨t2, st.trans a1, b1⟩
/-- caught by the row x of this method's table; the rows ahead don't take it -/
theorem vx_catch {own name : String} {E : String} {ce : Cell} {q : Addr} (hown : s.vm.findClass own = some m.cls) (pre : List ExceptionTableEntry) (x : ExceptionTableEntry) (suf : List ExceptionTableEntry) (hsplit : c.exceptionTable.toList = pre ++ x :: suf)
    (hpass : ∀ z ∈ pre, covers z pc = false ∨ (z.catchType ≠ 0 ∧ ∃ nm : String, (Cond.classLink own z.catchType nm).before args s = true ∧ va_Nc E nm s)) (hx : covers x pc = true) (h0 : x.catchType ≠ 0)
    (hlink : (Cond.classLink own x.catchType name).before args s = true) (hcast : (Cond.castable E name).before args s = true) (hcell : H[q]? = some ce) (hv : ce.vm = .none) (hcl : s.vm.findClass E = some ce.cls)
    (kk : W p l e R s m args below meth c H locs cells slots Q (F0 m x.handlerPc ls [.ref q])) : vx_W p l e R s m args below meth c H locs cells slots Q (F0 m pc ls rest) q := by
  intro T hT X
  have hpl : e.platform.magicAccessors = ({} : Platform).magicAccessors := by rw [X.admits.platform]
  obtain ⟨c3, c4, hc3, hc4, hasg⟩ := Cond.castable_spec hcast
  cases Option.some.inj (hc3.symm.trans hcl)
  obtain ⟨c5, hc5, hcl5⟩ := Cond.classLink_spec hown hlink e.platform hpl
  cases Option.some.inj (hc4.symm.trans hc5)
  obtain ⟨vm', X', st⟩ := X.thenCaughtThrough q (g := F0 m pc ls rest) rfl (Steps.refl _) (by rw [hT]; exact hcell) (by rw [hv]; rfl) (by obtain ⟨k9, h9, -⟩ := Vm.findClass_spec hcl; exact ⟨k9, h9⟩) pre x suf hsplit
    (fun z hz => by
      rcases hpass z hz with h | ⟨hz0, nm, hl1, hn1⟩
      · exact Or.inl h
      · obtain ⟨c6, hc6, hcl6⟩ := Cond.classLink_spec hown hl1 e.platform hpl
        obtain ⟨a8, b8, h1, h2, h3⟩ := hn1
        cases Option.some.inj (h1.symm.trans hcl)
        cases Option.some.inj (h2.symm.trans hc6)
        exact Or.inr ⟨hz0, _, hcl6, h3⟩) hx (Or.inr ⟨h0, c4, hcl5, hasg⟩)
  obtain ⟨t, a1, b1⟩ := kk (T.setVm vm') hT X'
  exact ⟨t, st.trans a1, b1⟩
end Rows
section Ends
variable {p : Program} {l : Launch} {e : Env} {R : Room} {s : State} {m : MethodId} {args : Array Value} {below : List Frame} {meth : Method} {c : Code} {H : Heap} {locs : List Loc} {cells slots : Nat} {Q : State → Prop}
variable {mc ms : Nat} {free : Addr → Prop} {A0 A1 : Nat → Prop} {H0 : Heap} {a : Array Value} {ls : Array Slot} {st0 rest : List Value}
variable {Qc : Array Value → State → Outcome → State → Prop} {XC : String → State → State → Prop}
/-- what a body that may throw owes at its end -/
def vx_MQ (below : List Frame) (Qc : Array Value → State → Outcome → State → Prop) (XC : String → State → State → Prop) (a : Array Value) (s : State) (mc ms : Nat) (free : Addr → Prop) : State → Prop := fun t =>
  ∃ o, t.status = .running ∧ Ended t below o ∧ vx_Q Qc XC mc ms free a s o t
theorem vx_ret {g : JFrame} {mc ms : Nat} (k : W p l e R s m args below meth c H locs cells slots (MQ below Qc args s mc ms free) g) : W p l e R s m args below meth c H locs cells slots (vx_MQ below Qc XC args s mc ms free) g := by
  intro T hT X
  obtain ⟨t, a1, o, b1, b2, b3, b4⟩ := k T hT X
  exact ⟨t, a1, o, b1, b2, Or.inl ⟨b3, b4⟩⟩
/-- not caught here: it goes on to the caller -/
theorem vx_widen {g : JFrame} {q : Addr} {k n : Nat} (h1 : cells ≤ k) (h2 : slots ≤ n) (kk : vx_W p l e R s m args below meth c H locs k n Q g q) : vx_W p l e R s m args below meth c H locs cells slots Q g q := fun T hT X => kk T hT (stand_widen X h1 h2)
theorem vx_out {pc : Nat} {E : String} {ce : Cell} {q : Addr} {mc ms : Nat} (hout : ∀ x ∈ c.exceptionTable.toList, covers x pc = false) (hlocks : meth.locks = false) (hcell : H[q]? = some ce) (hv : ce.vm = .none) (hcl : s.vm.findClass E = some ce.cls)
    (hx : ∀ t : State, t.heap = H → s.vm.Alike t.vm → XC E s t) (hf : ∀ z ∈ locs, free z.base) (hc : cells ≤ mc) (hs : slots ≤ ms) :
    vx_W p l e R s m args below meth c H locs cells slots (vx_MQ below Qc XC args s mc ms free) (F0 m pc ls rest) q := by
  intro T hT X
  obtain ⟨st1, hrun, hend, hW, hsm⟩ := X.leaveThrown q (g := F0 m pc ls rest) rfl rfl rfl hout hlocks
  have hcell9 : (T.setFrames (.throwing q :: below)).heap[q]? = some ce := by
    show T.heap[q]? = some ce
    rw [hT]; exact hcell
  exact ⟨_, st1, .threw q, hrun, hend, Or.inr ⟨q, rfl, E, ce, locs, hx _ hT hW.alike, hcell9, hv, hcl, hW, hsm.mono hc hs, hf⟩⟩
theorem vx_frame {U : State} {k n : Nat} (h : s.sameButNew ({ U with vm := s.vm } : State) locs k n) : s.heap.size ≤ U.heap.size ∧ ∀ q : Nat, q < s.heap.size → (∀ z ∈ locs, z.base ≠ q) → U.heap[q]? = s.heap[q]? := by
  obtain ⟨-, h2, -, -, -, h6⟩ := h
  refine ⟨h2, fun q hq hz => ?_⟩
  obtain ⟨c9, e1, e2, e3, e4⟩ := h6 q _ (Array.getElem?_eq_getElem hq)
  have hs : c9.slots = (s.heap[q]).slots := Array.ext_getElem? fun i => e4 i fun hm => hz _ hm rfl
  have h9 : c9 = s.heap[q] := by
    rw [hs] at e2
    exact e2
  have e5 : U.heap[q]? = some c9 := e1
  rw [e5, h9, Array.getElem?_eq_getElem hq]
/-- the words of a throw but the four that speak of the heap -/
def vx_no (w : Cond) : Bool := decide (w ≠ .isRef (.static Bundle.tN "UNASSIGNED_STACK" Bundle.steD)) && decide (w ≠ .isRef (.static Bundle.tN "SUPPRESSED_SENTINEL" Bundle.listD)) && decide (w ≠ .laysStatic Bundle.tN "UNASSIGNED_STACK" Bundle.steD) && decide (w ≠ .laysStatic Bundle.tN "SUPPRESSED_SENTINEL" Bundle.listD)
def vx_at0 (own : String) (ic : Nat) (X : String) (names : List String) : List Cond := (Bundle.ownAtoms0 own ic X names).filter vx_no
def vx_atS (own : String) (ic : Nat) (X : String) (names : List String) : List Cond := (Bundle.ownAtoms own ic X names).filter vx_no
/-- a word that the tables alone decide, or a good one -/
def vx_ot (w : Cond) : Bool := w.onTables || goodWord w
theorem vx_ot_at {args a' : Array Value} {s U : State} {w : Cond} (hW : s.WarmedH U.vm) (hvm : s.vm = U.vm) (hg : vx_ot w = true) (h : w.before args s = true) : w.before a' U = true := by
  simp only [vx_ot, Bool.or_eq_true] at hg
  rcases hg with hg | hg
  · exact va_tabs hg hvm h
  · exact word_at hW (good_of_word hg) h
/-- a list's words: the good ones out of the method's own list, the others by premises of their own -/
theorem vx_hat {args : Array Value} {s : State} {L B : List Cond} (h1 : ∀ w ∈ L.filter goodWord, w.before args s = true) (h2 : ∀ w ∈ L.filter (fun w => !goodWord w), w ∈ B) (h3 : ∀ w ∈ B, w.before args s = true) : ∀ w ∈ L, w.before args s = true := by
  intro w hw
  by_cases g : goodWord w = true
  · exact h1 w (List.mem_filter.mpr ⟨hw, g⟩)
  · refine h3 w (h2 w (List.mem_filter.mpr ⟨hw, ?_⟩))
    show (!goodWord w) = true
    cases hgw : goodWord w
    · rfl
    · exact absurd hgw g
theorem vx_c {args : Array Value} {s : State} {w : Cond} {B : List Cond} (h : w.before args s = true) (t : ∀ w ∈ B, w.before args s = true) : ∀ w' ∈ w :: B, w'.before args s = true := fun w' h' => (List.mem_cons.mp h').elim (fun e => by rw [e]; exact h) (t w')
theorem vx_n {args : Array Value} {s : State} : ∀ w ∈ ([] : List Cond), w.before args s = true := fun _ h => nomatch h
theorem vx_own {args : Array Value} {s : State} {L : List Cond} (h1 : ∀ w ∈ L.filter vx_no, w.before args s = true)
    (hU : (Cond.isRef (.static Bundle.tN "UNASSIGNED_STACK" Bundle.steD)).before args s = true) (hN : (Cond.isRef (.static Bundle.tN "SUPPRESSED_SENTINEL" Bundle.listD)).before args s = true)
    (lU : (Cond.laysStatic Bundle.tN "UNASSIGNED_STACK" Bundle.steD).before args s = true) (lN : (Cond.laysStatic Bundle.tN "SUPPRESSED_SENTINEL" Bundle.listD).before args s = true) : ∀ w ∈ L, w.before args s = true := by
  intro w hw
  by_cases e1 : w = .isRef (.static Bundle.tN "UNASSIGNED_STACK" Bundle.steD)
  · rw [e1]; exact hU
  · by_cases e2 : w = .isRef (.static Bundle.tN "SUPPRESSED_SENTINEL" Bundle.listD)
    · rw [e2]; exact hN
    · by_cases e3 : w = .laysStatic Bundle.tN "UNASSIGNED_STACK" Bundle.steD
      · rw [e3]; exact lU
      · by_cases e4 : w = .laysStatic Bundle.tN "SUPPRESSED_SENTINEL" Bundle.listD
        · rw [e4]; exact lN
        · exact h1 w (List.mem_filter.mpr ⟨hw, by unfold vx_no; rw [decide_eq_true e1, decide_eq_true e2, decide_eq_true e3, decide_eq_true e4]; rfl⟩)
/-- where a static field lies, its class's statics cell in H -/
def vx_L (C n d : String) (A : Nat → Prop) (U : State) (H : Heap) : Prop := ∃ (c : ClassId) (k : Class) (i : Nat) (f : Field) (a : Nat) (cell : Cell), U.vm.findClass C = some c ∧ U.fieldFound? C n d = some (c, k, i, f) ∧ f.isStatic = true ∧ k.statics = some a ∧ H[a]? = some cell ∧ cell.vm.isStatics = true ∧ cell.cls = c ∧ f.slot < cell.slots.size ∧ k.staticTypes[f.slot]? = some f.type ∧ ¬ A a
theorem vx_L.moved {C n d : String} {A : Nat → Prop} {u U : State} {H : Heap} (hvm : u.vm.Alike U.vm) (h : vx_L C n d A u H) : vx_L C n d A U H := by
  obtain ⟨c, k, i, f, a, cell, h1, h2, h3, h4, h5, h6, h7, h8, h9, h10⟩ := h
  obtain ⟨k', hi', he⟩ := State.fieldFound?_setVm hvm h2
  exact ⟨c, k', i, f, a, cell, by rw [hvm.findClass]; exact h1, hi', h3, by rw [he]; exact h4, h5, h6, h7, h8, by rw [he]; exact h9, h10⟩
theorem vx_L.kept {C n d : String} {A : Nat → Prop} {U : State} {H H1 : Heap} (h : vx_L C n d A U H) (hq : ∀ a : Nat, a < H.size → ¬ A a → H1[a]? = H[a]?) : vx_L C n d A U H1 := by
  obtain ⟨c, k, i, f, a, cell, h1, h2, h3, h4, h5, h6, h7, h8, h9, h10⟩ := h
  exact ⟨c, k, i, f, a, cell, h1, h2, h3, h4, by rw [hq a (Array.getElem?_eq_some_iff.mp h5).1 h10]; exact h5, h6, h7, h8, h9, h10⟩
theorem vx_L.narrow {C n d : String} {A B : Nat → Prop} {U : State} {H : Heap} (h : vx_L C n d A U H) (hAB : ∀ q, B q → A q) : vx_L C n d B U H := by
  obtain ⟨c, k, i, f, a, cell, h1, h2, h3, h4, h5, h6, h7, h8, h9, h10⟩ := h
  exact ⟨c, k, i, f, a, cell, h1, h2, h3, h4, h5, h6, h7, h8, h9, fun z => h10 (hAB _ z)⟩
theorem vx_L.word {C n d : String} {A : Nat → Prop} {s : State} {args : Array Value} (h : vx_L C n d A s s.heap) : (Cond.laysStatic C n d).before args s = true := by
  obtain ⟨c, k, i, f, a, cell, h1, h2, h3, h4, h5, h6, h7, h8, h9, -⟩ := h
  show (Cond.laysStatic C n d).holds args s none s [] = true
  exact Cond.laysStatic_of h1 h2 h3 h4 h5 h6 h7 h8 h9
/-- .. and what it holds: null or some reference -/
def vx_Zq (C n d : String) (A : Nat → Prop) (U : State) (H : Heap) : Prop := va_Zq C n d A U H ∧ vx_L C n d A U H
theorem vx_Zq.moved {C n d : String} {A : Nat → Prop} {u U : State} {H : Heap} (hvm : u.vm.Alike U.vm) (h : vx_Zq C n d A u H) : vx_Zq C n d A U H := ⟨va_Zq.moved hvm h.1, vx_L.moved hvm h.2⟩
theorem vx_Zq.kept {C n d : String} {A : Nat → Prop} {U : State} {H H1 : Heap} (h : vx_Zq C n d A U H) (hq : ∀ a : Nat, a < H.size → ¬ A a → H1[a]? = H[a]?) : vx_Zq C n d A U H1 := ⟨va_Zq.kept h.1 hq, vx_L.kept h.2 hq⟩
theorem vx_Zq.narrow {C n d : String} {A B : Nat → Prop} {U : State} {H : Heap} (h : vx_Zq C n d A U H) (hAB : ∀ q, B q → A q) : vx_Zq C n d B U H := ⟨va_Zq.narrow h.1 hAB, vx_L.narrow h.2 hAB⟩
theorem vx_Zqof {args : Array Value} {s : State} {C n d : String} {A : Nat → Prop} (hl : (Cond.laysStatic C n d).before args s = true) (hini : (Cond.initialized C).before args s = true) (h : (Cond.isRef (.static C n d)).before args s = true) (hA : ∀ a : Nat, a < s.heap.size → ¬ A a) : vx_Zq C n d A s s.heap := by
  refine ⟨va_Zqof hl hini h hA, ?_⟩
  obtain ⟨c, k, i, f, a, cell, h1, h2, h3, h4, h5, h6, h7, h8, h9⟩ := Cond.laysStatic_spec hl
  exact ⟨c, k, i, f, a, cell, h1, h2, h3, h4, h5, h6, h7, h8, h9, hA a (Array.getElem?_eq_some_iff.mp h5).1⟩
theorem vx_isRef {C n d : String} {v : Value} {A : Nat → Prop} {s : State} {args : Array Value} (h : va_Z C n d v A s s.heap) (hv : v.isRef = true) : (Cond.isRef (.static C n d)).before args s = true := by
  obtain ⟨cf, kf, fi, f, a, cell, h1, h2, h3, h4, h5, h6, h7, -⟩ := h
  have he : (Term.static C n d).eval args s none [] s = some v := by
    simp [Term.eval, State.fieldNamed?, h1, h2, h4, h5, h6, h7]
  simp only [Cond.before, Cond.holds, Cond.value, he]
  cases v <;> simp_all [Value.isRef]
theorem vx_isRefq {C n d : String} {A : Nat → Prop} {s : State} {args : Array Value} (h : va_Zq C n d A s s.heap) : (Cond.isRef (.static C n d)).before args s = true := by
  rcases h with h | ⟨t, h⟩
  · exact vx_isRef h rfl
  · exact vx_isRef h rfl
/-- the same frame, seen from here: as if the method were called anew in this heap -/
theorem vx_rebase {T : State} (X : Stand p l e R s m args below meth c T locs cells slots) {R' : Room} (hf : R'.frames ≤ R.frames) (hl : R'.locals ≤ R.locals) (hc : cells + R'.cells ≤ R.cells) (hs : slots + R'.slots ≤ R.slots) :
    Stand p l e R' ((T.setVm s.vm).setFrames (.invoking m args :: below)) m args below meth c T [] 0 0 := by
  have htop : (T.setVm s.vm).topJava?.isSome := X.here.top
  have hF : ((T.setVm s.vm).setFrames (.invoking m args :: below)).frames = .invoking m args :: below := State.frames_setFrames _ (State.cur_lt_of_top htop)
  obtain ⟨g₀, hg0⟩ := Option.isSome_iff_exists.mp htop
  obtain ⟨r, hr⟩ := State.topJava?_eq_some.mp hg0
  have hl9 : e.platform.stackLimits (T.setVm s.vm).me = e.platform.stackLimits s.me := X.limits
  have hb9 : (T.setVm s.vm).me.stackBytes = s.me.stackBytes := X.bytes
  refine ⟨X.admits, X.cas, X.clock, hF, ?_, X.hears, X.method, X.code, X.here, X.tail, X.warmed, ?_, ?_, ?_⟩
  · have h := X.room
    have hU : ((T.setVm s.vm).setFrames (.invoking m args :: below)).localsInUse = s.localsInUse := by
      rw [State.localsInUse_invoking hF (meth := meth) (c := c) X.method X.code, State.localsInUse_invoking X.frames X.method X.code]
    simp only [State.hasRoom, Bool.and_eq_true, decide_eq_true_eq] at h ⊢
    obtain ⟨⟨⟨⟨h1, h2, h3, h4, h5, h6⟩, h7⟩, h8⟩, h9⟩ := h
    rw [X.frames, List.length_cons] at h2 h3
    have q1 := X.heapSize
    have q2 := X.used
    simp only [hF, hU, List.length_cons, State.stackLimits_setFrames, State.stackBytes_setFrames, hl9, hb9]
    refine ⟨⟨⟨⟨by omega, by omega, by omega, by omega, by omega, h6⟩, ?_⟩, ?_⟩, X.book⟩
    · show T.heap.size + R'.cells ≤ e.platform.maxCells
      omega
    · show T.slotsUsed + R'.slots ≤ e.platform.maxSlots
      omega
  · rw [State.stackLimits_setFrames]; rfl
  · rw [State.stackBytes_setFrames]; rfl
  · refine ⟨?_, Nat.le_refl _, Nat.le_refl _, ?_, ?_, fun a c9 h9 => ⟨c9, h9, rfl, rfl, fun _ _ => rfl⟩⟩
    · obtain ⟨t, ht, -⟩ := State.frames_cons hr
      show T.setVm s.vm = { ((T.setVm s.vm).setFrames (.invoking m args :: below)).setFrames (T.setVm s.vm).frames with heap := T.heap, slotsUsed := T.slotsUsed }
      rw [State.setFrames_setFrames, State.setFrames_self ht]
      rfl
    · show T.slotsUsed = T.slotsUsed + ((T.heap.toList.drop T.heap.size).map (·.slots.size)).sum
      rw [List.drop_eq_nil_of_le (Nat.le_of_eq Array.length_toList)]
      rfl
    · show ((T.heap.toList.drop T.heap.size).map (·.slots.size)).sum ≤ 0
      rw [List.drop_eq_nil_of_le (Nat.le_of_eq Array.length_toList)]
      exact Nat.le_refl _
/-- 'throw new E()': new; dup; invokespecial; athrow -/
theorem vx_throw0 {cc : ByteArray} {pc : Nat} (hexec : p.tables.exec = Jvm.exec) (hb : c.code = cc) (hl : l.stackTraces = false) {own cls : String} {names : List String} {ik ic mc ms : Nat} {A : Nat → Prop}
    (hown : s.vm.findClass own = some m.cls) (hcls : Bundle.fit cls = true) (hnames : ∀ n ∈ names, Bundle.fit n = true)
    (hk : (Cond.classLink own ik cls).before args s = true) (hini : (Cond.initialized cls).before args s = true) (hat : ∀ w ∈ vx_at0 own ic cls names, w.before args s = true)
    (hgood : ∀ w ∈ Cond.classLink own ik cls :: Cond.initialized cls :: vx_at0 own ic cls names, vx_ot w = true)
    (hU : vx_Zq Bundle.tN "UNASSIGNED_STACK" Bundle.steD A s s.heap) (hN : vx_Zq Bundle.tN "SUPPRESSED_SENTINEL" Bundle.listD A s s.heap) (hS : va_S A s.heap H locs) (hsize : ls.size = c.maxLocals)
    (d0 : decode cc pc = .ok (.new ik, 3)) (d3 : decode cc (pc + 3) = .ok (.dup, 1)) (d4 : decode cc (pc + 4) = .ok (.invokespecial ic, 3)) (d7 : decode cc (pc + 7) = .ok (.athrow, 1))
    (hout : ∀ x ∈ c.exceptionTable.toList, covers x (pc + 7) = false)
    (hRframes : names.length + 3 < R.frames) (hRlocals : (rest.map fun v => v.category).sum + (13 * (names.length + 1) + 42) ≤ R.locals) (hRcells : cells + 1 ≤ R.cells) (hRslots : slots + 6 ≤ R.slots) (hlocks : meth.locks = false)
    (hx : ∀ t : State, s.vm.Alike t.vm → H.size ≤ t.heap.size → (∀ q : Nat, q < H.size → t.heap[q]? = H[q]?) → XC cls s t)
    (hf : ∀ z ∈ locs, free z.base) (hc : cells + 1 ≤ mc) (hs : slots + 6 ≤ ms) :
    W p l e R s m args below meth c H locs cells slots (vx_MQ below Qc XC args s mc ms free) (F0 m pc ls rest) := by
  intro T hT X
  have htr : e.platform.stackTraces = false := (show e.platform.stackTraces = l.stackTraces by rw [X.admits.platform]).trans hl
  have Y := vx_rebase X (R' := { frames := R.frames, locals := R.locals, cells := 1, slots := 6 }) (Nat.le_refl _) (Nat.le_refl _) hRcells hRslots
  obtain ⟨s', hA⟩ : ∃ z, z = (T.setVm s.vm).setFrames (.invoking m args :: below) := ⟨_, rfl⟩
  rw [← hA] at Y
  have hvm : s'.vm = s.vm := by rw [hA]; rfl
  have hhp : s'.heap = H := by rw [hA]; exact hT
  have hW0 : s.WarmedH s'.vm := by rw [hvm]; exact State.WarmedH.refl s
  have hat' : ∀ w ∈ vx_at0 own ic cls names, w.before args s' = true := fun w hw => vx_ot_at hW0 hvm.symm (hgood w (List.mem_cons_of_mem _ (List.mem_cons_of_mem _ hw))) (hat w hw)
  have hk' : (Cond.classLink own ik cls).before args s' = true := vx_ot_at hW0 hvm.symm (hgood _ List.mem_cons_self) hk
  have hini' : (Cond.initialized cls).before args s' = true := vx_ot_at hW0 hvm.symm (hgood _ (List.mem_cons_of_mem _ List.mem_cons_self)) hini
  have hU' : vx_Zq Bundle.tN "UNASSIGNED_STACK" Bundle.steD A s' s'.heap := by rw [hhp]; exact vx_Zq.moved hW0.alike (hU.kept hS.2.1)
  have hN' : vx_Zq Bundle.tN "SUPPRESSED_SENTINEL" Bundle.listD A s' s'.heap := by rw [hhp]; exact vx_Zq.moved hW0.alike (hN.kept hS.2.1)
  have h : ∀ w ∈ Bundle.ownAtoms0 own ic cls names, w.before args s' = true := vx_own hat' (vx_isRefq hU'.1) (vx_isRefq hN'.1) hU'.2.word hN'.2.word
  have hown' : s'.vm.findClass own = some m.cls := by rw [hvm]; exact hown
  have hins : (Cond.instantiable cls 6).before args s' = true := h _ (by simp [Bundle.ownAtoms0])
  obtain ⟨vm₁, cX, kX, hfX, hkX, -, -, X₁, st1⟩ := Y.newCold hexec (own := own) (C := cls) (index := ik) (n := 6) hown' hk' hins hini'
    (g := F0 m pc ls rest) rfl (by rw [hb]; exact d0) (Nat.le_refl _) (Nat.le_refl _)
  generalize hT1 : (T.setVm vm₁).pushCell { cls := cX, slots := kX.instanceTypes.map defaultValue, vm := .none } = T1 at X₁ st1
  have hcat : (Value.ref T.heap.size).category = 1 := rfl
  have hcellA : T1.heap[T.heap.size]? = some (freshCell cX kX) := by rw [← hT1]; exact State.heap_pushCell_size _ _
  have d3' : decode c.code (pc + 3) = .ok (.dup, 1) := by rw [hb]; exact d3
  obtain ⟨U, hsteps, hrun, hend, hW, hsame, ce, hce, hO⟩ := X₁.ctorThrow0 hexec htr (own := own) (cls := cls) (names := names) (ic := ic) hown' hcls hnames h (fun x hx => nomatch hx) hfX hkX hcellA (by rw [hhp, hT]; exact Nat.le_refl _)
    (g := { method := m, pc := pc + 4, locals := ls, stack := .ref T.heap.size :: .ref T.heap.size :: rest, locked := none }) rfl hsize rfl rfl (rest := rest) rfl
    (by rw [hb]; exact d4) (by rw [hb]; exact d7) hout hRframes (by simp only [List.map_cons, List.sum_cons, hcat]; omega) hlocks
  obtain ⟨f1, f2⟩ := vx_frame hsame
  rw [hhp] at f1 f2
  have hWs : s.WarmedH U.vm := State.WarmedH.trans hW0 hW
  have hcl : s.vm.findClass cls = some ce.cls := by
    have h9 := hO.cls
    rw [hvm] at h9
    exact h9
  have hall : s.sameButNew ({ U with vm := s.vm } : State) locs mc ms := by
    subst hA
    obtain ⟨e1, e2⟩ := hsame
    rw [State.setFrames_setFrames] at e1
    have h2 : (T.setVm s.vm).sameButNew ({ U with vm := s.vm } : State) [] (0 + 1) (0 + 6) := ⟨e1, e2⟩
    have h3 := X.same.trans h2
    rw [List.append_nil] at h3
    exact h3.mono hc hs
  refine ⟨U, ?_, .threw T.heap.size, hrun, hend, Or.inr ⟨T.heap.size, rfl, cls, ce, locs, hx U hWs.alike f1 (fun q hq => f2 q hq (fun z hz => nomatch hz)), hce, hO.vm, hcl, hWs, hall, hf⟩⟩
  refine st1 _ ?_
  show Steps p.tables e below (T1.setTop { method := m, pc := pc + 3, locals := ls, stack := .ref T.heap.size :: rest, locked := none }) _
  jvm_step X₁.here [X₁.here.top, hexec, d3', Value.category]
  exact hsteps
/-- 'throw new E("text")': new; dup; ldc; invokespecial; athrow -/
theorem vx_throwS {cc : ByteArray} {pc : Nat} (hexec : p.tables.exec = Jvm.exec) (hb : c.code = cc) (hl : l.stackTraces = false) {own cls text : String} {names : List String} {ik is ic mc ms sa : Nat} {A : Nat → Prop}
    (hown : s.vm.findClass own = some m.cls) (hcls : Bundle.fit cls = true) (hnames : ∀ n ∈ names, Bundle.fit n = true)
    (hk : (Cond.classLink own ik cls).before args s = true) (hini : (Cond.initialized cls).before args s = true) (hstr : vk_R own is text sa s) (hat : ∀ w ∈ vx_atS own ic cls names, w.before args s = true)
    (hgood : ∀ w ∈ Cond.classLink own ik cls :: Cond.initialized cls :: vx_atS own ic cls names, vx_ot w = true)
    (hU : vx_Zq Bundle.tN "UNASSIGNED_STACK" Bundle.steD A s s.heap) (hN : vx_Zq Bundle.tN "SUPPRESSED_SENTINEL" Bundle.listD A s s.heap) (hS : va_S A s.heap H locs) (hsize : ls.size = c.maxLocals)
    (d0 : decode cc pc = .ok (.new ik, 3)) (d3 : decode cc (pc + 3) = .ok (.dup, 1)) (d4 : decode cc (pc + 4) = .ok (.ldc is, 2)) (d6 : decode cc (pc + 6) = .ok (.invokespecial ic, 3)) (d9 : decode cc (pc + 9) = .ok (.athrow, 1))
    (hout : ∀ x ∈ c.exceptionTable.toList, covers x (pc + 9) = false)
    (hRframes : names.length + 3 < R.frames) (hRlocals : (rest.map fun v => v.category).sum + (13 * (names.length + 1) + 43) ≤ R.locals) (hRcells : cells + 1 ≤ R.cells) (hRslots : slots + 6 ≤ R.slots) (hlocks : meth.locks = false)
    (hx : ∀ t : State, s.vm.Alike t.vm → H.size ≤ t.heap.size → (∀ q : Nat, q < H.size → t.heap[q]? = H[q]?) → XC cls s t)
    (hf : ∀ z ∈ locs, free z.base) (hc : cells + 1 ≤ mc) (hs : slots + 6 ≤ ms) :
    W p l e R s m args below meth c H locs cells slots (vx_MQ below Qc XC args s mc ms free) (F0 m pc ls rest) := by
  intro T hT X
  have htr : e.platform.stackTraces = false := (show e.platform.stackTraces = l.stackTraces by rw [X.admits.platform]).trans hl
  have Y := vx_rebase X (R' := { frames := R.frames, locals := R.locals, cells := 1, slots := 6 }) (Nat.le_refl _) (Nat.le_refl _) hRcells hRslots
  obtain ⟨s', hA⟩ : ∃ z, z = (T.setVm s.vm).setFrames (.invoking m args :: below) := ⟨_, rfl⟩
  rw [← hA] at Y
  have hvm : s'.vm = s.vm := by rw [hA]; rfl
  have hhp : s'.heap = H := by rw [hA]; exact hT
  have hW0 : s.WarmedH s'.vm := by rw [hvm]; exact State.WarmedH.refl s
  have hat' : ∀ w ∈ vx_atS own ic cls names, w.before args s' = true := fun w hw => vx_ot_at hW0 hvm.symm (hgood w (List.mem_cons_of_mem _ (List.mem_cons_of_mem _ hw))) (hat w hw)
  have hk' : (Cond.classLink own ik cls).before args s' = true := vx_ot_at hW0 hvm.symm (hgood _ List.mem_cons_self) hk
  have hini' : (Cond.initialized cls).before args s' = true := vx_ot_at hW0 hvm.symm (hgood _ (List.mem_cons_of_mem _ List.mem_cons_self)) hini
  have hU' : vx_Zq Bundle.tN "UNASSIGNED_STACK" Bundle.steD A s' s'.heap := by rw [hhp]; exact vx_Zq.moved hW0.alike (hU.kept hS.2.1)
  have hN' : vx_Zq Bundle.tN "SUPPRESSED_SENTINEL" Bundle.listD A s' s'.heap := by rw [hhp]; exact vx_Zq.moved hW0.alike (hN.kept hS.2.1)
  have h : ∀ w ∈ Bundle.ownAtoms own ic cls names, w.before args s' = true := vx_own hat' (vx_isRefq hU'.1) (vx_isRefq hN'.1) hU'.2.word hN'.2.word
  have hown' : s'.vm.findClass own = some m.cls := by rw [hvm]; exact hown
  have hins : (Cond.instantiable cls 6).before args s' = true := h _ (by simp [Bundle.ownAtoms])
  obtain ⟨vm₁, cX, kX, hfX, hkX, -, -, X₁, st1⟩ := Y.newCold hexec (own := own) (C := cls) (index := ik) (n := 6) hown' hk' hins hini'
    (g := F0 m pc ls rest) rfl (by rw [hb]; exact d0) (Nat.le_refl _) (Nat.le_refl _)
  generalize hT1 : (T.setVm vm₁).pushCell { cls := cX, slots := kX.instanceTypes.map defaultValue, vm := .none } = T1 at X₁ st1
  have hcat : (Value.ref T.heap.size).category = 1 := rfl
  have hcellA : T1.heap[T.heap.size]? = some (freshCell cX kX) := by rw [← hT1]; exact State.heap_pushCell_size _ _
  have d3' : decode c.code (pc + 3) = .ok (.dup, 1) := by rw [hb]; exact d3
  have d4' : decode c.code (pc + 4) = .ok (.ldc is, 2) := by rw [hb]; exact d4
  have hstr' : vk_R own is text sa s' := vk_R.warm hW0 hstr
  obtain ⟨U, hsteps, hrun, hend, hW, hsame, ce, hce, hO⟩ := X₁.ctorThrowS hexec htr (own := own) (cls := cls) (names := names) (ic := ic) hown' hcls hnames h (fun x hx => nomatch hx) hfX hkX hcellA (by rw [hhp, hT]; exact Nat.le_refl _) (msg := .ref sa) rfl
    (g := { method := m, pc := pc + 6, locals := ls, stack := .ref sa :: .ref T.heap.size :: .ref T.heap.size :: rest, locked := none }) rfl hsize rfl rfl (rest := rest) rfl
    (by rw [hb]; exact d6) (by rw [hb]; exact d9) hout hRframes (by simp only [List.map_cons, List.sum_cons, hcat]; omega) hlocks
  obtain ⟨f1, f2⟩ := vx_frame hsame
  rw [hhp] at f1 f2
  have hWs : s.WarmedH U.vm := State.WarmedH.trans hW0 hW
  have hcl : s.vm.findClass cls = some ce.cls := by
    have h9 := hO.cls
    rw [hvm] at h9
    exact h9
  have hall : s.sameButNew ({ U with vm := s.vm } : State) locs mc ms := by
    subst hA
    obtain ⟨e1, e2⟩ := hsame
    rw [State.setFrames_setFrames] at e1
    have h2 : (T.setVm s.vm).sameButNew ({ U with vm := s.vm } : State) [] (0 + 1) (0 + 6) := ⟨e1, e2⟩
    have h3 := X.same.trans h2
    rw [List.append_nil] at h3
    exact h3.mono hc hs
  refine ⟨U, ?_, .threw T.heap.size, hrun, hend, Or.inr ⟨T.heap.size, rfl, cls, ce, locs, hx U hWs.alike f1 (fun q hq => f2 q hq (fun z hz => nomatch hz)), hce, hO.vm, hcl, hWs, hall, hf⟩⟩
  refine st1 _ ?_
  show Steps p.tables e below (T1.setTop { method := m, pc := pc + 3, locals := ls, stack := .ref T.heap.size :: rest, locked := none }) _
  jvm_step X₁.here [X₁.here.top, hexec, d3', Value.category]
  exact X₁.ldcString hexec (own := own) (text := text) (index := is) (a := sa) hown' hstr'.1 hstr'.2
    (g := { method := m, pc := pc + 4, locals := ls, stack := .ref T.heap.size :: .ref T.heap.size :: rest, locked := none }) rfl d4' _ hsteps
/-- 'throw new E("text")', the text by a wide index -/
theorem vx_throwSW {cc : ByteArray} {pc : Nat} (hexec : p.tables.exec = Jvm.exec) (hb : c.code = cc) (hl : l.stackTraces = false) {own cls text : String} {names : List String} {ik is ic mc ms sa : Nat} {A : Nat → Prop}
    (hown : s.vm.findClass own = some m.cls) (hcls : Bundle.fit cls = true) (hnames : ∀ n ∈ names, Bundle.fit n = true)
    (hk : (Cond.classLink own ik cls).before args s = true) (hini : (Cond.initialized cls).before args s = true) (hstr : vk_R own is text sa s) (hat : ∀ w ∈ vx_atS own ic cls names, w.before args s = true)
    (hgood : ∀ w ∈ Cond.classLink own ik cls :: Cond.initialized cls :: vx_atS own ic cls names, vx_ot w = true)
    (hU : vx_Zq Bundle.tN "UNASSIGNED_STACK" Bundle.steD A s s.heap) (hN : vx_Zq Bundle.tN "SUPPRESSED_SENTINEL" Bundle.listD A s s.heap) (hS : va_S A s.heap H locs) (hsize : ls.size = c.maxLocals)
    (d0 : decode cc pc = .ok (.new ik, 3)) (d3 : decode cc (pc + 3) = .ok (.dup, 1)) (d4 : decode cc (pc + 4) = .ok (.ldc_w is, 3)) (d7 : decode cc (pc + 7) = .ok (.invokespecial ic, 3)) (d10 : decode cc (pc + 10) = .ok (.athrow, 1))
    (hout : ∀ x ∈ c.exceptionTable.toList, covers x (pc + 10) = false)
    (hRframes : names.length + 3 < R.frames) (hRlocals : (rest.map fun v => v.category).sum + (13 * (names.length + 1) + 43) ≤ R.locals) (hRcells : cells + 1 ≤ R.cells) (hRslots : slots + 6 ≤ R.slots) (hlocks : meth.locks = false)
    (hx : ∀ t : State, s.vm.Alike t.vm → H.size ≤ t.heap.size → (∀ q : Nat, q < H.size → t.heap[q]? = H[q]?) → XC cls s t)
    (hf : ∀ z ∈ locs, free z.base) (hc : cells + 1 ≤ mc) (hs : slots + 6 ≤ ms) :
    W p l e R s m args below meth c H locs cells slots (vx_MQ below Qc XC args s mc ms free) (F0 m pc ls rest) := by
  intro T hT X
  have htr : e.platform.stackTraces = false := (show e.platform.stackTraces = l.stackTraces by rw [X.admits.platform]).trans hl
  have Y := vx_rebase X (R' := { frames := R.frames, locals := R.locals, cells := 1, slots := 6 }) (Nat.le_refl _) (Nat.le_refl _) hRcells hRslots
  obtain ⟨s', hA⟩ : ∃ z, z = (T.setVm s.vm).setFrames (.invoking m args :: below) := ⟨_, rfl⟩
  rw [← hA] at Y
  have hvm : s'.vm = s.vm := by rw [hA]; rfl
  have hhp : s'.heap = H := by rw [hA]; exact hT
  have hW0 : s.WarmedH s'.vm := by rw [hvm]; exact State.WarmedH.refl s
  have hat' : ∀ w ∈ vx_atS own ic cls names, w.before args s' = true := fun w hw => vx_ot_at hW0 hvm.symm (hgood w (List.mem_cons_of_mem _ (List.mem_cons_of_mem _ hw))) (hat w hw)
  have hk' : (Cond.classLink own ik cls).before args s' = true := vx_ot_at hW0 hvm.symm (hgood _ List.mem_cons_self) hk
  have hini' : (Cond.initialized cls).before args s' = true := vx_ot_at hW0 hvm.symm (hgood _ (List.mem_cons_of_mem _ List.mem_cons_self)) hini
  have hU' : vx_Zq Bundle.tN "UNASSIGNED_STACK" Bundle.steD A s' s'.heap := by rw [hhp]; exact vx_Zq.moved hW0.alike (hU.kept hS.2.1)
  have hN' : vx_Zq Bundle.tN "SUPPRESSED_SENTINEL" Bundle.listD A s' s'.heap := by rw [hhp]; exact vx_Zq.moved hW0.alike (hN.kept hS.2.1)
  have h : ∀ w ∈ Bundle.ownAtoms own ic cls names, w.before args s' = true := vx_own hat' (vx_isRefq hU'.1) (vx_isRefq hN'.1) hU'.2.word hN'.2.word
  have hown' : s'.vm.findClass own = some m.cls := by rw [hvm]; exact hown
  have hins : (Cond.instantiable cls 6).before args s' = true := h _ (by simp [Bundle.ownAtoms])
  obtain ⟨vm₁, cX, kX, hfX, hkX, -, -, X₁, st1⟩ := Y.newCold hexec (own := own) (C := cls) (index := ik) (n := 6) hown' hk' hins hini'
    (g := F0 m pc ls rest) rfl (by rw [hb]; exact d0) (Nat.le_refl _) (Nat.le_refl _)
  generalize hT1 : (T.setVm vm₁).pushCell { cls := cX, slots := kX.instanceTypes.map defaultValue, vm := .none } = T1 at X₁ st1
  have hcat : (Value.ref T.heap.size).category = 1 := rfl
  have hcellA : T1.heap[T.heap.size]? = some (freshCell cX kX) := by rw [← hT1]; exact State.heap_pushCell_size _ _
  have d3' : decode c.code (pc + 3) = .ok (.dup, 1) := by rw [hb]; exact d3
  have d4' : decode c.code (pc + 4) = .ok (.ldc_w is, 3) := by rw [hb]; exact d4
  have hstr' : vk_R own is text sa s' := vk_R.warm hW0 hstr
  obtain ⟨U, hsteps, hrun, hend, hW, hsame, ce, hce, hO⟩ := X₁.ctorThrowS hexec htr (own := own) (cls := cls) (names := names) (ic := ic) hown' hcls hnames h (fun x hx => nomatch hx) hfX hkX hcellA (by rw [hhp, hT]; exact Nat.le_refl _) (msg := .ref sa) rfl
    (g := { method := m, pc := pc + 7, locals := ls, stack := .ref sa :: .ref T.heap.size :: .ref T.heap.size :: rest, locked := none }) rfl hsize rfl rfl (rest := rest) rfl
    (by rw [hb]; exact d7) (by rw [hb]; exact d10) hout hRframes (by simp only [List.map_cons, List.sum_cons, hcat]; omega) hlocks
  obtain ⟨f1, f2⟩ := vx_frame hsame
  rw [hhp] at f1 f2
  have hWs : s.WarmedH U.vm := State.WarmedH.trans hW0 hW
  have hcl : s.vm.findClass cls = some ce.cls := by
    have h9 := hO.cls
    rw [hvm] at h9
    exact h9
  have hall : s.sameButNew ({ U with vm := s.vm } : State) locs mc ms := by
    subst hA
    obtain ⟨e1, e2⟩ := hsame
    rw [State.setFrames_setFrames] at e1
    have h2 : (T.setVm s.vm).sameButNew ({ U with vm := s.vm } : State) [] (0 + 1) (0 + 6) := ⟨e1, e2⟩
    have h3 := X.same.trans h2
    rw [List.append_nil] at h3
    exact h3.mono hc hs
  refine ⟨U, ?_, .threw T.heap.size, hrun, hend, Or.inr ⟨T.heap.size, rfl, cls, ce, locs, hx U hWs.alike f1 (fun q hq => f2 q hq (fun z hz => nomatch hz)), hce, hO.vm, hcl, hWs, hall, hf⟩⟩
  refine st1 _ ?_
  show Steps p.tables e below (T1.setTop { method := m, pc := pc + 3, locals := ls, stack := .ref T.heap.size :: rest, locked := none }) _
  jvm_step X₁.here [X₁.here.top, hexec, d3', Value.category]
  exact X₁.ldcStringW hexec (own := own) (text := text) (index := is) (a := sa) hown' hstr'.1 hstr'.2
    (g := { method := m, pc := pc + 4, locals := ls, stack := .ref T.heap.size :: .ref T.heap.size :: rest, locked := none }) rfl d4' _ hsteps
end Ends
section Bodies
variable {l : Launch}
theorem vx_ofW {y : MethodName} {ws ws' : List Cond} {rm : Room} {Pc : Array Value → State → Prop} {Qc : Array Value → State → Outcome → State → Prop} {XC : String → State → State → Prop} {mc ms : Nat} {free : Addr → Prop} {cc : ByteArray} {maxL : Nat} {ret : Option FieldType}
    (hy : plainFor y = true) (hw : ws = Cond.code y cc maxL ret :: ws')
    (body : ∀ p e s m args below meth c s₁, BodyLoose p l y (headSpec ws rm) cc maxL ret e s m args below meth c s₁ → c.maxLocals = maxL → (∀ x ∈ c.exceptionTable.toList, False) → Pc args s →
      W p l e (headSpec ws rm).room s m args below meth c s.heap [] 0 0 (vx_MQ below Qc XC args s mc ms free) (entryFrame m args maxL)) : vx_Met l y ws rm Pc Qc XC mc ms free := by
  refine MetFree.of_bodySF (code := cc) (maxLocals := maxL) (ret := ret) hy ?_ ?_
  · intro args s m h hn
    obtain ⟨meth, c, h1, h2, h3, h4, h5, h6, -, -⟩ := Cond.code_spec hn (atoms_spec (ws := ws) h _ (by rw [hw]; exact List.mem_cons_self))
    exact ⟨meth, c, h1, h2, h3, h4, h5, h6⟩
  · intro p e s m args below meth c s₁ B hml hP _
    have hh0 : s₁.heap = s.heap := by rw [B.state]; rfl
    have ht : ∀ x ∈ c.exceptionTable.toList, False := by
      obtain ⟨meth9, c9, h1, h2, -, -, -, -, h7, -⟩ := Cond.code_spec B.named (atoms_spec (ws := ws) B.pre _ (by rw [hw]; exact List.mem_cons_self))
      cases Option.some.inj (h1.symm.trans B.method)
      cases Option.some.inj (h2.symm.trans (Stand.of_body B).code)
      intro x hx
      rw [Array.isEmpty_iff.mp h7] at hx
      cases hx
    obtain ⟨t, a1, o, b1, b2, b3⟩ := body p e s m args below meth c s₁ B hml ht hP s₁ hh0 (Stand.of_body B)
    exact ⟨t, o, a1, b1, b2, b3⟩
/-- the table of a body with handlers -/
theorem vx_table {p : Program} {x y : MethodName} {S : Spec} {cc bytes : ByteArray} {maxL maxL' : Nat} {ret ret' : Option FieldType} {e : Env} {s s₁ : State} {m : MethodId} {args : Array Value} {below : List Frame} {meth : Method} {c : Code} {hh : List (Nat × Nat × Nat × Nat)}
    (B : BodyLoose p l y S cc maxL ret e s m args below meth c s₁) (h : (Cond.codeWith y bytes maxL' ret' hh).before args s = true) : c.exceptionTable.toList = tableOf hh := by
  obtain ⟨m9, meth9, c9, hn9, h1, h2, -, -, h6, -⟩ := Cond.codeWith_spec h
  cases Option.some.inj (hn9.symm.trans B.named)
  cases Option.some.inj (h1.symm.trans B.method)
  cases Option.some.inj (h2.symm.trans (Stand.of_body B).code)
  rw [← h6, table_eq]
end Bodies
end VXA
/-! ===== END ===== -/
/-! ===== BEGIN a static call of a method with an exception table ===== -/
section VXS
variable {p : Program} {l : Launch} {e : Env} {R : Room} {s : State} {m : MethodId} {args : Array Value} {below : List Frame} {meth : Method} {c : Code} {T : State} {H : Heap} {locs : List Loc} {cells slots : Nat}
abbrev vx_CSW (R : Room) (s : State) (args : Array Value) (own : String) (index : Nat) (y : MethodName) (bytes : ByteArray) (maxL : Nat) (ret : Option FieldType) (hh : List (Nat × Nat × Nat × Nat)) (ws : List Cond) (rm : Room) (mc ms n : Nat) : Prop :=
  (rm.cells = mc ∧ rm.slots = ms ∧ rm.frames + 1 ≤ R.frames ∧ 8 + (maxL + 11) + rm.locals ≤ R.locals ∧ (∀ w ∈ ws, ∀ (a' : Array Value) (U : State), s.WarmedH U.vm → w.before a' U = true) ∧ Cond.codeWith y bytes maxL ret hh ∈ ws) ∧
  (Cond.codeWith y bytes maxL ret hh).before args s = true ∧ (Cond.initialized y.cls).before args s = true ∧ (y.cls ≠ "java/lang/invoke/MethodHandle" ∧ y.cls ≠ "java/lang/invoke/VarHandle") ∧
  (∀ sig, parseMethodDescriptor y.desc = some sig → n = sig.parameters.length) ∧ (Cond.methodLink own index y).before args s = true ∧ (Cond.static y).before args s = true
theorem vx_cwSW {own : String} {index maxL mc ms : Nat} {y : MethodName} {bytes : ByteArray} {ret : Option FieldType} {hh : List (Nat × Nat × Nat × Nat)} {Ts ws ws' : List Cond} {rm : Room} (n : Nat) (ht : ∀ w ∈ Ts, w.before args s = true) (hT : GoodIn Ts (va_wsS own index y ws)) (hw : ws = Cond.codeWith y bytes maxL ret hh :: ws') (hrc : rm.cells = mc) (hrs : rm.slots = ms)
    (hd : y.cls ≠ "java/lang/invoke/MethodHandle" ∧ y.cls ≠ "java/lang/invoke/VarHandle" ∧ (parseMethodDescriptor y.desc).map (fun d => d.parameters.length) = some n) (hR : rm.frames + 1 ≤ R.frames ∧ 8 + (maxL + 11) + rm.locals ≤ R.locals) :
    vx_CSW R s args own index y bytes maxL ret hh ws rm mc ms n := by
  have ok : ∀ w ∈ va_wsS own index y ws, w.before args s = true := fun w h => ht w (hT w h).1
  have hG : GoodIn Ts ws := fun w h => hT w (by unfold va_wsS; exact List.mem_append_right _ h)
  have hc : Cond.codeWith y bytes maxL ret hh ∈ ws := by rw [hw]; exact List.mem_cons_self
  refine ⟨⟨hrc, hrs, hR.1, hR.2, pay_in ht hG, hc⟩, ht _ (hG _ hc).1, ok _ (by simp [va_wsS]), ⟨hd.1, hd.2.1⟩, fun sig h => ?_, ok _ (by simp [va_wsS]), ok _ (by simp [va_wsS])⟩
  have h2 := hd.2.2
  rw [h] at h2
  exact (Option.some.inj h2).symm
theorem vx_callSW (X : Stand p l e R s m args below meth c T locs cells slots) (hexec : p.tables.exec = Jvm.exec) {own : String} {index : Nat} {y : MethodName} {bytes : ByteArray} {maxL : Nat} {ret : Option FieldType} {hh : List (Nat × Nat × Nat × Nat)}
    (hown : s.vm.findClass own = some m.cls) (hlink : (Cond.methodLink own index y).before args s = true) (hstat : (Cond.static y).before args s = true) (hinit : (Cond.initialized y.cls).before args s = true)
    (hcode : (Cond.codeWith y bytes maxL ret hh).before args s = true) (hy : y.cls ≠ "java/lang/invoke/MethodHandle" ∧ y.cls ≠ "java/lang/invoke/VarHandle")
    {W9 : Nat} {Pre : Pt → Array Value → Prop} {Post : Pt → Array Value → Option Value → Pt → Prop} (hK : Back l R p e below s args y 3 W9 Pre Post)
    {g : JFrame} (hg : g.method = m) (hsize : g.locals.size = c.maxLocals) {argsL rest : List Value} (hlen : ∀ sig, parseMethodDescriptor y.desc = some sig → argsL.length = sig.parameters.length)
    (hstack : g.stack = argsL.reverse ++ rest) (hW : 2 * g.monitorRoom + (rest.map fun v => v.category).sum ≤ W9) (hdg : decode c.code g.pc = .ok (.invokestatic index, 3))
    (hpre : ∀ vm₁, s.WarmedH vm₁ → Pre ⟨T.setVm vm₁, locs, cells, slots⟩ argsL.toArray) :
    ∃ (v : Option Value) (vm₁ : Vm) (B : Pt), s.WarmedH vm₁ ∧ Stand p l e R s m args below meth c B.U B.locs B.cells B.slots ∧ Post ⟨T.setVm vm₁, locs, cells, slots⟩ argsL.toArray v B ∧
      ∀ target, Steps p.tables e below (B.U.setTop { g with pc := g.pc + 3, stack := v.toList ++ rest }) target → Steps p.tables e below (T.setTop g) target := by
  obtain ⟨mk, methM, cM, hnamed, hmethM, -, -, -, -, -, -, hsigM⟩ := Cond.codeWith_spec hcode
  have hstatic : methM.isStatic = true := Cond.static_spec hnamed hmethM hstat
  obtain ⟨kP, hkP, -⟩ := className_of_methodNamed hnamed
  have hinitP : kP.init = .initialized := Cond.initialized_spec (findClass_of_methodNamed hnamed) hkP hinit
  obtain ⟨vm₁, X₁, hstep₁⟩ := X.invokestatic hexec hown hlink hnamed hmethM hstatic hkP hinitP hy (g := g) hg (argsL := argsL) (rest := rest) (hlen _ hsigM) hstack hdg
  obtain ⟨v, B, X', hpost, hsteps⟩ := hK m meth c ⟨T.setVm vm₁, locs, cells, slots⟩ { g with stack := rest } (.invokestatic index) mk argsL.toArray X₁ hg hsize hdg hW (X₁.named hnamed) (hpre vm₁ X₁.warmed)
  exact ⟨v, vm₁, B, X₁.warmed, X', hpost, fun target h => hstep₁ _ fun acts => by rw [doInvoke_state]; exact hsteps.trans h⟩
theorem vx_runSW {y : MethodName} {bytes cc : ByteArray} {maxL nL mc ms n index : Nat} {ret : Option FieldType} {hh : List (Nat × Nat × Nat × Nat)} {ws : List Cond} {rm : Room} {Pc : Array Value → State → Prop} {Qc : Array Value → State → Outcome → State → Prop} {free : Addr → Prop} {Ts : List Cond} {own : String} {As rest : List Value} {g : JFrame}
    (S : CallFix p m c cc nL s args Ts own) (hM : Met l y ws rm Pc Qc mc ms free) (cw : vx_CSW R s args own index y bytes maxL ret hh ws rm mc ms n) (hp : PreS s H Pc As)
    (hg : g.method = m) (hn : As.length = n) (hsize : g.locals.size = nL) (hstack : g.stack = As.reverse ++ rest) (hW : 2 * g.monitorRoom + (rest.map fun v => v.category).sum ≤ 8) (hdg : decode cc g.pc = .ok (.invokestatic index, 3)) (hf : cells + mc ≤ R.cells ∧ slots + ms ≤ R.slots) :
    va_Run p l e R s m args below meth c H locs cells slots mc ms g rest (Qc As.toArray) (free) := by
  obtain ⟨⟨hrc, hrs, hfr, hlo, hws, hcw⟩, hcode, hini, hy, hlen, hl, hstt⟩ := cw
  have hK : Back l R p e below s args y 3 8 (PreOf R mc ms Pc) (PostOf Qc mc ms free) := va_backW (hh := hh) (bytes := bytes) (maxL := maxL) (ret := ret) hM hp.1 hrc hrs hfr hlo hws hcw (fun a' U hW => word_at hW (Or.inl (by first | rfl | simp [Cond.onTables, Cond.keeps, Cond.steady])) hini)
  obtain ⟨hx, hb, hml, ho, -⟩ := S
  intro T hT X
  obtain ⟨v, vm₁, ⟨U', l2, c2, s2⟩, hW₁, X', ⟨g', mk, t, L, e1, e2, hq, h1, hL, h2, h3⟩, st⟩ := vx_callSW X hx (hh := hh) (bytes := bytes) (maxL := maxL) (ret := ret) ho hl hstt hini hcode hy hK hg (hsize.trans hml.symm) (argsL := As) (rest := rest) (fun sig h => hn.trans (hlen sig h)) hstack hW (by rw [hb]; exact hdg)
    (fun vm₁ hW₁ => ⟨hf.1, hf.2, hp.2 (T.setVm vm₁) hT hW₁⟩)
  dsimp only [Pt.U, Pt.locs, Pt.cells, Pt.slots] at X' e1 e2 h1 h2 h3 st
  subst h1; subst h2; subst h3
  exact ⟨v, (T.setVm vm₁).calling g' mk As.toArray, t, U', L, hT, X', hL, e1, e2, hq, st⟩
/-- not caught here, past rows that name other classes: it goes on to the caller -/
theorem vx_outP {p : Program} {l : Launch} {e : Env} {R : Room} {s : State} {m : MethodId} {args : Array Value} {below : List Frame} {meth : Method} {c : Code} {H : Heap} {locs : List Loc} {cells slots : Nat} {free : Addr → Prop} {ls : Array Slot} {rest : List Value} {Qc : Array Value → State → Outcome → State → Prop} {XC : String → State → State → Prop}
    {pc : Nat} {own E : String} {ce : Cell} {q : Addr} {mc ms : Nat} (hown : s.vm.findClass own = some m.cls) (hlocks : meth.locks = false)
    (hpass : ∀ z ∈ c.exceptionTable.toList, covers z pc = false ∨ (z.catchType ≠ 0 ∧ ∃ nm : String, (Cond.classLink own z.catchType nm).before args s = true ∧ va_Nc E nm s)) (hcell : H[q]? = some ce) (hv : ce.vm = .none) (hcl : s.vm.findClass E = some ce.cls)
    (hx : ∀ t : State, t.heap = H → s.vm.Alike t.vm → XC E s t) (hf : ∀ z ∈ locs, free z.base) (hc : cells ≤ mc) (hs : slots ≤ ms) :
    vx_W p l e R s m args below meth c H locs cells slots (vx_MQ below Qc XC args s mc ms free) (F0 m pc ls rest) q := by
  intro T hT X
  have hpl : e.platform.magicAccessors = ({} : Platform).magicAccessors := by rw [X.admits.platform]
  obtain ⟨vm', hW', X', st⟩ := X.outThrough hlocks q (g := F0 m pc ls rest) rfl rfl rfl (cell := ce) (by rw [hT]; exact hcell) (by rw [hv]; rfl)
    (by obtain ⟨k9, h9, -⟩ := Vm.findClass_spec hcl; exact ⟨k9, h9⟩) (fun z hz => by
      rcases hpass z hz with h | ⟨hz0, nm, hl1, hn1⟩
      · exact Or.inl h
      · obtain ⟨c6, hc6, hcl6⟩ := Cond.classLink_spec hown hl1 e.platform hpl
        obtain ⟨a8, b8, h1, h2, h3⟩ := hn1
        cases Option.some.inj (h1.symm.trans hcl)
        cases Option.some.inj (h2.symm.trans hc6)
        exact Or.inr ⟨hz0, _, hcl6, h3⟩)
  obtain ⟨g₀, hfr⟩ := X'.frames_eq
  have hcell9 : ((T.setVm vm').setFrames (.throwing q :: below)).heap[q]? = some ce := by
    show T.heap[q]? = some ce
    rw [hT]; exact hcell
  have hend : Ended ((T.setVm vm').setFrames (.throwing q :: below)) below (.threw q) := State.frames_setFrames _ (State.cur_lt_of_frames hfr)
  refine ⟨(T.setVm vm').setFrames (.throwing q :: below), ?_, .threw q, X'.here.running, hend, Or.inr ⟨q, rfl, E, ce, locs, hx _ hT (X'.ends _).1.alike, hcell9, hv, hcl, (X'.ends _).1, (X'.ends _).2.mono hc hs, hf⟩⟩
  rw [X.pushThrowing_eq]
  exact st
/-- a thing of a world lies in the heap -/
theorem vx_lt {D : va_G} {cl : List vw_C} {ws : va_W} {H1 : Heap} (h : va_P D cl ws H1) {k : Nat} {q : Nat × va_E} (hk : ws[k]? = some q) : q.1 < H1.size := (h k q hk).lt
end VXS
/-! ===== END ===== -/
/-! ===== BEGIN methods with a table of their own: called by a name, returning or throwing ===== -/
section VXH
/-! vx_backW, vx_callVX, vx_callSX, vx_callVW, vx_runVW, vx_runVX, vx_runSX, vx_ofWH follow the same proofs as their sisters above (Free/Laws.lean, Shelf42/LK1.lean); vx_outP calls Shelf42/NT130.lean (outThrough). -/
section
variable {l : Launch} {R : Room} {p : Program} {e : Env} {below : List Frame} {s : State} {sargs : Array Value} {y : MethodName} {len W9 : Nat}
theorem vx_backW {ws : List Cond} {rm : Room} {Pc : Array Value → State → Prop} {Qc : Array Value → State → Outcome → State → Prop} {XC : String → State → State → Prop} {mc ms : Nat} {free : Addr → Prop} {bytes : ByteArray} {maxL : Nat} {ret : Option FieldType} {hh : List (Nat × Nat × Nat × Nat)}
    (hM : vx_Met l y ws rm Pc Qc XC mc ms free) (hblind : FrameBlind Pc) (hrc : rm.cells = mc) (hrs : rm.slots = ms)
    (hframes : rm.frames + 1 ≤ R.frames) (hlocals : W9 + (maxL + 11) + rm.locals ≤ R.locals)
    (hws : ∀ w ∈ ws, ∀ a' U, s.WarmedH U.vm → w.before a' U = true) (hcode : Cond.codeWith y bytes maxL ret hh ∈ ws) (hinit : ∀ a' U, s.WarmedH U.vm → (Cond.initialized y.cls).before a' U = true) :
    vx_Back l R p e below s sargs y len W9 (PreOf R mc ms Pc) (PostOf Qc mc ms free) (vx_Post XC mc ms free) := by
  intro m meth c A g ig mk a X hg hsize hdg hW hn hp
  have h1 : (headSpec ws rm).pre.before a A.U = true := atoms_intro fun w hw => hws w hw _ _ X.warmed
  have h2 : (Cond.codeWith y bytes maxL ret hh).before a A.U = true := hws _ hcode _ _ X.warmed
  have h3 : (Cond.initialized y.cls).before a A.U = true := hinit _ _ X.warmed
  have h4 : A.cells + (headSpec ws rm).room.cells ≤ R.cells := by rw [show (headSpec ws rm).room.cells = mc from hrc]; exact hp.1
  have h5 : A.slots + (headSpec ws rm).room.slots ≤ R.slots := by rw [show (headSpec ws rm).room.slots = ms from hrs]; exact hp.2.1
  have hPc : Pc a (A.U.calling g mk a) := hblind _ _ _ _ hp.2.2
  obtain ⟨U, Ls, c0, s0⟩ := A
  dsimp only [Pt.U, Pt.locs, Pt.cells, Pt.slots] at h1 h2 h3 h4 h5 X hn hPc ⊢
  obtain ⟨m9, methY, cY, hn9, hmY, hcY, -, hlY, -⟩ := Cond.codeWith_spec h2
  cases Option.some.inj (hn9.symm.trans hn)
  obtain ⟨kY, hkY, -⟩ := className_of_methodNamed hn
  have hinitY : kY.init = .initialized := Cond.initialized_spec (findClass_of_methodNamed hn) hkY h3
  have h : At U g.method c below := by rw [hg]; exact X.here
  have hlocals9 : W9 + (maxL + 11) + (headSpec ws rm).room.locals ≤ R.locals := hlocals
  have happ : (headSpec ws rm).appliesLoose y e.platform (U.calling g mk a) = true :=
    Spec.appliesLoose_calling (g := g) h hdg hn hkY hinitY
      (X.room_calling (g := g) (R' := (headSpec ws rm).room) hsize hmY hcY hframes (by rw [hlY]; omega) h4 h5) h1
  obtain ⟨mid, hmid⟩ := h.above
  have hfr : (U.setTop g).frames = (.java g :: mid) ++ below := by rw [State.frames_setTop' g h.top, hmid]; rfl
  obtain ⟨o, s₂, hsteps, -, hend, hq⟩ := Steps.callFree hM p X.admits X.cas X.clock (acts := []) hfr happ hPc trivial
  have hq' : vx_Q Qc XC mc ms free a (U.calling g mk a) o s₂ := hq
  rw [State.frames_setTop' g h.top] at hend
  obtain ⟨g₀, hg0⟩ := Option.isSome_iff_exists.mp h.top
  obtain ⟨r, hr⟩ := State.topJava?_eq_some.mp hg0
  have hr' : (({ U with heap := s₂.heap, slotsUsed := s₂.slotsUsed } : State).setVm s₂.vm).frames = .java g₀ :: r := hr
  rcases hq' with ⟨hqc, L, hfe, hL⟩ | ⟨q, rfl, E, ce, L, hx, hce, hcv, hcl, hW₂, hsm, hL⟩
  · obtain ⟨⟨v, rfl⟩, hW₂, e2, q2, q3, q4, q5, q6⟩ := id hfe
    have e3 : s₂ = ({ (U.calling g mk a).setFrames s₂.frames with heap := s₂.heap, slotsUsed := s₂.slotsUsed } : State).setVm s₂.vm := by
      have : s₂ = ({ s₂ with vm := (U.calling g mk a).vm } : State).setVm s₂.vm := rfl
      rw [e2] at this
      exact this
    obtain ⟨c₂, i₂, len₂, hc₂, hd₂, hf₂⟩ := hend
    have hW' : U.WarmedH s₂.vm := hW₂
    have hcc : c₂ = c := by
      have h1 : s₂.code? g.method = U.code? g.method := by
        rw [State.code?_eq, State.code?_eq, hW'.alike.method?]
      exact Option.some.inj (hc₂.symm.trans (h1.trans h.code))
    subst hcc
    have hlen : len₂ = len := by rw [hdg] at hd₂; cases hd₂; rfl
    subst hlen
    have hs₂ : s₂ = (({ U with heap := s₂.heap, slotsUsed := s₂.slotsUsed } : State).setVm s₂.vm).setTop { g with pc := g.pc + len₂, stack := v.toList ++ g.stack } := by
      refine e3.trans ?_
      rw [hf₂, State.calling_eq h.top, State.setFrames_setFrames, State.setTop_of_frames _ hr', hr]
      rfl
    have hsame : U.sameButNew ({ U with heap := s₂.heap, slotsUsed := s₂.slotsUsed } : State) L mc ms := by
      refine ⟨?_, q2, q3, q4, q5, q6⟩
      obtain ⟨t, ht, -⟩ := State.frames_cons hr
      show ({ U with heap := s₂.heap, slotsUsed := s₂.slotsUsed } : State) = { U.setFrames U.frames with heap := s₂.heap, slotsUsed := s₂.slotsUsed }
      rw [State.setFrames_self ht]
    subst hg
    refine Or.inl ⟨v, ⟨(({ U with heap := s₂.heap, slotsUsed := s₂.slotsUsed } : State).setVm s₂.vm), Ls ++ L, c0 + mc, s0 + ms⟩,
      ⟨X.admits, X.cas, X.clock, X.frames, X.room, X.hears, X.method, X.code, (X.here.setHeapUsed s₂.heap s₂.slotsUsed).setVm hW'.alike, X.tail, State.WarmedH.trans X.warmed hW', X.limits, X.bytes, X.same.trans (hsame.setVm s.vm)⟩,
      ⟨g, mk, s₂, L, rfl, rfl, hqc, rfl, hL, rfl, rfl⟩, ?_⟩
    show Steps p.tables e below _ ((({ U with heap := s₂.heap, slotsUsed := s₂.slotsUsed } : State).setVm s₂.vm).setTop { g with pc := g.pc + len₂, stack := v.toList ++ g.stack })
    rw [← hs₂]
    exact hsteps
  · obtain ⟨e2, q2, q3, q4, q5, q6⟩ := id hsm
    have e3 : s₂ = ({ (U.calling g mk a).setFrames s₂.frames with heap := s₂.heap, slotsUsed := s₂.slotsUsed } : State).setVm s₂.vm := by
      have : s₂ = ({ s₂ with vm := (U.calling g mk a).vm } : State).setVm s₂.vm := rfl
      rw [e2] at this
      exact this
    have hf₂ : s₂.frames = .throwing q :: .java g :: U.frames.tail := hend
    have hW' : U.WarmedH s₂.vm := hW₂
    have hs₂ : s₂ = ((({ U with heap := s₂.heap, slotsUsed := s₂.slotsUsed } : State).setVm s₂.vm).setTop g).pushFrame (.throwing q) := by
      refine e3.trans ?_
      rw [hf₂, State.calling_eq h.top, State.setFrames_setFrames, State.pushFrame, State.frames_setTop _ hr', State.setTop_of_frames _ hr', State.setFrames_setFrames, hr]
      rfl
    have hsame : U.sameButNew ({ U with heap := s₂.heap, slotsUsed := s₂.slotsUsed } : State) L mc ms := by
      refine ⟨?_, q2, q3, q4, q5, q6⟩
      obtain ⟨t, ht, -⟩ := State.frames_cons hr
      show ({ U with heap := s₂.heap, slotsUsed := s₂.slotsUsed } : State) = { U.setFrames U.frames with heap := s₂.heap, slotsUsed := s₂.slotsUsed }
      rw [State.setFrames_self ht]
    subst hg
    refine Or.inr ⟨q, ⟨(({ U with heap := s₂.heap, slotsUsed := s₂.slotsUsed } : State).setVm s₂.vm), Ls ++ L, c0 + mc, s0 + ms⟩,
      ⟨X.admits, X.cas, X.clock, X.frames, X.room, X.hears, X.method, X.code, (X.here.setHeapUsed s₂.heap s₂.slotsUsed).setVm hW'.alike, X.tail, State.WarmedH.trans X.warmed hW', X.limits, X.bytes, X.same.trans (hsame.setVm s.vm)⟩,
      ⟨g, mk, s₂, L, E, ce, rfl, rfl, hx, hce, hcv, hcl, rfl, hL, rfl, rfl⟩, ?_⟩
    show Steps p.tables e below _ (((({ U with heap := s₂.heap, slotsUsed := s₂.slotsUsed } : State).setVm s₂.vm).setTop g).pushFrame (.throwing q))
    rw [← hs₂]
    exact hsteps
end
variable {p : Program} {l : Launch} {e : Env} {R : Room} {s : State} {m : MethodId} {args : Array Value} {below : List Frame} {meth : Method} {c : Code} {T : State} {H : Heap} {locs : List Loc} {cells slots : Nat}
theorem vx_callVX (X : Stand p l e R s m args below meth c T locs cells slots) (hexec : p.tables.exec = Jvm.exec) {own C : String} {index : Nat} {y : MethodName} {bytes : ByteArray} {maxL : Nat} {ret : Option FieldType} {hh : List (Nat × Nat × Nat × Nat)}
    (hown : s.vm.findClass own = some m.cls) (hlink : (Cond.methodLink own index y).before args s = true) (hinst : (Cond.instanceMethod y).before args s = true) (hsel : (Cond.selects C y y).before args s = true)
    (hcode : (Cond.codeWith y bytes maxL ret hh).before args s = true) (hy : y.cls ≠ "java/lang/invoke/MethodHandle" ∧ y.cls ≠ "java/lang/invoke/VarHandle")
    {W9 : Nat} {Pre : Pt → Array Value → Prop} {Post : Pt → Array Value → Option Value → Pt → Prop} {PostX : Pt → Array Value → Addr → Pt → Prop} (hK : vx_Back l R p e below s args y 3 W9 Pre Post PostX)
    {b : Addr} {cellB : Cell} (hcell : T.heap[b]? = some cellB) (hobj : cellB.vm.isStatics = false) (hcls : s.vm.findClass C = some cellB.cls)
    {g : JFrame} (hg : g.method = m) (hsize : g.locals.size = c.maxLocals) {argsL rest : List Value} (hlen : ∀ sig, parseMethodDescriptor y.desc = some sig → argsL.length = sig.parameters.length)
    (hstack : g.stack = argsL.reverse ++ .ref b :: rest) (hW : 2 * g.monitorRoom + (rest.map fun v => v.category).sum ≤ W9) (hdg : decode c.code g.pc = .ok (.invokevirtual index, 3))
    (hpre : ∀ vm₁, s.WarmedH vm₁ → Pre ⟨T.setVm vm₁, locs, cells, slots⟩ (Value.ref b :: argsL).toArray) :
    (∃ (v : Option Value) (vm₁ : Vm) (B : Pt), s.WarmedH vm₁ ∧ Stand p l e R s m args below meth c B.U B.locs B.cells B.slots ∧ Post ⟨T.setVm vm₁, locs, cells, slots⟩ (Value.ref b :: argsL).toArray v B ∧
      ∀ target, Steps p.tables e below (B.U.setTop { g with pc := g.pc + 3, stack := v.toList ++ rest }) target → Steps p.tables e below (T.setTop g) target) ∨
    (∃ (q : Addr) (vm₁ : Vm) (B : Pt), s.WarmedH vm₁ ∧ Stand p l e R s m args below meth c B.U B.locs B.cells B.slots ∧ PostX ⟨T.setVm vm₁, locs, cells, slots⟩ (Value.ref b :: argsL).toArray q B ∧
      Steps p.tables e below (T.setTop g) ((B.U.setTop { g with stack := rest }).pushFrame (.throwing q))) := by
  obtain ⟨mk, methM, hnamed, hmethM, hstM, habM⟩ := Cond.instanceMethod_spec hinst
  obtain ⟨m8, methM', cM, hn8, hmethM', -, -, -, -, -, -, hsigM⟩ := Cond.codeWith_spec hcode
  cases Option.some.inj (hn8.symm.trans hnamed)
  cases hmethM.symm.trans hmethM'
  obtain ⟨c2, r2, m2, q1, q2, q3, q4, kP, hkP, hkPi⟩ := Cond.selects_spec hsel
  cases hcls.symm.trans q1
  cases (State.methodFound?_of_named hnamed hy).symm.trans q2
  cases hnamed.symm.trans q3
  have hselP : selectMethod e.platform s.vm cellB.cls mk = .method mk := by rw [Launch.admits_selectMethod X.admits]; exact q4
  obtain ⟨vm₁, X₁, hstep₁⟩ := X.invokevirtual hexec hown hlink hnamed hmethM hstM hkP hkPi hy (a := b) (cell := cellB) hcell
    (fun z h => by rw [h] at hobj; cases hobj) hselP hmethM habM hkP hkPi (g := g) hg (argsL := argsL) (rest := rest) (hlen _ hsigM) hstack hdg
  rcases hK m meth c ⟨T.setVm vm₁, locs, cells, slots⟩ { g with stack := rest } (.invokevirtual index) mk (Value.ref b :: argsL).toArray X₁ hg hsize hdg hW (X₁.named hnamed) (hpre vm₁ X₁.warmed) with ⟨v, B, X', hpost, hsteps⟩ | ⟨q, B, X', hpost, hsteps⟩
  · exact Or.inl ⟨v, vm₁, B, X₁.warmed, X', hpost, fun target h => hstep₁ _ fun acts => by rw [doInvoke_state]; exact hsteps.trans h⟩
  · exact Or.inr ⟨q, vm₁, B, X₁.warmed, X', hpost, hstep₁ _ fun acts => by rw [doInvoke_state]; exact hsteps⟩
theorem vx_callSX (X : Stand p l e R s m args below meth c T locs cells slots) (hexec : p.tables.exec = Jvm.exec) {own : String} {index : Nat} {y : MethodName} {bytes : ByteArray} {maxL : Nat} {ret : Option FieldType} {hh : List (Nat × Nat × Nat × Nat)}
    (hown : s.vm.findClass own = some m.cls) (hlink : (Cond.methodLink own index y).before args s = true) (hstat : (Cond.static y).before args s = true) (hinit : (Cond.initialized y.cls).before args s = true)
    (hcode : (Cond.codeWith y bytes maxL ret hh).before args s = true) (hy : y.cls ≠ "java/lang/invoke/MethodHandle" ∧ y.cls ≠ "java/lang/invoke/VarHandle")
    {W9 : Nat} {Pre : Pt → Array Value → Prop} {Post : Pt → Array Value → Option Value → Pt → Prop} {PostX : Pt → Array Value → Addr → Pt → Prop} (hK : vx_Back l R p e below s args y 3 W9 Pre Post PostX)
    {g : JFrame} (hg : g.method = m) (hsize : g.locals.size = c.maxLocals) {argsL rest : List Value} (hlen : ∀ sig, parseMethodDescriptor y.desc = some sig → argsL.length = sig.parameters.length)
    (hstack : g.stack = argsL.reverse ++ rest) (hW : 2 * g.monitorRoom + (rest.map fun v => v.category).sum ≤ W9) (hdg : decode c.code g.pc = .ok (.invokestatic index, 3))
    (hpre : ∀ vm₁, s.WarmedH vm₁ → Pre ⟨T.setVm vm₁, locs, cells, slots⟩ argsL.toArray) :
    (∃ (v : Option Value) (vm₁ : Vm) (B : Pt), s.WarmedH vm₁ ∧ Stand p l e R s m args below meth c B.U B.locs B.cells B.slots ∧ Post ⟨T.setVm vm₁, locs, cells, slots⟩ argsL.toArray v B ∧
      ∀ target, Steps p.tables e below (B.U.setTop { g with pc := g.pc + 3, stack := v.toList ++ rest }) target → Steps p.tables e below (T.setTop g) target) ∨
    (∃ (q : Addr) (vm₁ : Vm) (B : Pt), s.WarmedH vm₁ ∧ Stand p l e R s m args below meth c B.U B.locs B.cells B.slots ∧ PostX ⟨T.setVm vm₁, locs, cells, slots⟩ argsL.toArray q B ∧
      Steps p.tables e below (T.setTop g) ((B.U.setTop { g with stack := rest }).pushFrame (.throwing q))) := by
  obtain ⟨mk, methM, cM, hnamed, hmethM, -, -, -, -, -, -, hsigM⟩ := Cond.codeWith_spec hcode
  have hstatic : methM.isStatic = true := Cond.static_spec hnamed hmethM hstat
  obtain ⟨kP, hkP, -⟩ := className_of_methodNamed hnamed
  have hinitP : kP.init = .initialized := Cond.initialized_spec (findClass_of_methodNamed hnamed) hkP hinit
  obtain ⟨vm₁, X₁, hstep₁⟩ := X.invokestatic hexec hown hlink hnamed hmethM hstatic hkP hinitP hy (g := g) hg (argsL := argsL) (rest := rest) (hlen _ hsigM) hstack hdg
  rcases hK m meth c ⟨T.setVm vm₁, locs, cells, slots⟩ { g with stack := rest } (.invokestatic index) mk argsL.toArray X₁ hg hsize hdg hW (X₁.named hnamed) (hpre vm₁ X₁.warmed) with ⟨v, B, X', hpost, hsteps⟩ | ⟨q, B, X', hpost, hsteps⟩
  · exact Or.inl ⟨v, vm₁, B, X₁.warmed, X', hpost, fun target h => hstep₁ _ fun acts => by rw [doInvoke_state]; exact hsteps.trans h⟩
  · exact Or.inr ⟨q, vm₁, B, X₁.warmed, X', hpost, hstep₁ _ fun acts => by rw [doInvoke_state]; exact hsteps⟩
theorem vx_callVW (X : Stand p l e R s m args below meth c T locs cells slots) (hexec : p.tables.exec = Jvm.exec) {own C : String} {index : Nat} {y : MethodName} {bytes : ByteArray} {maxL : Nat} {ret : Option FieldType} {hh : List (Nat × Nat × Nat × Nat)}
    (hown : s.vm.findClass own = some m.cls) (hlink : (Cond.methodLink own index y).before args s = true) (hinst : (Cond.instanceMethod y).before args s = true) (hsel : (Cond.selects C y y).before args s = true)
    (hcode : (Cond.codeWith y bytes maxL ret hh).before args s = true) (hy : y.cls ≠ "java/lang/invoke/MethodHandle" ∧ y.cls ≠ "java/lang/invoke/VarHandle")
    {W9 : Nat} {Pre : Pt → Array Value → Prop} {Post : Pt → Array Value → Option Value → Pt → Prop} (hK : Back l R p e below s args y 3 W9 Pre Post)
    {b : Addr} {cellB : Cell} (hcell : T.heap[b]? = some cellB) (hobj : cellB.vm.isStatics = false) (hcls : s.vm.findClass C = some cellB.cls)
    {g : JFrame} (hg : g.method = m) (hsize : g.locals.size = c.maxLocals) {argsL rest : List Value} (hlen : ∀ sig, parseMethodDescriptor y.desc = some sig → argsL.length = sig.parameters.length)
    (hstack : g.stack = argsL.reverse ++ .ref b :: rest) (hW : 2 * g.monitorRoom + (rest.map fun v => v.category).sum ≤ W9) (hdg : decode c.code g.pc = .ok (.invokevirtual index, 3))
    (hpre : ∀ vm₁, s.WarmedH vm₁ → Pre ⟨T.setVm vm₁, locs, cells, slots⟩ (Value.ref b :: argsL).toArray) :
    ∃ (v : Option Value) (vm₁ : Vm) (B : Pt), s.WarmedH vm₁ ∧ Stand p l e R s m args below meth c B.U B.locs B.cells B.slots ∧ Post ⟨T.setVm vm₁, locs, cells, slots⟩ (Value.ref b :: argsL).toArray v B ∧
      ∀ target, Steps p.tables e below (B.U.setTop { g with pc := g.pc + 3, stack := v.toList ++ rest }) target → Steps p.tables e below (T.setTop g) target := by
  obtain ⟨mk, methM, hnamed, hmethM, hstM, habM⟩ := Cond.instanceMethod_spec hinst
  obtain ⟨m8, methM', cM, hn8, hmethM', -, -, -, -, -, -, hsigM⟩ := Cond.codeWith_spec hcode
  cases Option.some.inj (hn8.symm.trans hnamed)
  cases hmethM.symm.trans hmethM'
  obtain ⟨c2, r2, m2, q1, q2, q3, q4, kP, hkP, hkPi⟩ := Cond.selects_spec hsel
  cases hcls.symm.trans q1
  cases (State.methodFound?_of_named hnamed hy).symm.trans q2
  cases hnamed.symm.trans q3
  have hselP : selectMethod e.platform s.vm cellB.cls mk = .method mk := by rw [Launch.admits_selectMethod X.admits]; exact q4
  obtain ⟨vm₁, X₁, hstep₁⟩ := X.invokevirtual hexec hown hlink hnamed hmethM hstM hkP hkPi hy (a := b) (cell := cellB) hcell
    (fun z h => by rw [h] at hobj; cases hobj) hselP hmethM habM hkP hkPi (g := g) hg (argsL := argsL) (rest := rest) (hlen _ hsigM) hstack hdg
  obtain ⟨v, B, X', hpost, hsteps⟩ := hK m meth c ⟨T.setVm vm₁, locs, cells, slots⟩ { g with stack := rest } (.invokevirtual index) mk (Value.ref b :: argsL).toArray X₁ hg hsize hdg hW (X₁.named hnamed) (hpre vm₁ X₁.warmed)
  exact ⟨v, vm₁, B, X₁.warmed, X', hpost, fun target h => hstep₁ _ fun acts => by rw [doInvoke_state]; exact hsteps.trans h⟩
abbrev vx_CVW (R : Room) (s : State) (args : Array Value) (own C : String) (index : Nat) (y : MethodName) (bytes : ByteArray) (maxL : Nat) (ret : Option FieldType) (hh : List (Nat × Nat × Nat × Nat)) (ws : List Cond) (rm : Room) (mc ms n : Nat) : Prop :=
  (rm.cells = mc ∧ rm.slots = ms ∧ rm.frames + 1 ≤ R.frames ∧ 8 + (maxL + 11) + rm.locals ≤ R.locals ∧ (∀ w ∈ ws, ∀ (a' : Array Value) (U : State), s.WarmedH U.vm → w.before a' U = true) ∧ Cond.codeWith y bytes maxL ret hh ∈ ws) ∧
  (Cond.codeWith y bytes maxL ret hh).before args s = true ∧ (Cond.initialized y.cls).before args s = true ∧ (y.cls ≠ "java/lang/invoke/MethodHandle" ∧ y.cls ≠ "java/lang/invoke/VarHandle") ∧
  (∀ sig, parseMethodDescriptor y.desc = some sig → n = sig.parameters.length) ∧ (Cond.methodLink own index y).before args s = true ∧ (Cond.instanceMethod y).before args s = true ∧ (Cond.selects C y y).before args s = true
theorem vx_cwVW {own C : String} {index maxL mc ms : Nat} {y : MethodName} {bytes : ByteArray} {ret : Option FieldType} {hh : List (Nat × Nat × Nat × Nat)} {Ts ws ws' : List Cond} {rm : Room} (n : Nat) (ht : ∀ w ∈ Ts, w.before args s = true) (hT : GoodIn Ts (wsV own index C y ws)) (hw : ws = Cond.codeWith y bytes maxL ret hh :: ws') (hrc : rm.cells = mc) (hrs : rm.slots = ms)
    (hd : y.cls = C ∧ y.cls ≠ "java/lang/invoke/MethodHandle" ∧ y.cls ≠ "java/lang/invoke/VarHandle" ∧ (parseMethodDescriptor y.desc).map (fun d => d.parameters.length) = some n) (hR : rm.frames + 1 ≤ R.frames ∧ 8 + (maxL + 11) + rm.locals ≤ R.locals) :
    vx_CVW R s args own C index y bytes maxL ret hh ws rm mc ms n := by
  obtain ⟨hC, hd⟩ := hd
  subst hC
  have ok : ∀ w ∈ wsV own index y.cls y ws, w.before args s = true := fun w h => ht w (hT w h).1
  have hG : GoodIn Ts ws := fun w h => hT w (by unfold wsV; exact List.mem_append_right _ h)
  have hc : Cond.codeWith y bytes maxL ret hh ∈ ws := by rw [hw]; exact List.mem_cons_self
  refine ⟨⟨hrc, hrs, hR.1, hR.2, pay_in ht hG, hc⟩, ht _ (hG _ hc).1, ok _ (by simp [wsV]), ⟨hd.1, hd.2.1⟩, fun sig h => ?_, ok _ (by simp [wsV]), ok _ (by simp [wsV]), ok _ (by simp [wsV])⟩
  have h2 := hd.2.2
  rw [h] at h2
  exact (Option.some.inj h2).symm
theorem vx_runVW {y : MethodName} {bytes cc : ByteArray} {maxL nL mc ms n index : Nat} {ret : Option FieldType} {hh : List (Nat × Nat × Nat × Nat)} {ws : List Cond} {rm : Room} {Pc : Array Value → State → Prop} {Qc : Array Value → State → Outcome → State → Prop} {free : Addr → Prop} {Ts : List Cond} {own C : String} {b : Addr} {As rest : List Value} {g : JFrame}
    (S : CallFix p m c cc nL s args Ts own) (hM : Met l y ws rm Pc Qc mc ms free) (cw : vx_CVW R s args own C index y bytes maxL ret hh ws rm mc ms n) (hp : PreV s H C b Pc As)
    (hg : g.method = m) (hn : As.length = n) (hsize : g.locals.size = nL) (hstack : g.stack = As.reverse ++ .ref b :: rest) (hW : 2 * g.monitorRoom + (rest.map fun v => v.category).sum ≤ 8) (hdg : decode cc g.pc = .ok (.invokevirtual index, 3)) (hf : cells + mc ≤ R.cells ∧ slots + ms ≤ R.slots) :
    va_Run p l e R s m args below meth c H locs cells slots mc ms g rest (Qc (Value.ref b :: As).toArray) free := by
  obtain ⟨⟨hrc, hrs, hfr, hlo, hws, hcw⟩, hcode, hini, hy, hlen, hl, hin, hse⟩ := cw
  have hK : Back l R p e below s args y 3 8 (PreOf R mc ms Pc) (PostOf Qc mc ms free) := va_backW (hh := hh) (bytes := bytes) (maxL := maxL) (ret := ret) hM hp.1 hrc hrs hfr hlo hws hcw (fun a' U hW => word_at hW (Or.inl (by first | rfl | simp [Cond.onTables, Cond.keeps, Cond.steady])) hini)
  obtain ⟨hx, hb, hml, ho, -⟩ := S
  obtain ⟨-, ⟨cellB, hcB, hoB, hclB⟩, hPc⟩ := hp
  intro T hT X
  obtain ⟨v, vm₁, ⟨U', l2, c2, s2⟩, hW₁, X', ⟨g', mk, t, L, e1, e2, hq, h1, hL, h2, h3⟩, st⟩ := vx_callVW X hx (C := C) (hh := hh) (bytes := bytes) (maxL := maxL) (ret := ret) ho hl hin hse hcode hy hK (by rw [hT]; exact hcB) hoB hclB hg (hsize.trans hml.symm) (argsL := As) (rest := rest) (fun sig h => hn.trans (hlen sig h)) hstack hW (by rw [hb]; exact hdg)
    (fun vm₁ hW₁ => ⟨hf.1, hf.2, hPc (T.setVm vm₁) hT hW₁⟩)
  dsimp only [Pt.U, Pt.locs, Pt.cells, Pt.slots] at X' e1 e2 h1 h2 h3 st
  subst h1; subst h2; subst h3
  exact ⟨v, (T.setVm vm₁).calling g' mk (Value.ref b :: As).toArray, t, U', L, hT, X', hL, e1, e2, hq, st⟩
section
variable {y : MethodName} {bytes cc : ByteArray} {maxL nL mc ms n index : Nat} {ret : Option FieldType} {ws : List Cond} {rm : Room} {Pc : Array Value → State → Prop} {Qc : Array Value → State → Outcome → State → Prop} {XC : String → State → State → Prop} {free : Addr → Prop} {Ts : List Cond} {own C : String} {b : Addr} {As rest : List Value} {g : JFrame}
theorem vx_runVX {hh : List (Nat × Nat × Nat × Nat)} (S : CallFix p m c cc nL s args Ts own) (hM : vx_Met l y ws rm Pc Qc XC mc ms free) (cw : vx_CVW R s args own C index y bytes maxL ret hh ws rm mc ms n) (hp : PreV s H C b Pc As)
    (hg : g.method = m) (hn : As.length = n) (hsize : g.locals.size = nL) (hstack : g.stack = As.reverse ++ .ref b :: rest) (hW : 2 * g.monitorRoom + (rest.map fun v => v.category).sum ≤ 8) (hdg : decode cc g.pc = .ok (.invokevirtual index, 3)) (hf : cells + mc ≤ R.cells ∧ slots + ms ≤ R.slots) :
    vx_Run p l e R s m args below meth c H locs cells slots mc ms g rest (Qc (Value.ref b :: As).toArray) XC free := by
  obtain ⟨⟨hrc, hrs, hfr, hlo, hws, hcw⟩, hcode, hini, hy, hlen, hl, hin, hse⟩ := cw
  have hK : vx_Back l R p e below s args y 3 8 (PreOf R mc ms Pc) (PostOf Qc mc ms free) (vx_Post XC mc ms free) := vx_backW (hh := hh) (bytes := bytes) (maxL := maxL) (ret := ret) hM hp.1 hrc hrs hfr hlo hws hcw (fun a' U hW => word_at hW (Or.inl (by first | rfl | simp [Cond.onTables, Cond.keeps, Cond.steady])) hini)
  obtain ⟨hx, hb, hml, ho, -⟩ := S
  obtain ⟨-, ⟨cellB, hcB, hoB, hclB⟩, hPc⟩ := hp
  intro T hT X
  rcases vx_callVX X hx (C := C) (hh := hh) (bytes := bytes) (maxL := maxL) (ret := ret) ho hl hin hse hcode hy hK (by rw [hT]; exact hcB) hoB hclB hg (hsize.trans hml.symm) (argsL := As) (rest := rest) (fun sig h => hn.trans (hlen sig h)) hstack hW (by rw [hb]; exact hdg)
    (fun vm₁ hW₁ => ⟨hf.1, hf.2, hPc (T.setVm vm₁) hT hW₁⟩) with ⟨v, vm₁, ⟨U', l2, c2, s2⟩, hW₁, X', ⟨g', mk, t, L, e1, e2, hq, h1, hL, h2, h3⟩, st⟩ | ⟨q, vm₁, ⟨U', l2, c2, s2⟩, hW₁, X', ⟨g', mk, t, L, E, ce, e1, e2, hq, hce, hcv, hcl, h1, hL, h2, h3⟩, st⟩
  · dsimp only [Pt.U, Pt.locs, Pt.cells, Pt.slots] at X' e1 e2 h1 h2 h3 st
    subst h1; subst h2; subst h3
    exact Or.inl ⟨v, (T.setVm vm₁).calling g' mk (Value.ref b :: As).toArray, t, U', L, hT, X', hL, e1, e2, hq, st⟩
  · dsimp only [Pt.U, Pt.locs, Pt.cells, Pt.slots] at X' e1 e2 h1 h2 h3 st hcl
    subst h1; subst h2; subst h3
    exact Or.inr ⟨q, (T.setVm vm₁).calling g' mk (Value.ref b :: As).toArray, t, U', L, E, ce, hT, X', hL, e1, e2, hq, hce, hcv, vx_cls hW₁ hcl, st⟩
theorem vx_runSX {hh : List (Nat × Nat × Nat × Nat)} (S : CallFix p m c cc nL s args Ts own) (hM : vx_Met l y ws rm Pc Qc XC mc ms free) (cw : vx_CSW R s args own index y bytes maxL ret hh ws rm mc ms n) (hp : PreS s H Pc As)
    (hg : g.method = m) (hn : As.length = n) (hsize : g.locals.size = nL) (hstack : g.stack = As.reverse ++ rest) (hW : 2 * g.monitorRoom + (rest.map fun v => v.category).sum ≤ 8) (hdg : decode cc g.pc = .ok (.invokestatic index, 3)) (hf : cells + mc ≤ R.cells ∧ slots + ms ≤ R.slots) :
    vx_Run p l e R s m args below meth c H locs cells slots mc ms g rest (Qc As.toArray) XC free := by
  obtain ⟨⟨hrc, hrs, hfr, hlo, hws, hcw⟩, hcode, hini, hy, hlen, hl, hstt⟩ := cw
  have hK : vx_Back l R p e below s args y 3 8 (PreOf R mc ms Pc) (PostOf Qc mc ms free) (vx_Post XC mc ms free) := vx_backW (hh := hh) (bytes := bytes) (maxL := maxL) (ret := ret) hM hp.1 hrc hrs hfr hlo hws hcw (fun a' U hW => word_at hW (Or.inl (by first | rfl | simp [Cond.onTables, Cond.keeps, Cond.steady])) hini)
  obtain ⟨hx, hb, hml, ho, -⟩ := S
  intro T hT X
  rcases vx_callSX X hx (hh := hh) (bytes := bytes) (maxL := maxL) (ret := ret) ho hl hstt hini hcode hy hK hg (hsize.trans hml.symm) (argsL := As) (rest := rest) (fun sig h => hn.trans (hlen sig h)) hstack hW (by rw [hb]; exact hdg)
    (fun vm₁ hW₁ => ⟨hf.1, hf.2, hp.2 (T.setVm vm₁) hT hW₁⟩) with ⟨v, vm₁, ⟨U', l2, c2, s2⟩, hW₁, X', ⟨g', mk, t, L, e1, e2, hq, h1, hL, h2, h3⟩, st⟩ | ⟨q, vm₁, ⟨U', l2, c2, s2⟩, hW₁, X', ⟨g', mk, t, L, E, ce, e1, e2, hq, hce, hcv, hcl, h1, hL, h2, h3⟩, st⟩
  · dsimp only [Pt.U, Pt.locs, Pt.cells, Pt.slots] at X' e1 e2 h1 h2 h3 st
    subst h1; subst h2; subst h3
    exact Or.inl ⟨v, (T.setVm vm₁).calling g' mk As.toArray, t, U', L, hT, X', hL, e1, e2, hq, st⟩
  · dsimp only [Pt.U, Pt.locs, Pt.cells, Pt.slots] at X' e1 e2 h1 h2 h3 st hcl
    subst h1; subst h2; subst h3
    exact Or.inr ⟨q, (T.setVm vm₁).calling g' mk As.toArray, t, U', L, E, ce, hT, X', hL, e1, e2, hq, hce, hcv, vx_cls hW₁ hcl, st⟩
end
end VXH
theorem vx_ofWH {l : Launch} {y : MethodName} {ws ws' : List Cond} {rm : Room} {Pc : Array Value → State → Prop} {Qc : Array Value → State → Outcome → State → Prop} {XC : String → State → State → Prop} {mc ms : Nat} {free : Addr → Prop} {cc : ByteArray} {maxL : Nat} {ret : Option FieldType} {hh : List (Nat × Nat × Nat × Nat)}
    (hy : plainFor y = true) (hw : ws = Cond.codeWith y cc maxL ret hh :: ws')
    (body : ∀ p e s m args below meth c s₁, BodyLoose p l y (headSpec ws rm) cc maxL ret e s m args below meth c s₁ → c.maxLocals = maxL → Pc args s →
      W p l e (headSpec ws rm).room s m args below meth c s.heap [] 0 0 (vx_MQ below Qc XC args s mc ms free) (entryFrame m args maxL)) : vx_Met l y ws rm Pc Qc XC mc ms free := by
  refine MetFree.of_bodySF (code := cc) (maxLocals := maxL) (ret := ret) hy ?_ ?_
  · intro args s m h hn
    obtain ⟨m9, meth, c, hn9, h1, h2, h3, h4, -, h5, h6, -⟩ := Cond.codeWith_spec (atoms_spec (ws := ws) h _ (by rw [hw]; exact List.mem_cons_self))
    cases hn.symm.trans hn9
    exact ⟨meth, c, h1, h2, h3, h4, h5, h6⟩
  · intro p e s m args below meth c s₁ B hml hP _
    have hh0 : s₁.heap = s.heap := by rw [B.state]; rfl
    obtain ⟨t, a1, o, b1, b2, b3⟩ := body p e s m args below meth c s₁ B hml hP s₁ hh0 (Stand.of_body B)
    exact ⟨t, o, a1, b1, b2, b3⟩
/-! ===== END ===== -/
end
section
/-! ===== an abstract machine: what bytecode does to locals, stack and cells, as a function. Part one: instructions that touch no cell ===== -/
abbrev mi_L : Type := List (Nat × Value)
abbrev mi_P : Type := Option (Nat × mi_L × List Value)
def mi_look : mi_L → Nat → Option Value
  | [], _ => none
  | q :: l, k => if q.1 == k then some q.2 else mi_look l k
def mi_s1 (l : mi_L) (i : Nat) (v : Value) : mi_L := (i, v) :: l.filter (fun q => !(q.1 == i) && !(q.1 + 1 == i && q.2.category == 2))
def mi_s2 (l : mi_L) (i : Nat) (v : Value) : mi_L := (i, v) :: l.filter (fun q => !(q.1 == i) && (!(q.1 == i + 1) && !(q.1 + 1 == i && q.2.category == 2)))
def mi_jmp (pc : Nat) (off : Int) : Option Nat := if 0 ≤ (pc : Int) + off then some ((pc : Int) + off).toNat else none
def mi_isI : Value → Bool
  | .int _ => true
  | _ => false
def mi_isL : Value → Bool
  | .long _ => true
  | _ => false
def mi_isD : Value → Bool
  | .double _ => true
  | _ => false
/-- null, a cell (ref), a cell that was there before (retAddr), null or some cell of which nothing is known (float) -/
def mi_isA : Value → Bool
  | .null => true
  | .ref _ => true
  | .retAddr _ => true
  | .float _ => true
  | _ => false
def mi_ld (ok : Value → Bool) (k pc' : Nat) (l : mi_L) (st : List Value) : mi_P := match mi_look l k with
  | some v => if ok v then some (pc', l, v :: st) else none
  | none => none
def mi_st (ok : Value → Bool) (nL k pc' : Nat) (l : mi_L) (st : List Value) : mi_P := match st with
  | v :: r => if ok v && decide (k < nL) then some (pc', mi_s1 l k v, r) else none
  | [] => none
def mi_st2 (ok : Value → Bool) (nL k pc' : Nat) (l : mi_L) (st : List Value) : mi_P := match st with
  | v :: r => if ok v && decide (k + 1 < nL) then some (pc', mi_s2 l k v, r) else none
  | [] => none
def mi_ii (f : Int32 → Int32 → Option Value) (pc' : Nat) (l : mi_L) (st : List Value) : mi_P := match st with
  | .int y :: .int x :: r => (match f x y with | some v => some (pc', l, v :: r) | none => none)
  | _ => none
def mi_ll (f : Int64 → Int64 → Option Value) (pc' : Nat) (l : mi_L) (st : List Value) : mi_P := match st with
  | .long y :: .long x :: r => (match f x y with | some v => some (pc', l, v :: r) | none => none)
  | _ => none
def mi_dd (f : UInt64 → UInt64 → Option Value) (pc' : Nat) (l : mi_L) (st : List Value) : mi_P := match st with
  | .double y :: .double x :: r => (match f x y with | some v => some (pc', l, v :: r) | none => none)
  | _ => none
def mi_li (f : Int64 → Int32 → Value) (pc' : Nat) (l : mi_L) (st : List Value) : mi_P := match st with
  | .int y :: .long x :: r => some (pc', l, f x y :: r)
  | _ => none
def mi_i1 (f : Int32 → Value) (pc' : Nat) (l : mi_L) (st : List Value) : mi_P := match st with
  | .int x :: r => some (pc', l, f x :: r)
  | _ => none
def mi_l1 (f : Int64 → Value) (pc' : Nat) (l : mi_L) (st : List Value) : mi_P := match st with
  | .long x :: r => some (pc', l, f x :: r)
  | _ => none
def mi_c1 (f : Int32 → Bool) (pc : Nat) (off : Int) (l : mi_L) (st : List Value) : mi_P := match st with
  | .int x :: r => (match mi_jmp pc off with | some t => some (if f x then t else pc + 3, l, r) | none => none)
  | _ => none
def mi_c2 (f : Int32 → Int32 → Bool) (pc : Nat) (off : Int) (l : mi_L) (st : List Value) : mi_P := match st with
  | .int y :: .int x :: r => (match mi_jmp pc off with | some t => some (if f x y then t else pc + 3, l, r) | none => none)
  | _ => none
def mi_goto (pc : Nat) (off : Int) (l : mi_L) (st : List Value) : mi_P := match mi_jmp pc off with
  | some t => some (t, l, st)
  | none => none
/-- whether a branch on null is taken: 'isn' for ifnull -/
def mi_nul (isn : Bool) (pc : Nat) (off : Int) (l : mi_L) (st : List Value) : mi_P := match st with
  | .null :: r => if isn then mi_goto pc off l r else some (pc + 3, l, r)
  | .ref _ :: r => if isn then some (pc + 3, l, r) else mi_goto pc off l r
  | .retAddr _ :: r => if isn then some (pc + 3, l, r) else mi_goto pc off l r
  | _ => none
def mi_dup (pc' : Nat) (l : mi_L) (st : List Value) : mi_P := match st with
  | v :: r => if v.category = 1 then some (pc', l, v :: v :: r) else none
  | _ => none
def mi_pop (pc' : Nat) (l : mi_L) (st : List Value) : mi_P := match st with
  | v :: r => if v.category = 1 then some (pc', l, r) else none
  | _ => none
def mi_dupx1 (pc' : Nat) (l : mi_L) (st : List Value) : mi_P := match st with
  | v :: w :: r => if v.category = 1 ∧ w.category = 1 then some (pc', l, v :: w :: v :: r) else none
  | _ => none
def mi_dup2 (pc' : Nat) (l : mi_L) (st : List Value) : mi_P := match st with
  | v :: r => if v.category = 2 then some (pc', l, v :: v :: r) else (match r with
    | w :: r' => if v.category = 1 ∧ w.category = 1 then some (pc', l, v :: w :: v :: w :: r') else none
    | [] => none)
  | _ => none
def mi_pop2 (pc' : Nat) (l : mi_L) (st : List Value) : mi_P := match st with
  | v :: r => if v.category = 2 then some (pc', l, r) else none
  | _ => none
def mi_iinc (nL k : Nat) (n : Int) (pc' : Nat) (l : mi_L) (st : List Value) : mi_P := match mi_look l k with
  | some (.int x) => if k < nL then some (pc', mi_s1 l k (.int (x + Int32.ofInt n)), st) else none
  | _ => none
def mi_tab (d lo hi : Int) (offs : Array Int) (pc : Nat) (l : mi_L) (st : List Value) : mi_P := match st with
  | .int x :: r => if x.toInt < lo ∨ hi < x.toInt then mi_goto pc d l r else (match offs[(x.toInt - lo).toNat]? with
    | some off => mi_goto pc off l r
    | none => none)
  | _ => none
def mi_lku (d : Int) (ps : Array (Int × Int)) (pc : Nat) (l : mi_L) (st : List Value) : mi_P := match st with
  | .int x :: r => if (ps.toList.zip (ps.toList.drop 1)).all (fun (a, next) => a.1 < next.1) = true then mi_goto pc (Op.lookupswitch.offset ps.toList d x.toInt) l r else none
  | _ => none
def mi_cc : ClassFile.Cond → Int32 → Int32 → Bool
  | .eq, x, y => decide (x = y)
  | .ne, x, y => !decide (x = y)
  | .lt, x, y => decide (x < y)
  | .ge, x, y => decide (y ≤ x)
  | .gt, x, y => decide (y < x)
  | .le, x, y => decide (x ≤ y)
def mi_len : Instr → Nat
  | .bipush _ => 2
  | .iload _ => 2
  | .lload _ => 2
  | .aload _ => 2
  | .dload _ => 2
  | .istore _ => 2
  | .lstore _ => 2
  | .astore _ => 2
  | .dstore _ => 2
  | .sipush _ => 3
  | .ifCond _ _ => 3
  | .if_icmp _ _ => 3
  | .ifnull _ => 3
  | .ifnonnull _ => 3
  | .goto _ => 3
  | .iinc _ _ => 3
  | _ => 1
def mi_pu (nL : Nat) (i : Instr) (pc : Nat) (l : mi_L) (st : List Value) : mi_P := match i with
  | .aconst_null => some (pc + 1, l, .null :: st)
  | .iconst n => some (pc + 1, l, .int (Int32.ofInt n) :: st)
  | .bipush n => some (pc + 2, l, .int (Int8.ofInt n).toInt32 :: st)
  | .sipush n => some (pc + 3, l, .int (Int16.ofInt n).toInt32 :: st)
  | .lconst n => some (pc + 1, l, .long (Int64.ofNat (n : Nat)) :: st)
  | .dconst n => some (pc + 1, l, .double (match n with | 0 => FP.dconst0 | 1 => FP.dconst1) :: st)
  | .iload k => mi_ld mi_isI k (pc + 2) l st
  | .iload_n k => mi_ld mi_isI k (pc + 1) l st
  | .lload k => mi_ld mi_isL k (pc + 2) l st
  | .lload_n k => mi_ld mi_isL k (pc + 1) l st
  | .dload k => mi_ld mi_isD k (pc + 2) l st
  | .dload_n k => mi_ld mi_isD k (pc + 1) l st
  | .aload k => mi_ld mi_isA k (pc + 2) l st
  | .aload_n k => mi_ld mi_isA k (pc + 1) l st
  | .istore k => mi_st mi_isI nL k (pc + 2) l st
  | .istore_n k => mi_st mi_isI nL k (pc + 1) l st
  | .astore k => mi_st mi_isA nL k (pc + 2) l st
  | .astore_n k => mi_st mi_isA nL k (pc + 1) l st
  | .lstore k => mi_st2 mi_isL nL k (pc + 2) l st
  | .lstore_n k => mi_st2 mi_isL nL k (pc + 1) l st
  | .dstore k => mi_st2 mi_isD nL k (pc + 2) l st
  | .dstore_n k => mi_st2 mi_isD nL k (pc + 1) l st
  | .iinc k n => mi_iinc nL k n (pc + 3) l st
  | .iadd => mi_ii (fun x y => some (.int (x + y))) (pc + 1) l st
  | .isub => mi_ii (fun x y => some (.int (x - y))) (pc + 1) l st
  | .imul => mi_ii (fun x y => some (.int (x * y))) (pc + 1) l st
  | .iand => mi_ii (fun x y => some (.int (x &&& y))) (pc + 1) l st
  | .ior => mi_ii (fun x y => some (.int (x ||| y))) (pc + 1) l st
  | .ixor => mi_ii (fun x y => some (.int (x ^^^ y))) (pc + 1) l st
  | .idiv => mi_ii (fun x y => if y = 0 then none else some (.int (x / y))) (pc + 1) l st
  | .irem => mi_ii (fun x y => if y = 0 then none else some (.int (x - x / y * y))) (pc + 1) l st
  | .ishl => mi_ii (fun x y => some (.int (x <<< (y &&& 31)))) (pc + 1) l st
  | .ishr => mi_ii (fun x y => some (.int (x >>> (y &&& 31)))) (pc + 1) l st
  | .iushr => mi_ii (fun x y => some (.int (x.toUInt32 >>> (y.toUInt32 &&& Int32.toUInt32 31)).toInt32)) (pc + 1) l st
  | .ineg => mi_i1 (fun x => .int (-x)) (pc + 1) l st
  | .i2l => mi_i1 (fun x => .long x.toInt64) (pc + 1) l st
  | .i2b => mi_i1 (fun x => .int x.toInt8.toInt32) (pc + 1) l st
  | .i2s => mi_i1 (fun x => .int x.toInt16.toInt32) (pc + 1) l st
  | .i2c => mi_i1 (fun x => .int (x.toUInt32 % 65536).toInt32) (pc + 1) l st
  | .i2d => mi_i1 (fun x => .double (FP.i2d x)) (pc + 1) l st
  | .l2i => mi_l1 (fun x => .int x.toInt32) (pc + 1) l st
  | .l2d => mi_l1 (fun x => .double (FP.l2d x)) (pc + 1) l st
  | .ladd => mi_ll (fun x y => some (.long (x + y))) (pc + 1) l st
  | .lsub => mi_ll (fun x y => some (.long (x - y))) (pc + 1) l st
  | .lmul => mi_ll (fun x y => some (.long (x * y))) (pc + 1) l st
  | .land => mi_ll (fun x y => some (.long (x &&& y))) (pc + 1) l st
  | .lxor => mi_ll (fun x y => some (.long (x ^^^ y))) (pc + 1) l st
  | .lor => mi_ll (fun x y => some (.long (x ||| y))) (pc + 1) l st
  | .ldiv => mi_ll (fun x y => if y = 0 then none else some (.long (x / y))) (pc + 1) l st
  | .lrem => mi_ll (fun x y => if y = 0 then none else some (.long (x - x / y * y))) (pc + 1) l st
  | .lcmp => mi_ll (fun x y => some (.int (lg_cmp x y))) (pc + 1) l st
  | .lshl => mi_li (fun x y => .long (x <<< (y.toInt64 &&& 63))) (pc + 1) l st
  | .lshr => mi_li (fun x y => .long (x >>> (y.toInt64 &&& 63))) (pc + 1) l st
  | .lushr => mi_li (fun x y => .long (x.toUInt64 >>> (y.toInt64.toUInt64 &&& Int64.toUInt64 63)).toInt64) (pc + 1) l st
  | .ddiv => mi_dd (fun x y => if FP.ddiv x y &&& 0x7fffffffffffffff ≤ 0x7ff0000000000000 then some (.double (FP.ddiv x y)) else none) (pc + 1) l st
  | .dcmp op => mi_dd (fun x y => some (.int (Op.cmpValue (FP.dcmp x y) op))) (pc + 1) l st
  | .dup => mi_dup (pc + 1) l st
  | .dup_x1 => mi_dupx1 (pc + 1) l st
  | .dup2 => mi_dup2 (pc + 1) l st
  | .pop => mi_pop (pc + 1) l st
  | .pop2 => mi_pop2 (pc + 1) l st
  | .ifCond k off => mi_c1 (fun x => mi_cc k x 0) pc off l st
  | .if_icmp k off => mi_c2 (fun x y => mi_cc k x y) pc off l st
  | .ifnull off => mi_nul true pc off l st
  | .ifnonnull off => mi_nul false pc off l st
  | .goto off => mi_goto pc off l st
  | _ => none
/-- one instruction that touches no cell and calls nothing: the next place, the locals, the stack -/
def mi_pure (nL len : Nat) (i : Instr) (pc : Nat) (l : mi_L) (st : List Value) : mi_P := match i with
  | .tableswitch d lo hi offs => mi_tab d lo hi offs pc l st
  | .lookupswitch d ps => mi_lku d ps pc l st
  | i => if len = mi_len i then mi_pu nL i pc l st else none
/-! how its values stand for the machine's: ad the addresses of its cells, cn those of the cells that were there before -/
def mi_rv (ad : List Nat) (cn : Nat → Nat) (v w : Value) : Prop := match v with
  | .ref k => ∃ a, ad[k]? = some a ∧ w = .ref a
  | .retAddr k => w = .ref (cn k)
  | .float _ => w = .null ∨ ∃ a, w = .ref a
  | v => w = v
def mi_rl (ad : List Nat) (cn : Nat → Nat) : List Value → List Value → Prop
  | [], ws => ws = []
  | v :: vs, ws => ∃ w ws', ws = w :: ws' ∧ mi_rv ad cn v w ∧ mi_rl ad cn vs ws'
def mi_rn (ad : List Nat) (cn : Nat → Nat) : mi_L → mi_L → Prop
  | [], lv => lv = []
  | q :: l, lv => ∃ w lv', lv = (q.1, w) :: lv' ∧ mi_rv ad cn q.2 w ∧ mi_rn ad cn l lv'
def mi_le (ad ad' : List Nat) : Prop := ∀ (k a : Nat), ad[k]? = some a → ad'[k]? = some a
theorem mi_le_rf (ad : List Nat) : mi_le ad ad := fun _ _ h => h
theorem mi_le_tr {a b c : List Nat} (h : mi_le a b) (h2 : mi_le b c) : mi_le a c := fun k x q => h2 k x (h k x q)
theorem mi_le_app (ad : List Nat) (q : Nat) : mi_le ad (ad ++ [q]) := fun k a h => by
  rw [List.getElem?_append_left (List.getElem?_eq_some_iff.mp h).1]; exact h
theorem mi_rv_mono {ad ad' : List Nat} {cn : Nat → Nat} (h : mi_le ad ad') {v w : Value} (q : mi_rv ad cn v w) : mi_rv ad' cn v w := by
  cases v <;> simp only [mi_rv] at q ⊢ <;> try exact q
  obtain ⟨a, h1, h2⟩ := q
  exact ⟨a, h _ _ h1, h2⟩
theorem mi_rl_mono {ad ad' : List Nat} {cn : Nat → Nat} (h : mi_le ad ad') : ∀ {vs ws : List Value}, mi_rl ad cn vs ws → mi_rl ad' cn vs ws
  | [], _, q => q
  | _ :: _, _, ⟨w, ws', e, a, b⟩ => ⟨w, ws', e, mi_rv_mono h a, mi_rl_mono h b⟩
theorem mi_rn_mono {ad ad' : List Nat} {cn : Nat → Nat} (h : mi_le ad ad') : ∀ {vs ws : mi_L}, mi_rn ad cn vs ws → mi_rn ad' cn vs ws
  | [], _, q => q
  | _ :: _, _, ⟨w, ws', e, a, b⟩ => ⟨w, ws', e, mi_rv_mono h a, mi_rn_mono h b⟩
theorem mi_rv_cat {ad : List Nat} {cn : Nat → Nat} {v w : Value} (q : mi_rv ad cn v w) : w.category = v.category := by
  cases v <;> simp only [mi_rv] at q
  case ref => obtain ⟨a, -, rfl⟩ := q; rfl
  case float => rcases q with rfl | ⟨a, rfl⟩ <;> rfl
  all_goals (subst q; rfl)
theorem mi_look_r {ad : List Nat} {cn : Nat → Nat} {i : Nat} {v : Value} : ∀ {l lv : mi_L}, mi_look l i = some v → mi_rn ad cn l lv → ∃ (k : Nat) (w : Value), lv[k]? = some (i, w) ∧ mi_rv ad cn v w
  | [], _, h, _ => by cases h
  | q :: l, _, h, ⟨w, lv', e, a, b⟩ => by
    subst e
    unfold mi_look at h
    by_cases hq : q.1 == i
    · rw [if_pos hq] at h
      cases h
      exact ⟨0, w, by simp [beq_iff_eq.mp hq], a⟩
    · rw [if_neg hq] at h
      obtain ⟨k, w2, h1, h2⟩ := mi_look_r h b
      exact ⟨k + 1, w2, by simpa using h1, h2⟩
theorem mi_rn_filter {ad : List Nat} {cn : Nat → Nat} (f : Nat → Nat → Bool) : ∀ {l lv : mi_L}, mi_rn ad cn l lv → mi_rn ad cn (l.filter (fun q => f q.1 q.2.category)) (lv.filter (fun q => f q.1 q.2.category))
  | [], _, h => by
    have h' : _ = [] := h
    subst h'
    exact rfl
  | q :: l, _, ⟨w, lv', e, a, b⟩ => by
    subst e
    have ih := mi_rn_filter f b
    have hc : w.category = q.2.category := mi_rv_cat a
    cases hf : f q.1 q.2.category with
    | true =>
      have e1 : (q :: l).filter (fun q => f q.1 q.2.category) = q :: l.filter (fun q => f q.1 q.2.category) := by simp [List.filter_cons, hf]
      have e2 : ((q.1, w) :: lv').filter (fun q => f q.1 q.2.category) = (q.1, w) :: lv'.filter (fun q => f q.1 q.2.category) := by simp [List.filter_cons, hc, hf]
      rw [e1, e2]
      exact ⟨w, _, rfl, a, ih⟩
    | false =>
      have e1 : (q :: l).filter (fun q => f q.1 q.2.category) = l.filter (fun q => f q.1 q.2.category) := by simp [List.filter_cons, hf]
      have e2 : ((q.1, w) :: lv').filter (fun q => f q.1 q.2.category) = lv'.filter (fun q => f q.1 q.2.category) := by simp [List.filter_cons, hc, hf]
      rw [e1, e2]
      exact ih
theorem mi_s1_r {ad : List Nat} {cn : Nat → Nat} {l lv : mi_L} {i : Nat} {v w : Value} (h : mi_rn ad cn l lv) (hv : mi_rv ad cn v w) : mi_rn ad cn (mi_s1 l i v) ((i, w) :: lv.filter (fun q => !(q.1 == i) && !(q.1 + 1 == i && q.2.category == 2))) :=
  ⟨w, _, rfl, hv, mi_rn_filter (fun a b => !(a == i) && !(a + 1 == i && b == 2)) h⟩
theorem mi_s2_r {ad : List Nat} {cn : Nat → Nat} {l lv : mi_L} {i : Nat} {v w : Value} (h : mi_rn ad cn l lv) (hv : mi_rv ad cn v w) : mi_rn ad cn (mi_s2 l i v) ((i, w) :: lv.filter (fun q => !(q.1 == i) && (!(q.1 == i + 1) && !(q.1 + 1 == i && q.2.category == 2)))) :=
  ⟨w, _, rfl, hv, mi_rn_filter (fun a b => !(a == i) && (!(a == i + 1) && !(a + 1 == i && b == 2))) h⟩
theorem mi_jmp_eq {pc t : Nat} {off : Int} (h : mi_jmp pc off = some t) : (pc : Int) + off = (t : Int) := by
  unfold mi_jmp at h
  split at h
  · cases h
    omega
  · cases h
/-! what each shape of instruction needs of the stack -/
theorem mi_ld_inv {ok : Value → Bool} {k pc' a : Nat} {l b : mi_L} {st d : List Value} (h : mi_ld ok k pc' l st = some (a, b, d)) : ∃ v, mi_look l k = some v ∧ ok v = true ∧ a = pc' ∧ b = l ∧ d = v :: st := by
  unfold mi_ld at h
  cases hv : mi_look l k with
  | none => simp [hv] at h
  | some v =>
    simp only [hv] at h
    by_cases ho : ok v = true
    · simp only [ho, if_true] at h
      cases h
      exact ⟨v, rfl, ho, rfl, rfl, rfl⟩
    · simp [ho] at h
theorem mi_st_inv {ok : Value → Bool} {nL k pc' a : Nat} {l b : mi_L} {st d : List Value} (h : mi_st ok nL k pc' l st = some (a, b, d)) : ∃ v r, st = v :: r ∧ ok v = true ∧ k < nL ∧ a = pc' ∧ b = mi_s1 l k v ∧ d = r := by
  unfold mi_st at h
  cases st with
  | nil => cases h
  | cons v r =>
    by_cases ho : (ok v && decide (k < nL)) = true
    · simp only [ho, if_true] at h
      cases h
      simp only [Bool.and_eq_true, decide_eq_true_eq] at ho
      exact ⟨v, _, rfl, ho.1, ho.2, rfl, rfl, rfl⟩
    · simp [ho] at h
theorem mi_st2_inv {ok : Value → Bool} {nL k pc' a : Nat} {l b : mi_L} {st d : List Value} (h : mi_st2 ok nL k pc' l st = some (a, b, d)) : ∃ v r, st = v :: r ∧ ok v = true ∧ k + 1 < nL ∧ a = pc' ∧ b = mi_s2 l k v ∧ d = r := by
  unfold mi_st2 at h
  cases st with
  | nil => cases h
  | cons v r =>
    by_cases ho : (ok v && decide (k + 1 < nL)) = true
    · simp only [ho, if_true] at h
      cases h
      simp only [Bool.and_eq_true, decide_eq_true_eq] at ho
      exact ⟨v, _, rfl, ho.1, ho.2, rfl, rfl, rfl⟩
    · simp [ho] at h
theorem mi_ii_inv {f : Int32 → Int32 → Option Value} {pc' a : Nat} {l b : mi_L} {st d : List Value} (h : mi_ii f pc' l st = some (a, b, d)) : ∃ x y v r, st = .int y :: .int x :: r ∧ f x y = some v ∧ a = pc' ∧ b = l ∧ d = v :: r := by
  unfold mi_ii at h
  split at h
  next y x r =>
    cases hf : f x y with
    | none => simp [hf] at h
    | some v =>
      simp only [hf] at h
      cases h
      exact ⟨x, y, v, r, rfl, hf, rfl, rfl, rfl⟩
  next => cases h
theorem mi_ll_inv {f : Int64 → Int64 → Option Value} {pc' a : Nat} {l b : mi_L} {st d : List Value} (h : mi_ll f pc' l st = some (a, b, d)) : ∃ x y v r, st = .long y :: .long x :: r ∧ f x y = some v ∧ a = pc' ∧ b = l ∧ d = v :: r := by
  unfold mi_ll at h
  split at h
  next y x r =>
    cases hf : f x y with
    | none => simp [hf] at h
    | some v =>
      simp only [hf] at h
      cases h
      exact ⟨x, y, v, r, rfl, hf, rfl, rfl, rfl⟩
  next => cases h
theorem mi_dd_inv {f : UInt64 → UInt64 → Option Value} {pc' a : Nat} {l b : mi_L} {st d : List Value} (h : mi_dd f pc' l st = some (a, b, d)) : ∃ x y v r, st = .double y :: .double x :: r ∧ f x y = some v ∧ a = pc' ∧ b = l ∧ d = v :: r := by
  unfold mi_dd at h
  split at h
  next y x r =>
    cases hf : f x y with
    | none => simp [hf] at h
    | some v =>
      simp only [hf] at h
      cases h
      exact ⟨x, y, v, r, rfl, hf, rfl, rfl, rfl⟩
  next => cases h
theorem mi_li_inv {f : Int64 → Int32 → Value} {pc' a : Nat} {l b : mi_L} {st d : List Value} (h : mi_li f pc' l st = some (a, b, d)) : ∃ x y r, st = .int y :: .long x :: r ∧ a = pc' ∧ b = l ∧ d = f x y :: r := by
  unfold mi_li at h
  split at h
  next y x r => cases h; exact ⟨x, y, r, rfl, rfl, rfl, rfl⟩
  next => cases h
theorem mi_i1_inv {f : Int32 → Value} {pc' a : Nat} {l b : mi_L} {st d : List Value} (h : mi_i1 f pc' l st = some (a, b, d)) : ∃ x r, st = .int x :: r ∧ a = pc' ∧ b = l ∧ d = f x :: r := by
  unfold mi_i1 at h
  split at h
  next x r => cases h; exact ⟨x, r, rfl, rfl, rfl, rfl⟩
  next => cases h
theorem mi_l1_inv {f : Int64 → Value} {pc' a : Nat} {l b : mi_L} {st d : List Value} (h : mi_l1 f pc' l st = some (a, b, d)) : ∃ x r, st = .long x :: r ∧ a = pc' ∧ b = l ∧ d = f x :: r := by
  unfold mi_l1 at h
  split at h
  next x r => cases h; exact ⟨x, r, rfl, rfl, rfl, rfl⟩
  next => cases h
theorem mi_goto_inv {pc a : Nat} {off : Int} {l b : mi_L} {st d : List Value} (h : mi_goto pc off l st = some (a, b, d)) : (pc : Int) + off = (a : Int) ∧ b = l ∧ d = st := by
  unfold mi_goto at h
  cases hj : mi_jmp pc off with
  | none => simp [hj] at h
  | some t =>
    simp only [hj] at h
    cases h
    exact ⟨mi_jmp_eq hj, rfl, rfl⟩
theorem mi_c1_inv {f : Int32 → Bool} {pc a : Nat} {off : Int} {l b : mi_L} {st d : List Value} (h : mi_c1 f pc off l st = some (a, b, d)) : ∃ x r t, st = .int x :: r ∧ b = l ∧ d = r ∧ (pc : Int) + off = ((t : Nat) : Int) ∧ a = if f x then t else pc + 3 := by
  unfold mi_c1 at h
  split at h
  next x r =>
    cases hj : mi_jmp pc off with
    | none => simp [hj] at h
    | some t =>
      simp only [hj] at h
      cases h
      exact ⟨x, _, t, rfl, rfl, rfl, mi_jmp_eq hj, rfl⟩
  next => cases h
theorem mi_c2_inv {f : Int32 → Int32 → Bool} {pc a : Nat} {off : Int} {l b : mi_L} {st d : List Value} (h : mi_c2 f pc off l st = some (a, b, d)) : ∃ x y r t, st = .int y :: .int x :: r ∧ b = l ∧ d = r ∧ (pc : Int) + off = ((t : Nat) : Int) ∧ a = if f x y then t else pc + 3 := by
  unfold mi_c2 at h
  split at h
  next y x r =>
    cases hj : mi_jmp pc off with
    | none => simp [hj] at h
    | some t =>
      simp only [hj] at h
      cases h
      exact ⟨x, y, _, t, rfl, rfl, rfl, mi_jmp_eq hj, rfl⟩
  next => cases h
/-! the machine's stack below abstract tops -/
theorem mi_rl_i {ad : List Nat} {cn : Nat → Nat} {x : Int32} {r ws : List Value} (h : mi_rl ad cn (.int x :: r) ws) : ∃ w, ws = .int x :: w ∧ mi_rl ad cn r w := by
  obtain ⟨w, ws', e, a, b⟩ := h
  have a' : w = .int x := a
  subst a'
  exact ⟨ws', e, b⟩
theorem mi_rl_l {ad : List Nat} {cn : Nat → Nat} {x : Int64} {r ws : List Value} (h : mi_rl ad cn (.long x :: r) ws) : ∃ w, ws = .long x :: w ∧ mi_rl ad cn r w := by
  obtain ⟨w, ws', e, a, b⟩ := h
  have a' : w = .long x := a
  subst a'
  exact ⟨ws', e, b⟩
theorem mi_rl_d {ad : List Nat} {cn : Nat → Nat} {x : UInt64} {r ws : List Value} (h : mi_rl ad cn (.double x :: r) ws) : ∃ w, ws = .double x :: w ∧ mi_rl ad cn r w := by
  obtain ⟨w, ws', e, a, b⟩ := h
  have a' : w = .double x := a
  subst a'
  exact ⟨ws', e, b⟩
theorem mi_rl_ii {ad : List Nat} {cn : Nat → Nat} {x y : Int32} {r ws : List Value} (h : mi_rl ad cn (.int y :: .int x :: r) ws) : ∃ w, ws = .int y :: .int x :: w ∧ mi_rl ad cn r w := by
  obtain ⟨w, rfl, h1⟩ := mi_rl_i h
  obtain ⟨w2, rfl, h2⟩ := mi_rl_i h1
  exact ⟨w2, rfl, h2⟩
theorem mi_rl_ll {ad : List Nat} {cn : Nat → Nat} {x y : Int64} {r ws : List Value} (h : mi_rl ad cn (.long y :: .long x :: r) ws) : ∃ w, ws = .long y :: .long x :: w ∧ mi_rl ad cn r w := by
  obtain ⟨w, rfl, h1⟩ := mi_rl_l h
  obtain ⟨w2, rfl, h2⟩ := mi_rl_l h1
  exact ⟨w2, rfl, h2⟩
theorem mi_rl_dd {ad : List Nat} {cn : Nat → Nat} {x y : UInt64} {r ws : List Value} (h : mi_rl ad cn (.double y :: .double x :: r) ws) : ∃ w, ws = .double y :: .double x :: w ∧ mi_rl ad cn r w := by
  obtain ⟨w, rfl, h1⟩ := mi_rl_d h
  obtain ⟨w2, rfl, h2⟩ := mi_rl_d h1
  exact ⟨w2, rfl, h2⟩
theorem mi_rl_li {ad : List Nat} {cn : Nat → Nat} {x : Int64} {y : Int32} {r ws : List Value} (h : mi_rl ad cn (.int y :: .long x :: r) ws) : ∃ w, ws = .int y :: .long x :: w ∧ mi_rl ad cn r w := by
  obtain ⟨w, rfl, h1⟩ := mi_rl_i h
  obtain ⟨w2, rfl, h2⟩ := mi_rl_l h1
  exact ⟨w2, rfl, h2⟩
theorem mi_rl_c {ad : List Nat} {cn : Nat → Nat} {v w : Value} {r ws : List Value} (a : mi_rv ad cn v w) (h : mi_rl ad cn r ws) : mi_rl ad cn (v :: r) (w :: ws) := ⟨w, ws, rfl, a, h⟩
theorem mi_rv_A {ad : List Nat} {cn : Nat → Nat} {v w : Value} (h : mi_rv ad cn v w) (ok : mi_isA v = true) : w = .null ∨ ∃ a, w = .ref a := by
  cases v <;> simp only [mi_isA, Bool.false_eq_true] at ok
  case null => exact Or.inl h
  case ref => obtain ⟨a, -, e⟩ := h; exact Or.inr ⟨a, e⟩
  case retAddr => exact Or.inr ⟨_, h⟩
  case float => exact h
end
section
/-! ===== the pure instructions are the machine's ===== -/
section MIP
variable {p : Program} {l : Launch} {e : Env} {R : Room} {s : State} {m : MethodId} {args : Array Value} {below : List Frame} {meth : Method} {c : Code} {H : Heap} {locs : List Loc} {cells slots : Nat} {Q : State → Prop}
variable {cc : ByteArray} {nL pc pc' : Nat} {la la' : mi_L} {st st' : List Value} {ad : List Nat} {cn : Nat → Nat} {ls : Array Slot} {lv : mi_L} {sw : List Value}
/-- the way on behind an instruction -/
abbrev mi_K (p : Program) (l : Launch) (e : Env) (R : Room) (s : State) (m : MethodId) (args : Array Value) (below : List Frame) (meth : Method) (c : Code) (H : Heap) (locs : List Loc) (cells slots : Nat) (Q : State → Prop) (nL pc' : Nat) (la' : mi_L) (st' : List Value) (ad : List Nat) (cn : Nat → Nat) : Prop :=
  ∀ (ls' : Array Slot) (lv' : mi_L) (sw' : List Value), lv_has ls' nL lv' → mi_rn ad cn la' lv' → mi_rl ad cn st' sw' → W p l e R s m args below meth c H locs cells slots Q (F0 m pc' ls' sw')

theorem mi_goto_ok (hx : p.tables.exec = Jvm.exec) (hb : c.code = cc) {off : Int} (hd : decode cc pc = .ok (.goto off, 3)) (h : mi_goto pc off la st = some (pc', la', st')) (hl : lv_has ls nL lv) (hn : mi_rn ad cn la lv) (hs : mi_rl ad cn st sw) (kk : mi_K p l e R s m args below meth c H locs cells slots Q nL pc' la' st' ad cn) : W p l e R s m args below meth c H locs cells slots Q (F0 m pc ls sw) := by
  obtain ⟨ht, rfl, rfl⟩ := mi_goto_inv h
  exact lv_goto hx hb hd ht (kk _ _ _ hl hn hs)
theorem mi_tab_ok (hx : p.tables.exec = Jvm.exec) (hb : c.code = cc) {d lo hi : Int} {offs : Array Int} {len : Nat} (hd : decode cc pc = .ok (.tableswitch d lo hi offs, len)) (h : mi_tab d lo hi offs pc la st = some (pc', la', st')) (hl : lv_has ls nL lv) (hn : mi_rn ad cn la lv) (hs : mi_rl ad cn st sw) (kk : mi_K p l e R s m args below meth c H locs cells slots Q nL pc' la' st' ad cn) : W p l e R s m args below meth c H locs cells slots Q (F0 m pc ls sw) := by
  unfold mi_tab at h
  split at h
  next x r =>
    obtain ⟨w, rfl, hr⟩ := mi_rl_i hs
    split at h
    next hc =>
      obtain ⟨ht, rfl, rfl⟩ := mi_goto_inv h
      exact lv_tableOut hx hb hd hc ht (kk _ _ _ hl hn hr)
    next hc =>
      split at h
      next off ho =>
        obtain ⟨ht, rfl, rfl⟩ := mi_goto_inv h
        exact lv_tableIn hx hb hd (fun q => hc (Or.inl q)) (fun q => hc (Or.inr q)) ho ht (kk _ _ _ hl hn hr)
      next => cases h
  next => cases h
theorem mi_lku_ok (hx : p.tables.exec = Jvm.exec) (hb : c.code = cc) {d : Int} {ps : Array (Int × Int)} {len : Nat} (hd : decode cc pc = .ok (.lookupswitch d ps, len)) (h : mi_lku d ps pc la st = some (pc', la', st')) (hl : lv_has ls nL lv) (hn : mi_rn ad cn la lv) (hs : mi_rl ad cn st sw) (kk : mi_K p l e R s m args below meth c H locs cells slots Q nL pc' la' st' ad cn) : W p l e R s m args below meth c H locs cells slots Q (F0 m pc ls sw) := by
  unfold mi_lku at h
  split at h
  next x r =>
    obtain ⟨w, rfl, hr⟩ := mi_rl_i hs
    split at h
    next hc =>
      obtain ⟨ht, rfl, rfl⟩ := mi_goto_inv h
      exact lv_lookup hx hb hd hc rfl ht (kk _ _ _ hl hn hr)
    next => cases h
  next => cases h
theorem mi_nul_ok (hx : p.tables.exec = Jvm.exec) (hb : c.code = cc) {off : Int} {isn : Bool} (hd : decode cc pc = .ok (if isn then .ifnull off else .ifnonnull off, 3)) (h : mi_nul isn pc off la st = some (pc', la', st')) (hl : lv_has ls nL lv) (hn : mi_rn ad cn la lv) (hs : mi_rl ad cn st sw) (kk : mi_K p l e R s m args below meth c H locs cells slots Q nL pc' la' st' ad cn) : W p l e R s m args below meth c H locs cells slots Q (F0 m pc ls sw) := by
  unfold mi_nul at h
  cases isn <;> simp only [if_true, if_false, Bool.false_eq_true] at h hd
  all_goals split at h
  all_goals first | (cases h; done) | skip
  · obtain ⟨w, ws', rfl, hw, hr⟩ := hs
    cases hw
    cases h
    exact lv_ifnonnullN hx hb hd (kk _ _ _ hl hn hr)
  · obtain ⟨w, ws', rfl, ⟨a, -, hw⟩, hr⟩ := hs
    cases hw
    obtain ⟨ht, rfl, rfl⟩ := mi_goto_inv h
    exact lv_ifnonnull hx hb hd ht (kk _ _ _ hl hn hr)
  · obtain ⟨w, ws', rfl, hw, hr⟩ := hs
    cases hw
    obtain ⟨ht, rfl, rfl⟩ := mi_goto_inv h
    exact lv_ifnonnull hx hb hd ht (kk _ _ _ hl hn hr)
  · obtain ⟨w, ws', rfl, hw, hr⟩ := hs
    cases hw
    obtain ⟨ht, rfl, rfl⟩ := mi_goto_inv h
    exact lv_ifnullN hx hb hd ht (kk _ _ _ hl hn hr)
  · obtain ⟨w, ws', rfl, ⟨a, -, hw⟩, hr⟩ := hs
    cases hw
    cases h
    exact lv_ifnull hx hb hd (kk _ _ _ hl hn hr)
  · obtain ⟨w, ws', rfl, hw, hr⟩ := hs
    cases hw
    cases h
    exact lv_ifnull hx hb hd (kk _ _ _ hl hn hr)

theorem mi_iload_ok (hx : p.tables.exec = Jvm.exec) (hb : c.code = cc) {k : Nat} (hd : decode cc pc = .ok (.iload k, 2)) (h : mi_ld mi_isI k (pc + 2) la st = some (pc', la', st')) (hl : lv_has ls nL lv) (hn : mi_rn ad cn la lv) (hs : mi_rl ad cn st sw) (kk : mi_K p l e R s m args below meth c H locs cells slots Q nL pc' la' st' ad cn) : W p l e R s m args below meth c H locs cells slots Q (F0 m pc ls sw) := by
  obtain ⟨v, hv, ho, rfl, rfl, rfl⟩ := mi_ld_inv h
  obtain ⟨k9, w9, h1, h2⟩ := mi_look_r hv hn
  cases v <;> simp only [mi_isI, Bool.false_eq_true] at ho
  have h2' : w9 = _ := h2
  subst h2'
  exact lv_iload hx hb hd (lv_at hl k9 h1) (kk _ _ _ hl hn (mi_rl_c rfl hs))
theorem mi_iload_n_ok (hx : p.tables.exec = Jvm.exec) (hb : c.code = cc) {k : Fin 4} (hd : decode cc pc = .ok (.iload_n k, 1)) (h : mi_ld mi_isI k (pc + 1) la st = some (pc', la', st')) (hl : lv_has ls nL lv) (hn : mi_rn ad cn la lv) (hs : mi_rl ad cn st sw) (kk : mi_K p l e R s m args below meth c H locs cells slots Q nL pc' la' st' ad cn) : W p l e R s m args below meth c H locs cells slots Q (F0 m pc ls sw) := by
  obtain ⟨v, hv, ho, rfl, rfl, rfl⟩ := mi_ld_inv h
  obtain ⟨k9, w9, h1, h2⟩ := mi_look_r hv hn
  cases v <;> simp only [mi_isI, Bool.false_eq_true] at ho
  have h2' : w9 = _ := h2
  subst h2'
  exact lv_iload_n hx hb hd rfl (lv_at hl k9 h1) (kk _ _ _ hl hn (mi_rl_c rfl hs))
theorem mi_lload_ok (hx : p.tables.exec = Jvm.exec) (hb : c.code = cc) {k : Nat} (hd : decode cc pc = .ok (.lload k, 2)) (h : mi_ld mi_isL k (pc + 2) la st = some (pc', la', st')) (hl : lv_has ls nL lv) (hn : mi_rn ad cn la lv) (hs : mi_rl ad cn st sw) (kk : mi_K p l e R s m args below meth c H locs cells slots Q nL pc' la' st' ad cn) : W p l e R s m args below meth c H locs cells slots Q (F0 m pc ls sw) := by
  obtain ⟨v, hv, ho, rfl, rfl, rfl⟩ := mi_ld_inv h
  obtain ⟨k9, w9, h1, h2⟩ := mi_look_r hv hn
  cases v <;> simp only [mi_isL, Bool.false_eq_true] at ho
  have h2' : w9 = _ := h2
  subst h2'
  exact lv_lload hx hb hd (lv_at hl k9 h1) (kk _ _ _ hl hn (mi_rl_c rfl hs))
theorem mi_lload_n_ok (hx : p.tables.exec = Jvm.exec) (hb : c.code = cc) {k : Fin 4} (hd : decode cc pc = .ok (.lload_n k, 1)) (h : mi_ld mi_isL k (pc + 1) la st = some (pc', la', st')) (hl : lv_has ls nL lv) (hn : mi_rn ad cn la lv) (hs : mi_rl ad cn st sw) (kk : mi_K p l e R s m args below meth c H locs cells slots Q nL pc' la' st' ad cn) : W p l e R s m args below meth c H locs cells slots Q (F0 m pc ls sw) := by
  obtain ⟨v, hv, ho, rfl, rfl, rfl⟩ := mi_ld_inv h
  obtain ⟨k9, w9, h1, h2⟩ := mi_look_r hv hn
  cases v <;> simp only [mi_isL, Bool.false_eq_true] at ho
  have h2' : w9 = _ := h2
  subst h2'
  exact lv_lload_n hx hb hd rfl (lv_at hl k9 h1) (kk _ _ _ hl hn (mi_rl_c rfl hs))
theorem mi_dload_ok (hx : p.tables.exec = Jvm.exec) (hb : c.code = cc) {k : Nat} (hd : decode cc pc = .ok (.dload k, 2)) (h : mi_ld mi_isD k (pc + 2) la st = some (pc', la', st')) (hl : lv_has ls nL lv) (hn : mi_rn ad cn la lv) (hs : mi_rl ad cn st sw) (kk : mi_K p l e R s m args below meth c H locs cells slots Q nL pc' la' st' ad cn) : W p l e R s m args below meth c H locs cells slots Q (F0 m pc ls sw) := by
  obtain ⟨v, hv, ho, rfl, rfl, rfl⟩ := mi_ld_inv h
  obtain ⟨k9, w9, h1, h2⟩ := mi_look_r hv hn
  cases v <;> simp only [mi_isD, Bool.false_eq_true] at ho
  have h2' : w9 = _ := h2
  subst h2'
  exact lv_dload hx hb hd (lv_at hl k9 h1) (kk _ _ _ hl hn (mi_rl_c rfl hs))
theorem mi_dload_n_ok (hx : p.tables.exec = Jvm.exec) (hb : c.code = cc) {k : Fin 4} (hd : decode cc pc = .ok (.dload_n k, 1)) (h : mi_ld mi_isD k (pc + 1) la st = some (pc', la', st')) (hl : lv_has ls nL lv) (hn : mi_rn ad cn la lv) (hs : mi_rl ad cn st sw) (kk : mi_K p l e R s m args below meth c H locs cells slots Q nL pc' la' st' ad cn) : W p l e R s m args below meth c H locs cells slots Q (F0 m pc ls sw) := by
  obtain ⟨v, hv, ho, rfl, rfl, rfl⟩ := mi_ld_inv h
  obtain ⟨k9, w9, h1, h2⟩ := mi_look_r hv hn
  cases v <;> simp only [mi_isD, Bool.false_eq_true] at ho
  have h2' : w9 = _ := h2
  subst h2'
  exact lv_dload_n hx hb hd rfl (lv_at hl k9 h1) (kk _ _ _ hl hn (mi_rl_c rfl hs))
theorem mi_aload_ok (hx : p.tables.exec = Jvm.exec) (hb : c.code = cc) {k : Nat} (hd : decode cc pc = .ok (.aload k, 2)) (h : mi_ld mi_isA k (pc + 2) la st = some (pc', la', st')) (hl : lv_has ls nL lv) (hn : mi_rn ad cn la lv) (hs : mi_rl ad cn st sw) (kk : mi_K p l e R s m args below meth c H locs cells slots Q nL pc' la' st' ad cn) : W p l e R s m args below meth c H locs cells slots Q (F0 m pc ls sw) := by
  obtain ⟨v, hv, ho, rfl, rfl, rfl⟩ := mi_ld_inv h
  obtain ⟨k9, w9, h1, h2⟩ := mi_look_r hv hn
  rcases mi_rv_A h2 ho with rfl | ⟨a, rfl⟩
  · exact lv_aloadN hx hb hd (lv_at hl k9 h1) (kk _ _ _ hl hn (mi_rl_c h2 hs))
  · exact lv_aload hx hb hd (lv_at hl k9 h1) (kk _ _ _ hl hn (mi_rl_c h2 hs))
theorem mi_aload_n_ok (hx : p.tables.exec = Jvm.exec) (hb : c.code = cc) {k : Fin 4} (hd : decode cc pc = .ok (.aload_n k, 1)) (h : mi_ld mi_isA k (pc + 1) la st = some (pc', la', st')) (hl : lv_has ls nL lv) (hn : mi_rn ad cn la lv) (hs : mi_rl ad cn st sw) (kk : mi_K p l e R s m args below meth c H locs cells slots Q nL pc' la' st' ad cn) : W p l e R s m args below meth c H locs cells slots Q (F0 m pc ls sw) := by
  obtain ⟨v, hv, ho, rfl, rfl, rfl⟩ := mi_ld_inv h
  obtain ⟨k9, w9, h1, h2⟩ := mi_look_r hv hn
  rcases mi_rv_A h2 ho with rfl | ⟨a, rfl⟩
  · exact lv_aload_nN hx hb hd rfl (lv_at hl k9 h1) (kk _ _ _ hl hn (mi_rl_c h2 hs))
  · exact lv_aload_n hx hb hd rfl (lv_at hl k9 h1) (kk _ _ _ hl hn (mi_rl_c h2 hs))
theorem mi_istore_ok (hx : p.tables.exec = Jvm.exec) (hb : c.code = cc) {k : Nat} (hd : decode cc pc = .ok (.istore k, 2)) (h : mi_st mi_isI nL k (pc + 2) la st = some (pc', la', st')) (hl : lv_has ls nL lv) (hn : mi_rn ad cn la lv) (hs : mi_rl ad cn st sw) (kk : mi_K p l e R s m args below meth c H locs cells slots Q nL pc' la' st' ad cn) : W p l e R s m args below meth c H locs cells slots Q (F0 m pc ls sw) := by
  obtain ⟨v, r, rfl, ho, hk, rfl, rfl, rfl⟩ := mi_st_inv h
  obtain ⟨w9, ws', rfl, hw, hr⟩ := hs
  cases v <;> simp only [mi_isI, Bool.false_eq_true] at ho
  have h2' : w9 = _ := hw
  subst h2'
  exact lv_istore hx hb hd hl hk rfl (fun ls' h' => kk _ _ _ h' (mi_s1_r hn rfl) hr)
theorem mi_istore_n_ok (hx : p.tables.exec = Jvm.exec) (hb : c.code = cc) {k : Fin 4} (hd : decode cc pc = .ok (.istore_n k, 1)) (h : mi_st mi_isI nL k (pc + 1) la st = some (pc', la', st')) (hl : lv_has ls nL lv) (hn : mi_rn ad cn la lv) (hs : mi_rl ad cn st sw) (kk : mi_K p l e R s m args below meth c H locs cells slots Q nL pc' la' st' ad cn) : W p l e R s m args below meth c H locs cells slots Q (F0 m pc ls sw) := by
  obtain ⟨v, r, rfl, ho, hk, rfl, rfl, rfl⟩ := mi_st_inv h
  obtain ⟨w9, ws', rfl, hw, hr⟩ := hs
  cases v <;> simp only [mi_isI, Bool.false_eq_true] at ho
  have h2' : w9 = _ := hw
  subst h2'
  exact lv_istore_n hx hb hd rfl hl hk rfl (fun ls' h' => kk _ _ _ h' (mi_s1_r hn rfl) hr)
theorem mi_lstore_ok (hx : p.tables.exec = Jvm.exec) (hb : c.code = cc) {k : Nat} (hd : decode cc pc = .ok (.lstore k, 2)) (h : mi_st2 mi_isL nL k (pc + 2) la st = some (pc', la', st')) (hl : lv_has ls nL lv) (hn : mi_rn ad cn la lv) (hs : mi_rl ad cn st sw) (kk : mi_K p l e R s m args below meth c H locs cells slots Q nL pc' la' st' ad cn) : W p l e R s m args below meth c H locs cells slots Q (F0 m pc ls sw) := by
  obtain ⟨v, r, rfl, ho, hk, rfl, rfl, rfl⟩ := mi_st2_inv h
  obtain ⟨w9, ws', rfl, hw, hr⟩ := hs
  cases v <;> simp only [mi_isL, Bool.false_eq_true] at ho
  have h2' : w9 = _ := hw
  subst h2'
  exact lv_lstore hx hb hd hl hk rfl (fun ls' h' => kk _ _ _ h' (mi_s2_r hn rfl) hr)
theorem mi_lstore_n_ok (hx : p.tables.exec = Jvm.exec) (hb : c.code = cc) {k : Fin 4} (hd : decode cc pc = .ok (.lstore_n k, 1)) (h : mi_st2 mi_isL nL k (pc + 1) la st = some (pc', la', st')) (hl : lv_has ls nL lv) (hn : mi_rn ad cn la lv) (hs : mi_rl ad cn st sw) (kk : mi_K p l e R s m args below meth c H locs cells slots Q nL pc' la' st' ad cn) : W p l e R s m args below meth c H locs cells slots Q (F0 m pc ls sw) := by
  obtain ⟨v, r, rfl, ho, hk, rfl, rfl, rfl⟩ := mi_st2_inv h
  obtain ⟨w9, ws', rfl, hw, hr⟩ := hs
  cases v <;> simp only [mi_isL, Bool.false_eq_true] at ho
  have h2' : w9 = _ := hw
  subst h2'
  exact lv_lstore_n hx hb hd rfl hl hk rfl (fun ls' h' => kk _ _ _ h' (mi_s2_r hn rfl) hr)
theorem mi_dstore_ok (hx : p.tables.exec = Jvm.exec) (hb : c.code = cc) {k : Nat} (hd : decode cc pc = .ok (.dstore k, 2)) (h : mi_st2 mi_isD nL k (pc + 2) la st = some (pc', la', st')) (hl : lv_has ls nL lv) (hn : mi_rn ad cn la lv) (hs : mi_rl ad cn st sw) (kk : mi_K p l e R s m args below meth c H locs cells slots Q nL pc' la' st' ad cn) : W p l e R s m args below meth c H locs cells slots Q (F0 m pc ls sw) := by
  obtain ⟨v, r, rfl, ho, hk, rfl, rfl, rfl⟩ := mi_st2_inv h
  obtain ⟨w9, ws', rfl, hw, hr⟩ := hs
  cases v <;> simp only [mi_isD, Bool.false_eq_true] at ho
  have h2' : w9 = _ := hw
  subst h2'
  exact lv_dstore hx hb hd hl hk rfl (fun ls' h' => kk _ _ _ h' (mi_s2_r hn rfl) hr)
theorem mi_dstore_n_ok (hx : p.tables.exec = Jvm.exec) (hb : c.code = cc) {k : Fin 4} (hd : decode cc pc = .ok (.dstore_n k, 1)) (h : mi_st2 mi_isD nL k (pc + 1) la st = some (pc', la', st')) (hl : lv_has ls nL lv) (hn : mi_rn ad cn la lv) (hs : mi_rl ad cn st sw) (kk : mi_K p l e R s m args below meth c H locs cells slots Q nL pc' la' st' ad cn) : W p l e R s m args below meth c H locs cells slots Q (F0 m pc ls sw) := by
  obtain ⟨v, r, rfl, ho, hk, rfl, rfl, rfl⟩ := mi_st2_inv h
  obtain ⟨w9, ws', rfl, hw, hr⟩ := hs
  cases v <;> simp only [mi_isD, Bool.false_eq_true] at ho
  have h2' : w9 = _ := hw
  subst h2'
  exact lv_dstore_n hx hb hd rfl hl hk rfl (fun ls' h' => kk _ _ _ h' (mi_s2_r hn rfl) hr)
theorem mi_astore_ok (hx : p.tables.exec = Jvm.exec) (hb : c.code = cc) {k : Nat} (hd : decode cc pc = .ok (.astore k, 2)) (h : mi_st mi_isA nL k (pc + 2) la st = some (pc', la', st')) (hl : lv_has ls nL lv) (hn : mi_rn ad cn la lv) (hs : mi_rl ad cn st sw) (kk : mi_K p l e R s m args below meth c H locs cells slots Q nL pc' la' st' ad cn) : W p l e R s m args below meth c H locs cells slots Q (F0 m pc ls sw) := by
  obtain ⟨v, r, rfl, ho, hk, rfl, rfl, rfl⟩ := mi_st_inv h
  obtain ⟨w9, ws', rfl, hw, hr⟩ := hs
  rcases mi_rv_A hw ho with rfl | ⟨a, rfl⟩
  · exact lv_astoreN hx hb hd hl hk rfl (fun ls' h' => kk _ _ _ h' (mi_s1_r hn hw) hr)
  · exact lv_astore hx hb hd hl hk rfl (fun ls' h' => kk _ _ _ h' (mi_s1_r hn hw) hr)
theorem mi_astore_n_ok (hx : p.tables.exec = Jvm.exec) (hb : c.code = cc) {k : Fin 4} (hd : decode cc pc = .ok (.astore_n k, 1)) (h : mi_st mi_isA nL k (pc + 1) la st = some (pc', la', st')) (hl : lv_has ls nL lv) (hn : mi_rn ad cn la lv) (hs : mi_rl ad cn st sw) (kk : mi_K p l e R s m args below meth c H locs cells slots Q nL pc' la' st' ad cn) : W p l e R s m args below meth c H locs cells slots Q (F0 m pc ls sw) := by
  obtain ⟨v, r, rfl, ho, hk, rfl, rfl, rfl⟩ := mi_st_inv h
  obtain ⟨w9, ws', rfl, hw, hr⟩ := hs
  rcases mi_rv_A hw ho with rfl | ⟨a, rfl⟩
  · exact lv_astore_nN hx hb hd rfl hl hk rfl (fun ls' h' => kk _ _ _ h' (mi_s1_r hn hw) hr)
  · exact lv_astore_n hx hb hd rfl hl hk rfl (fun ls' h' => kk _ _ _ h' (mi_s1_r hn hw) hr)
theorem mi_iinc_ok (hx : p.tables.exec = Jvm.exec) (hb : c.code = cc) {k : Nat} {n : Int} (hd : decode cc pc = .ok (.iinc k n, 3)) (h : mi_iinc nL k n (pc + 3) la st = some (pc', la', st')) (hl : lv_has ls nL lv) (hn : mi_rn ad cn la lv) (hs : mi_rl ad cn st sw) (kk : mi_K p l e R s m args below meth c H locs cells slots Q nL pc' la' st' ad cn) : W p l e R s m args below meth c H locs cells slots Q (F0 m pc ls sw) := by
  unfold mi_iinc at h
  split at h
  next x hv =>
    obtain ⟨k9, w9, h1, h2⟩ := mi_look_r hv hn
    have h2' : w9 = _ := h2
    subst h2'
    split at h
    next hk =>
      cases h
      exact lv_iinc hx hb hd hl h1 rfl hk rfl (fun ls' h' => kk _ _ _ h' (mi_s1_r hn rfl) hs)
    next => cases h
  next => cases h
theorem mi_dup_ok (hx : p.tables.exec = Jvm.exec) (hb : c.code = cc) (hd : decode cc pc = .ok (.dup, 1)) (h : mi_dup (pc + 1) la st = some (pc', la', st')) (hl : lv_has ls nL lv) (hn : mi_rn ad cn la lv) (hs : mi_rl ad cn st sw) (kk : mi_K p l e R s m args below meth c H locs cells slots Q nL pc' la' st' ad cn) : W p l e R s m args below meth c H locs cells slots Q (F0 m pc ls sw) := by
  unfold mi_dup at h
  split at h
  next v r =>
    split at h
    next hc =>
      cases h
      obtain ⟨w9, ws', rfl, hw, hr⟩ := hs
      exact lv_dup hx hb hd ((mi_rv_cat hw).trans hc) (kk _ _ _ hl hn (mi_rl_c hw (mi_rl_c hw hr)))
    next => cases h
  next => cases h
theorem mi_pop_ok (hx : p.tables.exec = Jvm.exec) (hb : c.code = cc) (hd : decode cc pc = .ok (.pop, 1)) (h : mi_pop (pc + 1) la st = some (pc', la', st')) (hl : lv_has ls nL lv) (hn : mi_rn ad cn la lv) (hs : mi_rl ad cn st sw) (kk : mi_K p l e R s m args below meth c H locs cells slots Q nL pc' la' st' ad cn) : W p l e R s m args below meth c H locs cells slots Q (F0 m pc ls sw) := by
  unfold mi_pop at h
  split at h
  next v r =>
    split at h
    next hc =>
      cases h
      obtain ⟨w9, ws', rfl, hw, hr⟩ := hs
      exact lv_pop hx hb hd ((mi_rv_cat hw).trans hc) (kk _ _ _ hl hn hr)
    next => cases h
  next => cases h
theorem mi_pop2_ok (hx : p.tables.exec = Jvm.exec) (hb : c.code = cc) (hd : decode cc pc = .ok (.pop2, 1)) (h : mi_pop2 (pc + 1) la st = some (pc', la', st')) (hl : lv_has ls nL lv) (hn : mi_rn ad cn la lv) (hs : mi_rl ad cn st sw) (kk : mi_K p l e R s m args below meth c H locs cells slots Q nL pc' la' st' ad cn) : W p l e R s m args below meth c H locs cells slots Q (F0 m pc ls sw) := by
  unfold mi_pop2 at h
  split at h
  next v r =>
    split at h
    next hc =>
      cases h
      obtain ⟨w9, ws', rfl, hw, hr⟩ := hs
      exact lv_pop2_2 hx hb hd ((mi_rv_cat hw).trans hc) (kk _ _ _ hl hn hr)
    next => cases h
  next => cases h
theorem mi_dupx1_ok (hx : p.tables.exec = Jvm.exec) (hb : c.code = cc) (hd : decode cc pc = .ok (.dup_x1, 1)) (h : mi_dupx1 (pc + 1) la st = some (pc', la', st')) (hl : lv_has ls nL lv) (hn : mi_rn ad cn la lv) (hs : mi_rl ad cn st sw) (kk : mi_K p l e R s m args below meth c H locs cells slots Q nL pc' la' st' ad cn) : W p l e R s m args below meth c H locs cells slots Q (F0 m pc ls sw) := by
  unfold mi_dupx1 at h
  split at h
  next v w r =>
    split at h
    next hc =>
      cases h
      obtain ⟨w9, ws', rfl, hw, w8, ws8, rfl, hw8, hr⟩ := hs
      exact lv_dup_x1 hx hb hd ((mi_rv_cat hw).trans hc.1) ((mi_rv_cat hw8).trans hc.2) (kk _ _ _ hl hn (mi_rl_c hw (mi_rl_c hw8 (mi_rl_c hw hr))))
    next => cases h
  next => cases h
theorem mi_dup2_ok (hx : p.tables.exec = Jvm.exec) (hb : c.code = cc) (hd : decode cc pc = .ok (.dup2, 1)) (h : mi_dup2 (pc + 1) la st = some (pc', la', st')) (hl : lv_has ls nL lv) (hn : mi_rn ad cn la lv) (hs : mi_rl ad cn st sw) (kk : mi_K p l e R s m args below meth c H locs cells slots Q nL pc' la' st' ad cn) : W p l e R s m args below meth c H locs cells slots Q (F0 m pc ls sw) := by
  unfold mi_dup2 at h
  split at h
  next v r =>
    split at h
    next hc =>
      cases h
      obtain ⟨w9, ws', rfl, hw, hr⟩ := hs
      exact lv_dup2_2 hx hb hd ((mi_rv_cat hw).trans hc) (kk _ _ _ hl hn (mi_rl_c hw (mi_rl_c hw hr)))
    next =>
      split at h
      next w r' =>
        split at h
        next hc =>
          cases h
          obtain ⟨w9, ws', rfl, hw, w8, ws8, rfl, hw8, hr⟩ := hs
          exact lv_dup2_11 hx hb hd ((mi_rv_cat hw).trans hc.1) ((mi_rv_cat hw8).trans hc.2) (kk _ _ _ hl hn (mi_rl_c hw (mi_rl_c hw8 (mi_rl_c hw (mi_rl_c hw8 hr)))))
        next => cases h
      next => cases h
  next => cases h
theorem mi_if_ok (hx : p.tables.exec = Jvm.exec) (hb : c.code = cc) {k : ClassFile.Cond} {off : Int} (hd : decode cc pc = .ok (.ifCond k off, 3)) (h : mi_c1 (fun x => mi_cc k x 0) pc off la st = some (pc', la', st')) (hl : lv_has ls nL lv) (hn : mi_rn ad cn la lv) (hs : mi_rl ad cn st sw) (kk : mi_K p l e R s m args below meth c H locs cells slots Q nL pc' la' st' ad cn) : W p l e R s m args below meth c H locs cells slots Q (F0 m pc ls sw) := by
  obtain ⟨x, r, t, rfl, rfl, rfl, ht, rfl⟩ := mi_c1_inv h
  obtain ⟨w, rfl, hr⟩ := mi_rl_i hs
  have go := kk _ _ _ hl hn hr
  cases k
  · refine lv_if_eq hx hb hd ht (fun q => ?_) (fun q => ?_)
    · simpa [mi_cc, q] using go
    · simpa [mi_cc, q] using go
  · refine lv_if_ne hx hb hd ht (fun q => ?_) (fun q => ?_)
    · simpa [mi_cc, q] using go
    · simpa [mi_cc, q] using go
  · refine lv_if_lt hx hb hd ht (fun q => ?_) (fun q => ?_)
    · simpa [mi_cc, q] using go
    · simpa [mi_cc, q] using go
  · refine lv_if_ge hx hb hd ht (fun q => ?_) (fun q => ?_)
    · simpa [mi_cc, q] using go
    · simpa [mi_cc, q] using go
  · refine lv_if_gt hx hb hd ht (fun q => ?_) (fun q => ?_)
    · simpa [mi_cc, q] using go
    · simpa [mi_cc, q] using go
  · refine lv_if_le hx hb hd ht (fun q => ?_) (fun q => ?_)
    · simpa [mi_cc, q] using go
    · simpa [mi_cc, q] using go
theorem mi_icmp_ok (hx : p.tables.exec = Jvm.exec) (hb : c.code = cc) {k : ClassFile.Cond} {off : Int} (hd : decode cc pc = .ok (.if_icmp k off, 3)) (h : mi_c2 (fun x y => mi_cc k x y) pc off la st = some (pc', la', st')) (hl : lv_has ls nL lv) (hn : mi_rn ad cn la lv) (hs : mi_rl ad cn st sw) (kk : mi_K p l e R s m args below meth c H locs cells slots Q nL pc' la' st' ad cn) : W p l e R s m args below meth c H locs cells slots Q (F0 m pc ls sw) := by
  obtain ⟨x, y, r, t, rfl, rfl, rfl, ht, rfl⟩ := mi_c2_inv h
  obtain ⟨w, rfl, hr⟩ := mi_rl_ii hs
  have go := kk _ _ _ hl hn hr
  cases k
  · refine lv_icmp_eq hx hb hd ht (fun q => ?_) (fun q => ?_)
    · simpa [mi_cc, q] using go
    · simpa [mi_cc, q] using go
  · refine lv_icmp_ne hx hb hd ht (fun q => ?_) (fun q => ?_)
    · simpa [mi_cc, q] using go
    · simpa [mi_cc, q] using go
  · refine lv_icmp_lt hx hb hd ht (fun q => ?_) (fun q => ?_)
    · simpa [mi_cc, q] using go
    · simpa [mi_cc, q] using go
  · refine lv_icmp_ge hx hb hd ht (fun q => ?_) (fun q => ?_)
    · simpa [mi_cc, q] using go
    · simpa [mi_cc, q] using go
  · refine lv_icmp_gt hx hb hd ht (fun q => ?_) (fun q => ?_)
    · simpa [mi_cc, q] using go
    · simpa [mi_cc, q] using go
  · refine lv_icmp_le hx hb hd ht (fun q => ?_) (fun q => ?_)
    · simpa [mi_cc, q] using go
    · simpa [mi_cc, q] using go
set_option maxHeartbeats 4000000 in
theorem mi_pu_ok (hx : p.tables.exec = Jvm.exec) (hb : c.code = cc) {i : Instr} (hd : decode cc pc = .ok (i, mi_len i)) (h : mi_pu nL i pc la st = some (pc', la', st')) (hl : lv_has ls nL lv) (hn : mi_rn ad cn la lv) (hs : mi_rl ad cn st sw) (kk : mi_K p l e R s m args below meth c H locs cells slots Q nL pc' la' st' ad cn) : W p l e R s m args below meth c H locs cells slots Q (F0 m pc ls sw) := by
  cases i
  case aconst_null => cases h; exact lv_null hx hb hd (kk _ _ _ hl hn (mi_rl_c rfl hs))
  case iconst => cases h; exact lv_iconst hx hb hd rfl (kk _ _ _ hl hn (mi_rl_c rfl hs))
  case bipush => cases h; exact lv_bipush hx hb hd rfl (kk _ _ _ hl hn (mi_rl_c rfl hs))
  case sipush => cases h; exact lv_sipush hx hb hd rfl (kk _ _ _ hl hn (mi_rl_c rfl hs))
  case lconst => cases h; exact lv_lconst hx hb hd rfl (kk _ _ _ hl hn (mi_rl_c rfl hs))
  case dconst n =>
    match n, hd, h with
    | 0, hd, h => cases h; exact lv_dconst0 hx hb hd (kk _ _ _ hl hn (mi_rl_c rfl hs))
    | 1, hd, h => cases h; exact lv_dconst1 hx hb hd (kk _ _ _ hl hn (mi_rl_c rfl hs))
  case iload => exact mi_iload_ok hx hb hd h hl hn hs kk
  case iload_n => exact mi_iload_n_ok hx hb hd h hl hn hs kk
  case lload => exact mi_lload_ok hx hb hd h hl hn hs kk
  case lload_n => exact mi_lload_n_ok hx hb hd h hl hn hs kk
  case dload => exact mi_dload_ok hx hb hd h hl hn hs kk
  case dload_n => exact mi_dload_n_ok hx hb hd h hl hn hs kk
  case aload => exact mi_aload_ok hx hb hd h hl hn hs kk
  case aload_n => exact mi_aload_n_ok hx hb hd h hl hn hs kk
  case istore => exact mi_istore_ok hx hb hd h hl hn hs kk
  case istore_n => exact mi_istore_n_ok hx hb hd h hl hn hs kk
  case lstore => exact mi_lstore_ok hx hb hd h hl hn hs kk
  case lstore_n => exact mi_lstore_n_ok hx hb hd h hl hn hs kk
  case dstore => exact mi_dstore_ok hx hb hd h hl hn hs kk
  case dstore_n => exact mi_dstore_n_ok hx hb hd h hl hn hs kk
  case astore => exact mi_astore_ok hx hb hd h hl hn hs kk
  case astore_n => exact mi_astore_n_ok hx hb hd h hl hn hs kk
  case iinc => exact mi_iinc_ok hx hb hd h hl hn hs kk
  case iadd => dsimp only [mi_pu] at h; obtain ⟨x, y, v, r, rfl, hv, rfl, rfl, rfl⟩ := mi_ii_inv h; obtain ⟨w, rfl, hr⟩ := mi_rl_ii hs; cases hv; exact lv_iadd hx hb hd (kk _ _ _ hl hn (mi_rl_c rfl hr))
  case isub => dsimp only [mi_pu] at h; obtain ⟨x, y, v, r, rfl, hv, rfl, rfl, rfl⟩ := mi_ii_inv h; obtain ⟨w, rfl, hr⟩ := mi_rl_ii hs; cases hv; exact lv_isub hx hb hd (kk _ _ _ hl hn (mi_rl_c rfl hr))
  case imul => dsimp only [mi_pu] at h; obtain ⟨x, y, v, r, rfl, hv, rfl, rfl, rfl⟩ := mi_ii_inv h; obtain ⟨w, rfl, hr⟩ := mi_rl_ii hs; cases hv; exact lv_imul hx hb hd (kk _ _ _ hl hn (mi_rl_c rfl hr))
  case iand => dsimp only [mi_pu] at h; obtain ⟨x, y, v, r, rfl, hv, rfl, rfl, rfl⟩ := mi_ii_inv h; obtain ⟨w, rfl, hr⟩ := mi_rl_ii hs; cases hv; exact lv_iand hx hb hd (kk _ _ _ hl hn (mi_rl_c rfl hr))
  case ior => dsimp only [mi_pu] at h; obtain ⟨x, y, v, r, rfl, hv, rfl, rfl, rfl⟩ := mi_ii_inv h; obtain ⟨w, rfl, hr⟩ := mi_rl_ii hs; cases hv; exact lv_ior hx hb hd (kk _ _ _ hl hn (mi_rl_c rfl hr))
  case ixor => dsimp only [mi_pu] at h; obtain ⟨x, y, v, r, rfl, hv, rfl, rfl, rfl⟩ := mi_ii_inv h; obtain ⟨w, rfl, hr⟩ := mi_rl_ii hs; cases hv; exact lv_ixor hx hb hd (kk _ _ _ hl hn (mi_rl_c rfl hr))
  case ishl => dsimp only [mi_pu] at h; obtain ⟨x, y, v, r, rfl, hv, rfl, rfl, rfl⟩ := mi_ii_inv h; obtain ⟨w, rfl, hr⟩ := mi_rl_ii hs; cases hv; exact lv_ishl hx hb hd (kk _ _ _ hl hn (mi_rl_c rfl hr))
  case ishr => dsimp only [mi_pu] at h; obtain ⟨x, y, v, r, rfl, hv, rfl, rfl, rfl⟩ := mi_ii_inv h; obtain ⟨w, rfl, hr⟩ := mi_rl_ii hs; cases hv; exact lv_ishr hx hb hd (kk _ _ _ hl hn (mi_rl_c rfl hr))
  case iushr => dsimp only [mi_pu] at h; obtain ⟨x, y, v, r, rfl, hv, rfl, rfl, rfl⟩ := mi_ii_inv h; obtain ⟨w, rfl, hr⟩ := mi_rl_ii hs; cases hv; exact lv_iushr hx hb hd rfl (kk _ _ _ hl hn (mi_rl_c rfl hr))
  case idiv =>
    dsimp only [mi_pu] at h
    obtain ⟨x, y, v, r, rfl, hv, rfl, rfl, rfl⟩ := mi_ii_inv h
    obtain ⟨w, rfl, hr⟩ := mi_rl_ii hs
    by_cases h0 : y = 0
    · simp [h0] at hv
    · simp only [h0, if_false] at hv
      cases hv
      exact lv_idiv hx hb hd h0 (kk _ _ _ hl hn (mi_rl_c rfl hr))
  case irem =>
    dsimp only [mi_pu] at h
    obtain ⟨x, y, v, r, rfl, hv, rfl, rfl, rfl⟩ := mi_ii_inv h
    obtain ⟨w, rfl, hr⟩ := mi_rl_ii hs
    by_cases h0 : y = 0
    · simp [h0] at hv
    · simp only [h0, if_false] at hv
      cases hv
      exact lv_irem hx hb hd h0 (kk _ _ _ hl hn (mi_rl_c rfl hr))
  case ldiv =>
    dsimp only [mi_pu] at h
    obtain ⟨x, y, v, r, rfl, hv, rfl, rfl, rfl⟩ := mi_ll_inv h
    obtain ⟨w, rfl, hr⟩ := mi_rl_ll hs
    by_cases h0 : y = 0
    · simp [h0] at hv
    · simp only [h0, if_false] at hv
      cases hv
      exact lv_ldiv hx hb hd h0 (kk _ _ _ hl hn (mi_rl_c rfl hr))
  case lrem =>
    dsimp only [mi_pu] at h
    obtain ⟨x, y, v, r, rfl, hv, rfl, rfl, rfl⟩ := mi_ll_inv h
    obtain ⟨w, rfl, hr⟩ := mi_rl_ll hs
    by_cases h0 : y = 0
    · simp [h0] at hv
    · simp only [h0, if_false] at hv
      cases hv
      exact lv_lrem hx hb hd h0 (kk _ _ _ hl hn (mi_rl_c rfl hr))
  case ineg => dsimp only [mi_pu] at h; obtain ⟨x, r, rfl, rfl, rfl, rfl⟩ := mi_i1_inv h; obtain ⟨w, rfl, hr⟩ := mi_rl_i hs; exact lv_ineg hx hb hd (kk _ _ _ hl hn (mi_rl_c rfl hr))
  case i2l => dsimp only [mi_pu] at h; obtain ⟨x, r, rfl, rfl, rfl, rfl⟩ := mi_i1_inv h; obtain ⟨w, rfl, hr⟩ := mi_rl_i hs; exact lv_i2l hx hb hd rfl (kk _ _ _ hl hn (mi_rl_c rfl hr))
  case i2b => dsimp only [mi_pu] at h; obtain ⟨x, r, rfl, rfl, rfl, rfl⟩ := mi_i1_inv h; obtain ⟨w, rfl, hr⟩ := mi_rl_i hs; exact lv_i2b hx hb hd rfl (kk _ _ _ hl hn (mi_rl_c rfl hr))
  case i2s => dsimp only [mi_pu] at h; obtain ⟨x, r, rfl, rfl, rfl, rfl⟩ := mi_i1_inv h; obtain ⟨w, rfl, hr⟩ := mi_rl_i hs; exact lv_i2s hx hb hd rfl (kk _ _ _ hl hn (mi_rl_c rfl hr))
  case i2c => dsimp only [mi_pu] at h; obtain ⟨x, r, rfl, rfl, rfl, rfl⟩ := mi_i1_inv h; obtain ⟨w, rfl, hr⟩ := mi_rl_i hs; exact lv_i2c hx hb hd rfl (kk _ _ _ hl hn (mi_rl_c rfl hr))
  case i2d => dsimp only [mi_pu] at h; obtain ⟨x, r, rfl, rfl, rfl, rfl⟩ := mi_i1_inv h; obtain ⟨w, rfl, hr⟩ := mi_rl_i hs; exact lv_i2d hx hb hd (kk _ _ _ hl hn (mi_rl_c rfl hr))
  case l2i => dsimp only [mi_pu] at h; obtain ⟨x, r, rfl, rfl, rfl, rfl⟩ := mi_l1_inv h; obtain ⟨w, rfl, hr⟩ := mi_rl_l hs; exact lv_l2i hx hb hd rfl (kk _ _ _ hl hn (mi_rl_c rfl hr))
  case l2d => dsimp only [mi_pu] at h; obtain ⟨x, r, rfl, rfl, rfl, rfl⟩ := mi_l1_inv h; obtain ⟨w, rfl, hr⟩ := mi_rl_l hs; exact lv_l2d hx hb hd (kk _ _ _ hl hn (mi_rl_c rfl hr))
  case ladd => dsimp only [mi_pu] at h; obtain ⟨x, y, v, r, rfl, hv, rfl, rfl, rfl⟩ := mi_ll_inv h; obtain ⟨w, rfl, hr⟩ := mi_rl_ll hs; cases hv; exact lv_ladd hx hb hd (kk _ _ _ hl hn (mi_rl_c rfl hr))
  case lsub => dsimp only [mi_pu] at h; obtain ⟨x, y, v, r, rfl, hv, rfl, rfl, rfl⟩ := mi_ll_inv h; obtain ⟨w, rfl, hr⟩ := mi_rl_ll hs; cases hv; exact lv_lsub hx hb hd (kk _ _ _ hl hn (mi_rl_c rfl hr))
  case lmul => dsimp only [mi_pu] at h; obtain ⟨x, y, v, r, rfl, hv, rfl, rfl, rfl⟩ := mi_ll_inv h; obtain ⟨w, rfl, hr⟩ := mi_rl_ll hs; cases hv; exact lv_lmul hx hb hd (kk _ _ _ hl hn (mi_rl_c rfl hr))
  case land => dsimp only [mi_pu] at h; obtain ⟨x, y, v, r, rfl, hv, rfl, rfl, rfl⟩ := mi_ll_inv h; obtain ⟨w, rfl, hr⟩ := mi_rl_ll hs; cases hv; exact lv_land hx hb hd (kk _ _ _ hl hn (mi_rl_c rfl hr))
  case lor => dsimp only [mi_pu] at h; obtain ⟨x, y, v, r, rfl, hv, rfl, rfl, rfl⟩ := mi_ll_inv h; obtain ⟨w, rfl, hr⟩ := mi_rl_ll hs; cases hv; exact lv_lor hx hb hd (kk _ _ _ hl hn (mi_rl_c rfl hr))
  case lxor => dsimp only [mi_pu] at h; obtain ⟨x, y, v, r, rfl, hv, rfl, rfl, rfl⟩ := mi_ll_inv h; obtain ⟨w, rfl, hr⟩ := mi_rl_ll hs; cases hv; exact lv_lxor hx hb hd (kk _ _ _ hl hn (mi_rl_c rfl hr))
  case lcmp => dsimp only [mi_pu] at h; obtain ⟨x, y, v, r, rfl, hv, rfl, rfl, rfl⟩ := mi_ll_inv h; obtain ⟨w, rfl, hr⟩ := mi_rl_ll hs; cases hv; exact W.lcmp hx hb hd (kk _ _ _ hl hn (mi_rl_c rfl hr))
  case lshl => dsimp only [mi_pu] at h; obtain ⟨x, y, r, rfl, rfl, rfl, rfl⟩ := mi_li_inv h; obtain ⟨w, rfl, hr⟩ := mi_rl_li hs; exact lv_lshl hx hb hd rfl (kk _ _ _ hl hn (mi_rl_c rfl hr))
  case lshr => dsimp only [mi_pu] at h; obtain ⟨x, y, r, rfl, rfl, rfl, rfl⟩ := mi_li_inv h; obtain ⟨w, rfl, hr⟩ := mi_rl_li hs; exact lv_lshr hx hb hd rfl (kk _ _ _ hl hn (mi_rl_c rfl hr))
  case lushr => dsimp only [mi_pu] at h; obtain ⟨x, y, r, rfl, rfl, rfl, rfl⟩ := mi_li_inv h; obtain ⟨w, rfl, hr⟩ := mi_rl_li hs; exact lv_lushr hx hb hd rfl (kk _ _ _ hl hn (mi_rl_c rfl hr))
  case ddiv =>
    dsimp only [mi_pu] at h
    obtain ⟨x, y, v, r, rfl, hv, rfl, rfl, rfl⟩ := mi_dd_inv h
    obtain ⟨w, rfl, hr⟩ := mi_rl_dd hs
    by_cases h0 : FP.ddiv x y &&& 0x7fffffffffffffff ≤ 0x7ff0000000000000
    · simp only [h0, if_true] at hv
      cases hv
      exact lv_ddiv hx hb hd h0 (kk _ _ _ hl hn (mi_rl_c rfl hr))
    · simp [h0] at hv
  case dcmp => dsimp only [mi_pu] at h; obtain ⟨x, y, v, r, rfl, hv, rfl, rfl, rfl⟩ := mi_dd_inv h; obtain ⟨w, rfl, hr⟩ := mi_rl_dd hs; cases hv; exact lv_dcmp hx hb hd (kk _ _ _ hl hn (mi_rl_c rfl hr))
  case dup => exact mi_dup_ok hx hb hd h hl hn hs kk
  case pop => exact mi_pop_ok hx hb hd h hl hn hs kk
  case pop2 => exact mi_pop2_ok hx hb hd h hl hn hs kk
  case dup_x1 => exact mi_dupx1_ok hx hb hd h hl hn hs kk
  case dup2 => exact mi_dup2_ok hx hb hd h hl hn hs kk
  case ifCond => exact mi_if_ok hx hb hd h hl hn hs kk
  case if_icmp => exact mi_icmp_ok hx hb hd h hl hn hs kk
  case ifnull => exact mi_nul_ok (isn := true) hx hb hd h hl hn hs kk
  case ifnonnull => exact mi_nul_ok (isn := false) hx hb hd h hl hn hs kk
  case goto => exact mi_goto_ok hx hb hd h hl hn hs kk
  all_goals (cases h)
theorem mi_pure_ok (hx : p.tables.exec = Jvm.exec) (hb : c.code = cc) {i : Instr} {len : Nat} (hd : decode cc pc = .ok (i, len)) (h : mi_pure nL len i pc la st = some (pc', la', st')) (hl : lv_has ls nL lv) (hn : mi_rn ad cn la lv) (hs : mi_rl ad cn st sw) (kk : mi_K p l e R s m args below meth c H locs cells slots Q nL pc' la' st' ad cn) : W p l e R s m args below meth c H locs cells slots Q (F0 m pc ls sw) := by
  unfold mi_pure at h
  split at h
  next d lo hi offs => exact mi_tab_ok hx hb hd h hl hn hs kk
  next d ps => exact mi_lku_ok hx hb hd h hl hn hs kk
  next i' =>
    split at h
    next hl2 =>
      subst hl2
      exact mi_pu_ok hx hb hd h hl hn hs kk
    next => cases h
end MIP
end
section
/-! ===== printed by program (wip/gen/gen.py): classes, methods, code, links ===== -/
def RX0 : String := "TypeLoom$Checker"
def TX0 : u_T := fun k => match k with
  | 0 => ("TypeLoom$Checker", "tokens", "LTypeLoom$Tokens;", true)
  | 1 => ("TypeLoom$Checker", "types", "LTypeLoom$Types;", true)
  | 2 => ("TypeLoom$Checker", "known", "LTypeLoom$Known;", true)
  | 3 => ("TypeLoom$Checker", "fault", "LTypeLoom$Fault;", true)
  | 4 => ("TypeLoom$Checker", "forms", "LTypeLoom$Forms;", true)
  | 5 => ("TypeLoom$Checker", "scope", "LTypeLoom$Scope;", true)
  | 6 => ("TypeLoom$Checker", "steps", "LTypeLoom$Steps;", false)
  | 7 => ("TypeLoom$Checker", "own", "I", false)
  | 8 => ("TypeLoom$Checker", "ownKey", "J", false)
  | 9 => ("TypeLoom$Checker", "ownType", "I", false)
  | 10 => ("TypeLoom$Checker", "formType", "I", false)
  | _ => ("TypeLoom$Checker", "formToken", "I", false)
def tyX0 : Nat → FieldType := fun k => match k with
  | 0 => .object "TypeLoom$Tokens"
  | 1 => .object "TypeLoom$Types"
  | 2 => .object "TypeLoom$Known"
  | 3 => .object "TypeLoom$Fault"
  | 4 => .object "TypeLoom$Forms"
  | 5 => .object "TypeLoom$Scope"
  | 6 => .object "TypeLoom$Steps"
  | 7 => .int
  | 8 => .long
  | 9 => .int
  | 10 => .int
  | _ => .int
theorem nmX0 : ∀ a, a < 12 → ∀ b, b < 12 → a ≠ b → (TX0 a).2.1 ≠ (TX0 b).2.1 := by decide +kernel
theorem tyX0_ok : ∀ k, k < 12 → parseFieldDescriptor (TX0 k).2.2.1 = some (tyX0 k) := by decide +kernel
theorem onX0 : ∀ k, k < 12 → (TX0 k).1 = RX0 := by decide +kernel
def RX1 : String := "TypeLoom$Fault"
def TX1 : u_T := fun k => match k with
  | 0 => ("TypeLoom$Fault", "number", "I", false)
  | _ => ("TypeLoom$Fault", "place", "I", false)
def tyX1 : Nat → FieldType := fun k => match k with
  | 0 => .int
  | _ => .int
theorem nmX1 : ∀ a, a < 2 → ∀ b, b < 2 → a ≠ b → (TX1 a).2.1 ≠ (TX1 b).2.1 := by decide +kernel
theorem tyX1_ok : ∀ k, k < 2 → parseFieldDescriptor (TX1 k).2.2.1 = some (tyX1 k) := by decide +kernel
theorem onX1 : ∀ k, k < 2 → (TX1 k).1 = RX1 := by decide +kernel
def RX2 : String := "TypeLoom$Forms"
def TX2 : u_T := fun k => match k with
  | 0 => ("TypeLoom$Forms", "tokens", "LTypeLoom$Tokens;", true)
  | 1 => ("TypeLoom$Forms", "types", "LTypeLoom$Types;", true)
  | 2 => ("TypeLoom$Forms", "known", "LTypeLoom$Known;", true)
  | 3 => ("TypeLoom$Forms", "fault", "LTypeLoom$Fault;", true)
  | 4 => ("TypeLoom$Forms", "markNodes", "[I", true)
  | 5 => ("TypeLoom$Forms", "itemMarks", "[I", true)
  | 6 => ("TypeLoom$Forms", "values", "[I", true)
  | 7 => ("TypeLoom$Forms", "valueCount", "I", false)
  | 8 => ("TypeLoom$Forms", "markCount", "I", false)
  | 9 => ("TypeLoom$Forms", "inItem", "Z", false)
  | _ => ("TypeLoom$Forms", "constructorKey", "J", false)
def tyX2 : Nat → FieldType := fun k => match k with
  | 0 => .object "TypeLoom$Tokens"
  | 1 => .object "TypeLoom$Types"
  | 2 => .object "TypeLoom$Known"
  | 3 => .object "TypeLoom$Fault"
  | 4 => .array .int
  | 5 => .array .int
  | 6 => .array .int
  | 7 => .int
  | 8 => .int
  | 9 => .boolean
  | _ => .long
theorem nmX2 : ∀ a, a < 11 → ∀ b, b < 11 → a ≠ b → (TX2 a).2.1 ≠ (TX2 b).2.1 := by decide +kernel
theorem tyX2_ok : ∀ k, k < 11 → parseFieldDescriptor (TX2 k).2.2.1 = some (tyX2 k) := by decide +kernel
theorem onX2 : ∀ k, k < 11 → (TX2 k).1 = RX2 := by decide +kernel
def RX3 : String := "TypeLoom$Known"
def TX3 : u_T := fun k => match k with
  | 0 => ("TypeLoom$Known", "types", "LTypeLoom$Types;", true)
  | 1 => ("TypeLoom$Known", "typeKeys", "[J", true)
  | 2 => ("TypeLoom$Known", "typeMarks", "[I", true)
  | 3 => ("TypeLoom$Known", "constructorKeys", "[J", true)
  | 4 => ("TypeLoom$Known", "constructorTypes", "[I", true)
  | 5 => ("TypeLoom$Known", "constructorParts", "[I", true)
  | 6 => ("TypeLoom$Known", "definitionKeys", "[J", true)
  | 7 => ("TypeLoom$Known", "definitionTypes", "[I", true)
  | 8 => ("TypeLoom$Known", "used", "[I", true)
  | 9 => ("TypeLoom$Known", "fst", "I", true)
  | 10 => ("TypeLoom$Known", "snd", "I", true)
  | 11 => ("TypeLoom$Known", "bottom", "I", true)
  | 12 => ("TypeLoom$Known", "typeCount", "I", false)
  | 13 => ("TypeLoom$Known", "constructorCount", "I", false)
  | _ => ("TypeLoom$Known", "definitionCount", "I", false)
def tyX3 : Nat → FieldType := fun k => match k with
  | 0 => .object "TypeLoom$Types"
  | 1 => .array .long
  | 2 => .array .int
  | 3 => .array .long
  | 4 => .array .int
  | 5 => .array .int
  | 6 => .array .long
  | 7 => .array .int
  | 8 => .array .int
  | 9 => .int
  | 10 => .int
  | 11 => .int
  | 12 => .int
  | 13 => .int
  | _ => .int
theorem nmX3 : ∀ a, a < 15 → ∀ b, b < 15 → a ≠ b → (TX3 a).2.1 ≠ (TX3 b).2.1 := by decide +kernel
theorem tyX3_ok : ∀ k, k < 15 → parseFieldDescriptor (TX3 k).2.2.1 = some (tyX3 k) := by decide +kernel
theorem onX3 : ∀ k, k < 15 → (TX3 k).1 = RX3 := by decide +kernel
def RX4 : String := "TypeLoom$Parser"
def TX4 : u_T := fun k => match k with
  | 0 => ("TypeLoom$Parser", "tokens", "LTypeLoom$Tokens;", true)
  | 1 => ("TypeLoom$Parser", "fault", "LTypeLoom$Fault;", true)
  | 2 => ("TypeLoom$Parser", "steps", "LTypeLoom$Steps;", false)
  | _ => ("TypeLoom$Parser", "next", "I", false)
def tyX4 : Nat → FieldType := fun k => match k with
  | 0 => .object "TypeLoom$Tokens"
  | 1 => .object "TypeLoom$Fault"
  | 2 => .object "TypeLoom$Steps"
  | _ => .int
theorem nmX4 : ∀ a, a < 4 → ∀ b, b < 4 → a ≠ b → (TX4 a).2.1 ≠ (TX4 b).2.1 := by decide +kernel
theorem tyX4_ok : ∀ k, k < 4 → parseFieldDescriptor (TX4 k).2.2.1 = some (tyX4 k) := by decide +kernel
theorem onX4 : ∀ k, k < 4 → (TX4 k).1 = RX4 := by decide +kernel
def RX5 : String := "TypeLoom$Scope"
def TX5 : u_T := fun k => match k with
  | 0 => ("TypeLoom$Scope", "keys", "[J", true)
  | 1 => ("TypeLoom$Scope", "boundTypes", "[I", true)
  | 2 => ("TypeLoom$Scope", "general", "[Z", true)
  | _ => ("TypeLoom$Scope", "size", "I", false)
def tyX5 : Nat → FieldType := fun k => match k with
  | 0 => .array .long
  | 1 => .array .int
  | 2 => .array .boolean
  | _ => .int
theorem nmX5 : ∀ a, a < 4 → ∀ b, b < 4 → a ≠ b → (TX5 a).2.1 ≠ (TX5 b).2.1 := by decide +kernel
theorem tyX5_ok : ∀ k, k < 4 → parseFieldDescriptor (TX5 k).2.2.1 = some (tyX5 k) := by decide +kernel
theorem onX5 : ∀ k, k < 4 → (TX5 k).1 = RX5 := by decide +kernel
def RX6 : String := "TypeLoom$Steps"
def TX6 : u_T := fun k => match k with
  | 0 => ("TypeLoom$Steps", "kinds", "[I", true)
  | 1 => ("TypeLoom$Steps", "as", "[I", true)
  | 2 => ("TypeLoom$Steps", "bs", "[I", true)
  | 3 => ("TypeLoom$Steps", "cs", "[I", true)
  | 4 => ("TypeLoom$Steps", "firsts", "[I", true)
  | 5 => ("TypeLoom$Steps", "lasts", "[I", true)
  | 6 => ("TypeLoom$Steps", "types", "[I", true)
  | _ => ("TypeLoom$Steps", "size", "I", false)
def tyX6 : Nat → FieldType := fun k => match k with
  | 0 => .array .int
  | 1 => .array .int
  | 2 => .array .int
  | 3 => .array .int
  | 4 => .array .int
  | 5 => .array .int
  | 6 => .array .int
  | _ => .int
theorem nmX6 : ∀ a, a < 8 → ∀ b, b < 8 → a ≠ b → (TX6 a).2.1 ≠ (TX6 b).2.1 := by decide +kernel
theorem tyX6_ok : ∀ k, k < 8 → parseFieldDescriptor (TX6 k).2.2.1 = some (tyX6 k) := by decide +kernel
theorem onX6 : ∀ k, k < 8 → (TX6 k).1 = RX6 := by decide +kernel
def RX7 : String := "TypeLoom$Tokens"
def TX7 : u_T := fun k => match k with
  | 0 => ("TypeLoom$Tokens", "text", "[B", true)
  | 1 => ("TypeLoom$Tokens", "keywords", "[J", true)
  | 2 => ("TypeLoom$Tokens", "kinds", "[I", true)
  | 3 => ("TypeLoom$Tokens", "firsts", "[I", true)
  | 4 => ("TypeLoom$Tokens", "lasts", "[I", true)
  | 5 => ("TypeLoom$Tokens", "keys", "[J", true)
  | 6 => ("TypeLoom$Tokens", "textSize", "I", false)
  | _ => ("TypeLoom$Tokens", "size", "I", false)
def tyX7 : Nat → FieldType := fun k => match k with
  | 0 => .array .byte
  | 1 => .array .long
  | 2 => .array .int
  | 3 => .array .int
  | 4 => .array .int
  | 5 => .array .long
  | 6 => .int
  | _ => .int
theorem nmX7 : ∀ a, a < 8 → ∀ b, b < 8 → a ≠ b → (TX7 a).2.1 ≠ (TX7 b).2.1 := by decide +kernel
theorem tyX7_ok : ∀ k, k < 8 → parseFieldDescriptor (TX7 k).2.2.1 = some (tyX7 k) := by decide +kernel
theorem onX7 : ∀ k, k < 8 → (TX7 k).1 = RX7 := by decide +kernel
def RX8 : String := "TypeLoom$Types"
def TX8 : u_T := fun k => match k with
  | 0 => ("TypeLoom$Types", "tags", "[I", false)
  | 1 => ("TypeLoom$Types", "kids", "[I", false)
  | 2 => ("TypeLoom$Types", "links", "[I", false)
  | 3 => ("TypeLoom$Types", "seen", "[I", false)
  | 4 => ("TypeLoom$Types", "notes", "[I", false)
  | 5 => ("TypeLoom$Types", "order", "[I", false)
  | 6 => ("TypeLoom$Types", "path", "[I", false)
  | 7 => ("TypeLoom$Types", "room", "I", false)
  | 8 => ("TypeLoom$Types", "used", "I", false)
  | 9 => ("TypeLoom$Types", "frozen", "I", false)
  | 10 => ("TypeLoom$Types", "gathered", "I", false)
  | _ => ("TypeLoom$Types", "round", "I", false)
def tyX8 : Nat → FieldType := fun k => match k with
  | 0 => .array .int
  | 1 => .array .int
  | 2 => .array .int
  | 3 => .array .int
  | 4 => .array .int
  | 5 => .array .int
  | 6 => .array .int
  | 7 => .int
  | 8 => .int
  | 9 => .int
  | 10 => .int
  | _ => .int
theorem nmX8 : ∀ a, a < 12 → ∀ b, b < 12 → a ≠ b → (TX8 a).2.1 ≠ (TX8 b).2.1 := by decide +kernel
theorem tyX8_ok : ∀ k, k < 12 → parseFieldDescriptor (TX8 k).2.2.1 = some (tyX8 k) := by decide +kernel
theorem onX8 : ∀ k, k < 12 → (TX8 k).1 = RX8 := by decide +kernel
def RX9 : String := "TypeLoom$Writer"
def TX9 : u_T := fun k => match k with
  | 0 => ("TypeLoom$Writer", "types", "LTypeLoom$Types;", true)
  | 1 => ("TypeLoom$Writer", "known", "LTypeLoom$Known;", true)
  | 2 => ("TypeLoom$Writer", "paper", "[B", true)
  | 3 => ("TypeLoom$Writer", "pending", "[I", true)
  | 4 => ("TypeLoom$Writer", "pendingSize", "I", false)
  | 5 => ("TypeLoom$Writer", "size", "I", false)
  | _ => ("TypeLoom$Writer", "marks", "I", false)
def tyX9 : Nat → FieldType := fun k => match k with
  | 0 => .object "TypeLoom$Types"
  | 1 => .object "TypeLoom$Known"
  | 2 => .array .byte
  | 3 => .array .int
  | 4 => .int
  | 5 => .int
  | _ => .int
theorem nmX9 : ∀ a, a < 7 → ∀ b, b < 7 → a ≠ b → (TX9 a).2.1 ≠ (TX9 b).2.1 := by decide +kernel
theorem tyX9_ok : ∀ k, k < 7 → parseFieldDescriptor (TX9 k).2.2.1 = some (tyX9 k) := by decide +kernel
theorem onX9 : ∀ k, k < 7 → (TX9 k).1 = RX9 := by decide +kernel
def RX10 : String := "TypeLoom"
def TX10 : u_T := fun k => match k with
  | 0 => ("TypeLoom", "tape", "[B", true)
  | 1 => ("TypeLoom", "fault", "LTypeLoom$Fault;", true)
  | 2 => ("TypeLoom", "tokens", "LTypeLoom$Tokens;", true)
  | 3 => ("TypeLoom", "types", "LTypeLoom$Types;", true)
  | 4 => ("TypeLoom", "known", "LTypeLoom$Known;", true)
  | 5 => ("TypeLoom", "program", "LTypeLoom$Steps;", true)
  | 6 => ("TypeLoom", "question", "LTypeLoom$Steps;", true)
  | 7 => ("TypeLoom", "parser", "LTypeLoom$Parser;", true)
  | 8 => ("TypeLoom", "checker", "LTypeLoom$Checker;", true)
  | 9 => ("TypeLoom", "writer", "LTypeLoom$Writer;", true)
  | _ => ("TypeLoom", "tapeSize", "I", false)
def tyX10 : Nat → FieldType := fun k => match k with
  | 0 => .array .byte
  | 1 => .object "TypeLoom$Fault"
  | 2 => .object "TypeLoom$Tokens"
  | 3 => .object "TypeLoom$Types"
  | 4 => .object "TypeLoom$Known"
  | 5 => .object "TypeLoom$Steps"
  | 6 => .object "TypeLoom$Steps"
  | 7 => .object "TypeLoom$Parser"
  | 8 => .object "TypeLoom$Checker"
  | 9 => .object "TypeLoom$Writer"
  | _ => .int
theorem nmX10 : ∀ a, a < 11 → ∀ b, b < 11 → a ≠ b → (TX10 a).2.1 ≠ (TX10 b).2.1 := by decide +kernel
theorem tyX10_ok : ∀ k, k < 11 → parseFieldDescriptor (TX10 k).2.2.1 = some (tyX10 k) := by decide +kernel
theorem onX10 : ∀ k, k < 11 → (TX10 k).1 = RX10 := by decide +kernel
def mi_cl : List vw_C := [(RX0, TX0, 12), (RX1, TX1, 2), (RX2, TX2, 11), (RX3, TX3, 15), (RX4, TX4, 4), (RX5, TX5, 4), (RX6, TX6, 8), (RX7, TX7, 8), (RX8, TX8, 12), (RX9, TX9, 7), (RX10, TX10, 11)]
def mi_ty : Nat → Nat → FieldType := fun c => match c with
  | 0 => tyX0
  | 1 => tyX1
  | 2 => tyX2
  | 3 => tyX3
  | 4 => tyX4
  | 5 => tyX5
  | 6 => tyX6
  | 7 => tyX7
  | 8 => tyX8
  | 9 => tyX9
  | _ => tyX10
def mi_on : Nat → String := fun c => match c with
  | 0 => "TypeLoom$Checker"
  | 1 => "TypeLoom$Fault"
  | 2 => "TypeLoom$Forms"
  | 3 => "TypeLoom$Known"
  | 4 => "TypeLoom$Parser"
  | 5 => "TypeLoom$Scope"
  | 6 => "TypeLoom$Steps"
  | 7 => "TypeLoom$Tokens"
  | 8 => "TypeLoom$Types"
  | 9 => "TypeLoom$Writer"
  | 10 => "TypeLoom"
  | 11 => "TypeLoomLaw"
  | 12 => "java/lang/Math"
  | 13 => "java/lang/String"
  | 14 => "java/lang/StringLatin1"
  | 15 => "java/util/Arrays"
  | _ => "jdk/internal/util/Preconditions"
def mi_oS : Nat := 13
def mi_fl : Nat → List (Nat × Nat × Nat) := fun o => match o with
  | 0 => [(10, 0, 5), (16, 0, 0), (20, 0, 2), (24, 0, 3), (28, 0, 6), (38, 0, 1), (44, 0, 4), (91, 0, 7), (97, 0, 9), (100, 0, 10), (110, 0, 11), (163, 0, 8)]
  | 1 => [(7, 1, 1), (13, 1, 0)]
  | 2 => [(9, 2, 4), (13, 2, 5), (18, 2, 6), (21, 2, 0), (25, 2, 1), (29, 2, 2), (33, 2, 3), (78, 2, 9), (82, 2, 7), (94, 2, 8)]
  | 3 => [(9, 3, 1), (13, 3, 2), (17, 3, 3), (20, 3, 4), (23, 3, 5), (26, 3, 6), (29, 3, 7), (32, 3, 8), (35, 3, 0), (70, 3, 9), (74, 3, 10), (83, 3, 11), (86, 3, 12), (89, 3, 13), (105, 3, 14)]
  | 4 => [(7, 4, 0), (13, 4, 1), (17, 4, 2), (53, 4, 3)]
  | 5 => [(9, 5, 0), (15, 5, 1), (19, 5, 2), (23, 5, 3)]
  | 6 => [(9, 6, 0), (13, 6, 1), (16, 6, 2), (19, 6, 3), (22, 6, 4), (25, 6, 5), (28, 6, 6), (31, 6, 7)]
  | 7 => [(9, 7, 1), (13, 7, 2), (17, 7, 3), (20, 7, 4), (23, 7, 5), (26, 7, 0), (51, 7, 6), (55, 7, 7)]
  | 8 => [(9, 8, 0), (13, 8, 1), (16, 8, 2), (19, 8, 3), (22, 8, 4), (25, 8, 5), (28, 8, 6), (31, 8, 7), (35, 8, 8), (38, 8, 9), (76, 8, 11), (79, 8, 10)]
  | 9 => [(9, 9, 2), (13, 9, 3), (17, 9, 0), (21, 9, 1), (25, 9, 5), (46, 9, 6), (49, 9, 4)]
  | 10 => [(9, 10, 0), (16, 10, 1), (25, 10, 2), (32, 10, 3), (41, 10, 4), (48, 10, 5), (52, 10, 6), (60, 10, 7), (69, 10, 8), (78, 10, 9), (82, 10, 10), (125, 1, 0)]
  | _ => []
def mi_nf : Nat → List (Nat × Nat × Nat) := fun o => match o with
  | 0 => [(32, 3, 0)]
  | _ => []
def mi_ml : Nat → List (Nat × Nat) := fun o => match o with
  | 0 => [(1, 1000000), (41, 30), (48, 20), (51, 102), (57, 29), (63, 99), (67, 94), (70, 96), (73, 24), (77, 101), (81, 23), (84, 37), (88, 86), (103, 17), (107, 38), (113, 19), (116, 21), (119, 110), (125, 148), (128, 85), (132, 18), (150, 103), (153, 128), (160, 31), (167, 48), (173, 46), (177, 47), (180, 143), (183, 121), (186, 138), (189, 44), (193, 87), (197, 130), (216, 122), (225, 92), (228, 26), (234, 142), (240, 25), (243, 90), (246, 91), (247, 88), (250, 45), (253, 57), (259, 129), (262, 89)]
  | 1 => [(1, 1000000)]
  | 2 => [(1, 1000000), (49, 39), (56, 41), (59, 40), (65, 42), (69, 34), (72, 33), (75, 32), (88, 191), (97, 115), (103, 110), (107, 56), (115, 179), (129, 35), (135, 137), (155, 136), (159, 38), (162, 129), (170, 36), (173, 53), (176, 142)]
  | 3 => [(1, 1000000), (41, 51), (49, 137), (55, 136), (63, 129), (67, 142), (77, 134), (80, 126), (92, 186), (97, 180), (101, 123), (108, 191), (114, 54), (132, 48), (135, 50)]
  | 4 => [(1, 1000000), (21, 79), (25, 70), (30, 29), (36, 71), (40, 83), (44, 65), (48, 97), (57, 111), (60, 115), (70, 95), (74, 59), (75, 113), (78, 100), (85, 64), (91, 81), (94, 73), (97, 66), (100, 67), (103, 68), (106, 72), (109, 69), (118, 77), (121, 60), (133, 82), (136, 74), (139, 63), (142, 61), (145, 80), (148, 78), (152, 62)]
  | 5 => [(1, 1000000), (27, 1000002), (35, 130)]
  | 6 => [(3, 1000000), (37, 98)]
  | 7 => [(1, 1000000), (32, 186), (38, 180), (42, 1000002), (48, 1000003), (58, 114), (62, 118), (65, 111), (68, 106), (71, 105), (75, 109), (79, 108), (82, 119), (85, 107), (91, 117), (94, 112), (100, 183)]
  | 8 => [(1, 1000000), (48, 136), (52, 127), (56, 133), (60, 121), (63, 130), (67, 1000002), (73, 1000003), (82, 125), (85, 147), (89, 140), (92, 141), (95, 135)]
  | 9 => [(1, 1000000), (29, 157), (33, 131), (39, 132), (42, 145), (52, 127), (55, 154), (59, 160), (62, 163), (65, 121), (68, 130), (72, 146), (75, 158), (78, 135), (82, 140), (85, 153), (89, 150), (93, 1000003), (98, 52), (104, 152), (112, 164), (118, 161), (121, 155), (126, 156), (131, 162), (134, 178), (137, 186), (142, 180)]
  | 10 => [(1, 1000000), (22, 104), (31, 120), (38, 43), (57, 58), (66, 16), (75, 149), (93, 2), (102, 9), (105, 28), (108, 116), (111, 75), (115, 22), (118, 29), (122, 134), (136, 1), (140, 50), (146, 57), (149, 159), (154, 165), (171, 103), (176, 151), (181, 11), (185, 55), (188, 122), (192, 128), (196, 124), (199, 166), (202, 76), (206, 115), (213, 47), (220, 97), (221, 49), (230, 143), (233, 139), (236, 144)]
  | 11 => [(9, 186), (15, 180), (21, 175), (27, 174), (30, 6), (36, 8), (40, 13), (43, 172), (47, 5), (50, 3), (53, 170), (57, 169), (61, 177), (65, 168), (86, 176), (96, 0), (107, 7), (111, 10), (114, 15), (117, 4), (132, 167), (135, 171), (138, 12), (141, 173), (144, 14)]
  | 13 => [(335, 182), (492, 185), (495, 188), (505, 186), (633, 184), (637, 189), (1059, 192)]
  | 14 => [(9, 181), (38, 1000003), (88, 187), (92, 1000002), (95, 190)]
  | _ => []
def mi_nm : Nat → List (Nat × Nat) := fun o => match o with
  | 0 => [(9, 84)]
  | 10 => [(15, 27), (47, 93)]
  | _ => []
def mi_kl : Nat → List (Nat × Nat) := fun o => match o with
  | 0 => [(7, 5), (39, 2)]
  | 10 => [(13, 1), (20, 7), (29, 8), (36, 3), (45, 6), (55, 4), (64, 0), (73, 9)]
  | 11 => [(31, 10)]
  | _ => []
def mi_al_ : Nat → List (Nat × Nat) := fun o => match o with
  | 11 => [(10, 0)]
  | _ => []
def mi_xl : Nat → List (Nat × Nat) := fun o => match o with
  | 10 => [(86, 0), (97, 1), (131, 2)]
  | 11 => [(151, 0)]
  | _ => []
def mi_il : Nat → List (Nat × Int32) := fun o => match o with
  | 8 => [(41, 131072), (98, 1000000)]
  | 9 => [(92, 1000000)]
  | 11 => [(7, 2147483647), (8, 790386105)]
  | _ => []
def mi_jl : Nat → List (Nat × Int64) := fun o => match o with
  | 2 => [(111, 97), (113, 26)]
  | 9 => [(108, 255)]
  | _ => []
def mi_sl : Nat → List (Nat × Nat) := fun o => match o with
  | 3 => [(39, 1), (45, 2), (47, 3), (59, 4), (61, 5)]
  | 7 => [(30, 0), (98, 6)]
  | 9 => [(110, 9), (116, 10), (124, 11), (129, 12)]
  | 10 => [(88, 17), (99, 18), (133, 7), (144, 8), (152, 13), (174, 14), (179, 15)]
  | 11 => [(19, 16), (68, 19), (70, 20), (72, 21), (74, 22), (76, 23), (78, 24), (80, 25), (82, 26), (84, 27), (90, 28), (92, 29), (94, 30), (97, 31), (99, 32), (101, 33), (103, 34), (105, 35), (120, 36), (122, 37), (124, 38), (126, 39), (128, 40), (130, 41), (147, 42), (149, 43)]
  | _ => []
def mi_sf : Nat → List (Nat × Nat) := fun o => match o with
  | 13 => [(9, 0), (15, 1)]
  | _ => []
def mi_gl : Nat → List (Nat × Nat) := fun o => match o with
  | 13 => [(38, 2), (1053, 1)]
  | _ => []
/- statics: [('TypeLoomModel', 'KEYWORDS', '[Ljava/lang/String;'), ('jdk/internal/util/Preconditions', 'SIOOBE_FORMATTER', 'Ljava/util/function/BiFunction;'), ('java/lang/String', 'COMPACT_STRINGS', 'Z')] -/
def mi_st_ : List (String × String × String) := [("TypeLoomModel", "KEYWORDS", "[Ljava/lang/String;"), ("jdk/internal/util/Preconditions", "SIOOBE_FORMATTER", "Ljava/util/function/BiFunction;"), ("java/lang/String", "COMPACT_STRINGS", "Z")]
def mi_nS : Nat := 44
def mi_sw : List (String × Nat × String) := [("TypeLoom$Tokens", 30, "type def let in fun if then else case of end true false "), ("TypeLoom$Known", 39, "int"), ("TypeLoom$Known", 45, "bool"), ("TypeLoom$Known", 47, "list"), ("TypeLoom$Known", 59, "Nil"), ("TypeLoom$Known", 61, "Cons"), ("TypeLoom$Tokens", 98, "(),;:=|+-*<"), ("TypeLoom", 133, "there is nothing of this number to count"), ("TypeLoom", 144, "there is no such definition"), ("TypeLoom$Writer", 110, "int"), ("TypeLoom$Writer", 116, "bool"), ("TypeLoom$Writer", 124, " * "), ("TypeLoom$Writer", 129, " -> "), ("TypeLoom", 152, "the type is too long for the paper"), ("TypeLoom", 174, "there is no such place on the paper"), ("TypeLoom", 179, "there is no such definition or measure"), ("TypeLoomLaw", 19, "-"), ("TypeLoom", 88, "the tape has no room for twenty bytes"), ("TypeLoom", 99, "the tape does not have so many bytes"), ("TypeLoomLaw", 68, "("), ("TypeLoomLaw", 70, "int"), ("TypeLoomLaw", 72, "bool"), ("TypeLoomLaw", 74, "'a"), ("TypeLoomLaw", 76, "'b"), ("TypeLoomLaw", 78, "'c"), ("TypeLoomLaw", 80, "'d"), ("TypeLoomLaw", 82, "'e"), ("TypeLoomLaw", 84, "list "), ("TypeLoomLaw", 90, " * "), ("TypeLoomLaw", 92, " -> "), ("TypeLoomLaw", 94, ")"), ("TypeLoomLaw", 97, "def d"), ("TypeLoomLaw", 99, " : "), ("TypeLoomLaw", 101, " = d"), ("TypeLoomLaw", 103, "; "), ("TypeLoomLaw", 105, "def e = (d0, d1); def i = fun x -> d2; def u = let v = d0 in (v, v);"), ("TypeLoomLaw", 120, "d0"), ("TypeLoomLaw", 122, "d1"), ("TypeLoomLaw", 124, "d2"), ("TypeLoomLaw", 126, "e"), ("TypeLoomLaw", 128, "i"), ("TypeLoomLaw", 130, "u"), ("TypeLoomLaw", 147, " def w : "), ("TypeLoomLaw", 149, " = e;")]
def mi_byt : List (List Int32) := [[116, 121, 112, 101, 32, 100, 101, 102, 32, 108, 101, 116, 32, 105, 110, 32, 102, 117, 110, 32, 105, 102, 32, 116, 104, 101, 110, 32, 101, 108, 115, 101, 32, 99, 97, 115, 101, 32, 111, 102, 32, 101, 110, 100, 32, 116, 114, 117, 101, 32, 102, 97, 108, 115, 101, 32], [105, 110, 116], [98, 111, 111, 108], [108, 105, 115, 116], [78, 105, 108], [67, 111, 110, 115], [40, 41, 44, 59, 58, 61, 124, 43, 45, 42, 60], [116, 104, 101, 114, 101, 32, 105, 115, 32, 110, 111, 116, 104, 105, 110, 103, 32, 111, 102, 32, 116, 104, 105, 115, 32, 110, 117, 109, 98, 101, 114, 32, 116, 111, 32, 99, 111, 117, 110, 116], [116, 104, 101, 114, 101, 32, 105, 115, 32, 110, 111, 32, 115, 117, 99, 104, 32, 100, 101, 102, 105, 110, 105, 116, 105, 111, 110], [105, 110, 116], [98, 111, 111, 108], [32, 42, 32], [32, 45, 62, 32], [116, 104, 101, 32, 116, 121, 112, 101, 32, 105, 115, 32, 116, 111, 111, 32, 108, 111, 110, 103, 32, 102, 111, 114, 32, 116, 104, 101, 32, 112, 97, 112, 101, 114], [116, 104, 101, 114, 101, 32, 105, 115, 32, 110, 111, 32, 115, 117, 99, 104, 32, 112, 108, 97, 99, 101, 32, 111, 110, 32, 116, 104, 101, 32, 112, 97, 112, 101, 114], [116, 104, 101, 114, 101, 32, 105, 115, 32, 110, 111, 32, 115, 117, 99, 104, 32, 100, 101, 102, 105, 110, 105, 116, 105, 111, 110, 32, 111, 114, 32, 109, 101, 97, 115, 117, 114, 101], [45], [116, 104, 101, 32, 116, 97, 112, 101, 32, 104, 97, 115, 32, 110, 111, 32, 114, 111, 111, 109, 32, 102, 111, 114, 32, 116, 119, 101, 110, 116, 121, 32, 98, 121, 116, 101, 115], [116, 104, 101, 32, 116, 97, 112, 101, 32, 100, 111, 101, 115, 32, 110, 111, 116, 32, 104, 97, 118, 101, 32, 115, 111, 32, 109, 97, 110, 121, 32, 98, 121, 116, 101, 115], [40], [105, 110, 116], [98, 111, 111, 108], [39, 97], [39, 98], [39, 99], [39, 100], [39, 101], [108, 105, 115, 116, 32], [32, 42, 32], [32, 45, 62, 32], [41], [100, 101, 102, 32, 100], [32, 58, 32], [32, 61, 32, 100], [59, 32], [100, 101, 102, 32, 101, 32, 61, 32, 40, 100, 48, 44, 32, 100, 49, 41, 59, 32, 100, 101, 102, 32, 105, 32, 61, 32, 102, 117, 110, 32, 120, 32, 45, 62, 32, 100, 50, 59, 32, 100, 101, 102, 32, 117, 32, 61, 32, 108, 101, 116, 32, 118, 32, 61, 32, 100, 48, 32, 105, 110, 32, 40, 118, 44, 32, 118, 41, 59], [100, 48], [100, 49], [100, 50], [101], [105], [117], [32, 100, 101, 102, 32, 119, 32, 58, 32], [32, 61, 32, 101, 59]]
def mi_xn : Nat → String := fun x => match x with
  | 0 => "java/lang/IllegalStateException"
  | 1 => "java/lang/IllegalArgumentException"
  | _ => "java/lang/IndexOutOfBoundsException"
abbrev mi_M : Type := MethodName × ByteArray × Nat × Option FieldType × Nat × Nat × Nat × List (Nat × Instr × Nat) × List (Nat × Nat × Nat × Nat × Nat × Bool) × List (Nat × Nat × Nat × Nat)
def mi_q0 : List (Nat × Instr × Nat) := [(0, .aload_n 0, 1), (1, .invokespecial 1, 3), (4, .aload_n 0, 1), (5, .sipush 1200, 3), (8, .newarray .byte, 2), (10, .putfield 9, 3), (13, .aload_n 0, 1), (14, .new 13, 3), (17, .dup, 1), (18, .invokespecial 15, 3), (21, .putfield 16, 3), (24, .aload_n 0, 1), (25, .new 20, 3), (28, .dup, 1), (29, .aload_n 0, 1), (30, .getfield 9, 3), (33, .invokespecial 22, 3), (36, .putfield 25, 3), (39, .aload_n 0, 1), (40, .new 29, 3), (43, .dup, 1), (44, .invokespecial 31, 3), (47, .putfield 32, 3), (50, .aload_n 0, 1), (51, .new 36, 3), (54, .dup, 1), (55, .aload_n 0, 1), (56, .getfield 32, 3), (59, .invokespecial 38, 3), (62, .putfield 41, 3), (65, .aload_n 0, 1), (66, .new 45, 3), (69, .dup, 1), (70, .invokespecial 47, 3), (73, .putfield 48, 3), (76, .aload_n 0, 1), (77, .new 45, 3), (80, .dup, 1), (81, .invokespecial 47, 3), (84, .putfield 52, 3), (87, .aload_n 0, 1), (88, .new 55, 3), (91, .dup, 1), (92, .aload_n 0, 1), (93, .getfield 25, 3), (96, .aload_n 0, 1), (97, .getfield 16, 3), (100, .aload_n 0, 1), (101, .getfield 48, 3), (104, .invokespecial 57, 3), (107, .putfield 60, 3), (110, .aload_n 0, 1), (111, .new 64, 3), (114, .dup, 1), (115, .aload_n 0, 1), (116, .getfield 25, 3), (119, .aload_n 0, 1), (120, .getfield 41, 3), (123, .aload_n 0, 1), (124, .getfield 16, 3), (127, .aload_n 0, 1), (128, .getfield 48, 3), (131, .invokespecial 66, 3), (134, .putfield 69, 3), (137, .aload_n 0, 1), (138, .new 73, 3), (141, .dup, 1), (142, .aload_n 0, 1), (143, .getfield 32, 3), (146, .aload_n 0, 1), (147, .getfield 41, 3), (150, .invokespecial 75, 3), (153, .putfield 78, 3), (156, .aload_n 0, 1), (157, .iconst 0, 1), (158, .putfield 82, 3), (161, .return_, 1)]
def mi_M0 : mi_M := (⟨"TypeLoom", "<init>", "()V"⟩, prog_1_method_1_code, 1, none, 10, 2, 0, mi_q0, [], [])
def mi_q1 : List (Nat × Instr × Nat) := [(0, .iload_n 1, 1), (1, .tableswitch 60 0 3 #[31, 39, 47, 55], 31), (32, .aload_n 0, 1), (33, .getfield 41, 3), (36, .invokevirtual 224, 3), (39, .ireturn, 1), (40, .aload_n 0, 1), (41, .getfield 41, 3), (44, .invokevirtual 227, 3), (47, .ireturn, 1), (48, .aload_n 0, 1), (49, .getfield 41, 3), (52, .invokevirtual 213, 3), (55, .ireturn, 1), (56, .aload_n 0, 1), (57, .getfield 82, 3), (60, .ireturn, 1), (61, .aload_n 0, 1), (62, .getfield 78, 3), (65, .invokevirtual 154, 3), (68, .ireturn, 1)]
def mi_M1 : mi_M := (⟨"TypeLoom", "amountOf", "(I)I"⟩, prog_1_method_20_code, 2, (some .int), 10, 1, 1, mi_q1, [], [])
def mi_q2 : List (Nat × Instr × Nat) := [(0, .bipush 24, 2), (2, .istore_n 2, 1), (3, .iload_n 2, 1), (4, .ifCond .lt 42, 3), (7, .aload_n 0, 1), (8, .getfield 82, 3), (11, .sipush 1200, 3), (14, .if_icmp .ge 26, 3), (17, .aload_n 0, 1), (18, .getfield 9, 3), (21, .aload_n 0, 1), (22, .getfield 82, 3), (25, .iload_n 1, 1), (26, .iload_n 2, 1), (27, .ishr, 1), (28, .i2b, 1), (29, .bastore, 1), (30, .aload_n 0, 1), (31, .dup, 1), (32, .getfield 82, 3), (35, .iconst 1, 1), (36, .iadd, 1), (37, .putfield 82, 3), (40, .iinc 2 (-8), 3), (43, .goto (-40), 3), (46, .return_, 1)]
def mi_M2 : mi_M := (⟨"TypeLoom", "append", "(I)V"⟩, prog_1_method_18_code, 3, none, 10, 1, 1, mi_q2, [], [])
def mi_q3 : List (Nat × Instr × Nat) := [(0, .aload_n 0, 1), (1, .getfield 16, 3), (4, .invokevirtual 105, 3), (7, .aload_n 0, 1), (8, .getfield 25, 3), (11, .aload_n 0, 1), (12, .getfield 82, 3), (15, .invokevirtual 108, 3), (18, .aload_n 0, 1), (19, .iconst 0, 1), (20, .putfield 82, 3), (23, .aload_n 0, 1), (24, .getfield 60, 3), (27, .aload_n 0, 1), (28, .getfield 52, 3), (31, .invokevirtual 202, 3), (34, .istore_n 1, 1), (35, .aload_n 0, 1), (36, .getfield 69, 3), (39, .aload_n 0, 1), (40, .getfield 52, 3), (43, .invokevirtual 115, 3), (46, .aload_n 0, 1), (47, .getfield 16, 3), (50, .invokevirtual 118, 3), (53, .ifCond .ne 38, 3), (56, .aload_n 0, 1), (57, .getfield 78, 3), (60, .aload_n 0, 1), (61, .getfield 52, 3), (64, .iload_n 1, 1), (65, .invokevirtual 171, 3), (68, .invokevirtual 149, 3), (71, .ifCond .ne 20, 3), (74, .aload_n 0, 1), (75, .getfield 16, 3), (78, .bipush 9, 2), (80, .aload_n 0, 1), (81, .getfield 25, 3), (84, .iconst 0, 1), (85, .invokevirtual 206, 3), (88, .invokevirtual 209, 3), (91, .aload_n 0, 1), (92, .getfield 32, 3), (95, .invokevirtual 196, 3), (98, .aload_n 0, 1), (99, .getfield 16, 3), (102, .getfield 125, 3), (105, .ireturn, 1)]
def mi_M3 : mi_M := (⟨"TypeLoom", "ask", "()I"⟩, prog_1_method_15_code, 2, (some .int), 10, 1, 0, mi_q3, [], [])
def mi_q4 : List (Nat × Instr × Nat) := [(0, .iload_n 1, 1), (1, .ifCond .lt 14, 3), (4, .iload_n 1, 1), (5, .aload_n 0, 1), (6, .getfield 78, 3), (9, .invokevirtual 154, 3), (12, .if_icmp .lt 13, 3), (15, .new 131, 3), (18, .dup, 1), (19, .ldc 174, 2), (21, .invokespecial 135, 3), (24, .athrow, 1), (25, .aload_n 0, 1), (26, .getfield 78, 3), (29, .iload_n 1, 1), (30, .invokevirtual 176, 3), (33, .ireturn, 1)]
def mi_M4 : mi_M := (⟨"TypeLoom", "byteAt", "(I)I"⟩, prog_1_method_10_code, 2, (some .int), 10, 1, 1, mi_q4, [(15, 2, 131, 174, 135, false)], [])
def mi_q5 : List (Nat × Instr × Nat) := [(0, .aload_n 0, 1), (1, .invokevirtual 102, 3), (4, .aload_n 0, 1), (5, .getfield 16, 3), (8, .invokevirtual 105, 3), (11, .aload_n 0, 1), (12, .getfield 25, 3), (15, .aload_n 0, 1), (16, .getfield 82, 3), (19, .invokevirtual 108, 3), (22, .aload_n 0, 1), (23, .iconst 0, 1), (24, .putfield 82, 3), (27, .aload_n 0, 1), (28, .getfield 60, 3), (31, .aload_n 0, 1), (32, .getfield 48, 3), (35, .invokevirtual 111, 3), (38, .aload_n 0, 1), (39, .getfield 69, 3), (42, .aload_n 0, 1), (43, .getfield 48, 3), (46, .invokevirtual 115, 3), (49, .aload_n 0, 1), (50, .getfield 16, 3), (53, .invokevirtual 118, 3), (56, .ifCond .eq 10, 3), (59, .aload_n 0, 1), (60, .invokevirtual 102, 3), (63, .goto 10, 3), (66, .aload_n 0, 1), (67, .getfield 32, 3), (70, .invokevirtual 122, 3), (73, .aload_n 0, 1), (74, .getfield 16, 3), (77, .getfield 125, 3), (80, .ireturn, 1)]
def mi_M5 : mi_M := (⟨"TypeLoom", "compile", "()I"⟩, prog_1_method_4_code, 1, (some .int), 10, 1, 0, mi_q5, [], [])
def mi_q6 : List (Nat × Instr × Nat) := [(0, .iload_n 1, 1), (1, .ifCond .lt 8, 3), (4, .iload_n 1, 1), (5, .iconst 5, 1), (6, .if_icmp .lt 13, 3), (9, .new 131, 3), (12, .dup, 1), (13, .ldc 133, 2), (15, .invokespecial 135, 3), (18, .athrow, 1), (19, .aload_n 0, 1), (20, .iload_n 1, 1), (21, .invokevirtual 136, 3), (24, .ireturn, 1)]
def mi_M6 : mi_M := (⟨"TypeLoom", "count", "(I)I"⟩, prog_1_method_6_code, 2, (some .int), 10, 1, 1, mi_q6, [(9, 2, 131, 133, 135, false)], [])
def mi_q7 : List (Nat × Instr × Nat) := [(0, .aload_n 0, 1), (1, .getfield 41, 3), (4, .iload_n 1, 1), (5, .invokevirtual 140, 3), (8, .ifCond .eq 14, 3), (11, .aload_n 0, 1), (12, .getfield 41, 3), (15, .iload_n 2, 1), (16, .invokevirtual 140, 3), (19, .ifCond .ne 13, 3), (22, .new 131, 3), (25, .dup, 1), (26, .ldc 144, 2), (28, .invokespecial 135, 3), (31, .athrow, 1), (32, .aload_n 0, 1), (33, .getfield 32, 3), (36, .aload_n 0, 1), (37, .getfield 41, 3), (40, .iload_n 1, 1), (41, .invokevirtual 146, 3), (44, .iconst 0, 1), (45, .invokevirtual 188, 3), (48, .istore_n 3, 1), (49, .aload_n 0, 1), (50, .getfield 32, 3), (53, .aload_n 0, 1), (54, .getfield 41, 3), (57, .iload_n 2, 1), (58, .invokevirtual 146, 3), (61, .iconst 1, 1), (62, .invokevirtual 188, 3), (65, .istore 4, 2), (67, .aload_n 0, 1), (68, .getfield 32, 3), (71, .iload_n 3, 1), (72, .iload 4, 2), (74, .invokevirtual 192, 3), (77, .istore 5, 2), (79, .aload_n 0, 1), (80, .getfield 32, 3), (83, .invokevirtual 196, 3), (86, .iload 5, 2), (88, .ireturn, 1)]
def mi_M7 : mi_M := (⟨"TypeLoom", "covers", "(II)Z"⟩, prog_1_method_13_code, 6, (some .boolean), 10, 1, 2, mi_q7, [(22, 2, 131, 144, 135, false)], [])
def mi_q8 : List (Nat × Instr × Nat) := [(0, .aload_n 0, 1), (1, .getfield 82, 3), (4, .bipush 20, 2), (6, .iadd, 1), (7, .sipush 1200, 3), (10, .if_icmp .le 13, 3), (13, .new 86, 3), (16, .dup, 1), (17, .ldc 88, 2), (19, .invokespecial 90, 3), (22, .athrow, 1), (23, .aload_n 0, 1), (24, .iload_n 1, 1), (25, .invokevirtual 93, 3), (28, .aload_n 0, 1), (29, .iload_n 2, 1), (30, .invokevirtual 93, 3), (33, .aload_n 0, 1), (34, .iload_n 3, 1), (35, .invokevirtual 93, 3), (38, .aload_n 0, 1), (39, .iload 4, 2), (41, .invokevirtual 93, 3), (44, .aload_n 0, 1), (45, .iload 5, 2), (47, .invokevirtual 93, 3), (50, .aload_n 0, 1), (51, .getfield 82, 3), (54, .ireturn, 1)]
def mi_M8 : mi_M := (⟨"TypeLoom", "feed", "(IIIII)I"⟩, prog_1_method_2_code, 6, (some .int), 10, 1, 5, mi_q8, [(13, 0, 86, 88, 90, false)], [])
def mi_q9 : List (Nat × Instr × Nat) := [(0, .aload_n 0, 1), (1, .getfield 48, 3), (4, .invokevirtual 220, 3), (7, .aload_n 0, 1), (8, .getfield 41, 3), (11, .invokevirtual 221, 3), (14, .return_, 1)]
def mi_M9 : mi_M := (⟨"TypeLoom", "forgetProgram", "()V"⟩, prog_1_method_19_code, 1, none, 10, 1, 0, mi_q9, [], [])
def mi_q10 : List (Nat × Instr × Nat) := [(0, .aload_n 0, 1), (1, .getfield 41, 3), (4, .iload_n 1, 1), (5, .invokevirtual 140, 3), (8, .ifCond .eq 12, 3), (11, .iload_n 2, 1), (12, .ifCond .lt 8, 3), (15, .iload_n 2, 1), (16, .iconst 3, 1), (17, .if_icmp .lt 13, 3), (20, .new 131, 3), (23, .dup, 1), (24, .ldc 179, 2), (26, .invokespecial 135, 3), (29, .athrow, 1), (30, .aload_n 0, 1), (31, .iload_n 1, 1), (32, .iload_n 2, 1), (33, .invokevirtual 181, 3), (36, .ireturn, 1)]
def mi_M10 : mi_M := (⟨"TypeLoom", "measure", "(II)I"⟩, prog_1_method_11_code, 3, (some .int), 10, 1, 2, mi_q10, [(20, 2, 131, 179, 135, false)], [])
def mi_q11 : List (Nat × Instr × Nat) := [(0, .aload_n 0, 1), (1, .getfield 41, 3), (4, .iload_n 1, 1), (5, .invokevirtual 146, 3), (8, .istore_n 3, 1), (9, .iload_n 2, 1), (10, .lookupswitch 44 #[(0, 26), (1, 35)], 26), (36, .aload_n 0, 1), (37, .getfield 32, 3), (40, .iload_n 3, 1), (41, .invokevirtual 230, 3), (44, .ireturn, 1), (45, .aload_n 0, 1), (46, .getfield 32, 3), (49, .iload_n 3, 1), (50, .invokevirtual 233, 3), (53, .ireturn, 1), (54, .aload_n 0, 1), (55, .getfield 32, 3), (58, .iload_n 3, 1), (59, .invokevirtual 236, 3), (62, .ireturn, 1)]
def mi_M11 : mi_M := (⟨"TypeLoom", "measured", "(II)I"⟩, prog_1_method_21_code, 4, (some .int), 10, 1, 2, mi_q11, [], [])
def mi_q12 : List (Nat × Instr × Nat) := [(0, .aload_n 0, 1), (1, .getfield 41, 3), (4, .iload_n 1, 1), (5, .invokevirtual 140, 3), (8, .ifCond .eq 14, 3), (11, .aload_n 0, 1), (12, .getfield 41, 3), (15, .iload_n 2, 1), (16, .invokevirtual 140, 3), (19, .ifCond .ne 13, 3), (22, .new 131, 3), (25, .dup, 1), (26, .ldc 144, 2), (28, .invokespecial 135, 3), (31, .athrow, 1), (32, .aload_n 0, 1), (33, .getfield 32, 3), (36, .aload_n 0, 1), (37, .getfield 41, 3), (40, .iload_n 1, 1), (41, .invokevirtual 146, 3), (44, .iconst 0, 1), (45, .invokevirtual 188, 3), (48, .istore_n 3, 1), (49, .aload_n 0, 1), (50, .getfield 32, 3), (53, .aload_n 0, 1), (54, .getfield 41, 3), (57, .iload_n 2, 1), (58, .invokevirtual 146, 3), (61, .iconst 0, 1), (62, .invokevirtual 188, 3), (65, .istore 4, 2), (67, .iconst 1, 1), (68, .istore 5, 2), (70, .aload_n 0, 1), (71, .getfield 32, 3), (74, .iload_n 3, 1), (75, .iload 4, 2), (77, .invokevirtual 192, 3), (80, .ifCond .eq 16, 3), (83, .aload_n 0, 1), (84, .getfield 78, 3), (87, .iload_n 3, 1), (88, .invokevirtual 149, 3), (91, .istore 5, 2), (93, .goto 10, 3), (96, .aload_n 0, 1), (97, .getfield 78, 3), (100, .invokevirtual 199, 3), (103, .aload_n 0, 1), (104, .getfield 32, 3), (107, .invokevirtual 196, 3), (110, .iload 5, 2), (112, .ifCond .ne 13, 3), (115, .new 86, 3), (118, .dup, 1), (119, .ldc 152, 2), (121, .invokespecial 90, 3), (124, .athrow, 1), (125, .aload_n 0, 1), (126, .getfield 78, 3), (129, .invokevirtual 154, 3), (132, .ireturn, 1)]
def mi_M12 : mi_M := (⟨"TypeLoom", "meet", "(II)I"⟩, prog_1_method_14_code, 6, (some .int), 10, 1, 2, mi_q12, [(22, 2, 131, 144, 135, false), (115, 0, 86, 152, 90, false)], [])
def mi_q13 : List (Nat × Instr × Nat) := [(0, .iload_n 1, 1), (1, .ifCond .lt 11, 3), (4, .iload_n 1, 1), (5, .aload_n 0, 1), (6, .getfield 82, 3), (9, .if_icmp .le 13, 3), (12, .new 97, 3), (15, .dup, 1), (16, .ldc 99, 2), (18, .invokespecial 101, 3), (21, .athrow, 1), (22, .aload_n 0, 1), (23, .iload_n 1, 1), (24, .putfield 82, 3), (27, .iload_n 1, 1), (28, .ireturn, 1)]
def mi_M13 : mi_M := (⟨"TypeLoom", "trim", "(I)I"⟩, prog_1_method_3_code, 2, (some .int), 10, 1, 1, mi_q13, [(12, 1, 97, 99, 101, false)], [])
def mi_q14 : List (Nat × Instr × Nat) := [(0, .aload_n 0, 1), (1, .getfield 41, 3), (4, .iload_n 1, 1), (5, .invokevirtual 140, 3), (8, .ifCond .eq 14, 3), (11, .aload_n 0, 1), (12, .getfield 41, 3), (15, .iload_n 2, 1), (16, .invokevirtual 140, 3), (19, .ifCond .ne 13, 3), (22, .new 131, 3), (25, .dup, 1), (26, .ldc 144, 2), (28, .invokespecial 135, 3), (31, .athrow, 1), (32, .aload_n 0, 1), (33, .getfield 41, 3), (36, .iload_n 1, 1), (37, .iload_n 2, 1), (38, .invokevirtual 185, 3), (41, .ireturn, 1)]
def mi_M14 : mi_M := (⟨"TypeLoom", "uses", "(II)I"⟩, prog_1_method_12_code, 3, (some .int), 10, 1, 2, mi_q14, [(22, 2, 131, 144, 135, false)], [])
def mi_q15 : List (Nat × Instr × Nat) := [(0, .aload_n 0, 1), (1, .getfield 41, 3), (4, .iload_n 1, 1), (5, .invokevirtual 140, 3), (8, .ifCond .ne 13, 3), (11, .new 131, 3), (14, .dup, 1), (15, .ldc 144, 2), (17, .invokespecial 135, 3), (20, .athrow, 1), (21, .aload_n 0, 1), (22, .getfield 78, 3), (25, .aload_n 0, 1), (26, .getfield 41, 3), (29, .iload_n 1, 1), (30, .invokevirtual 146, 3), (33, .invokevirtual 149, 3), (36, .ifCond .ne 13, 3), (39, .new 86, 3), (42, .dup, 1), (43, .ldc 152, 2), (45, .invokespecial 90, 3), (48, .athrow, 1), (49, .aload_n 0, 1), (50, .getfield 78, 3), (53, .invokevirtual 154, 3), (56, .ireturn, 1)]
def mi_M15 : mi_M := (⟨"TypeLoom", "write", "(I)I"⟩, prog_1_method_7_code, 2, (some .int), 10, 1, 1, mi_q15, [(11, 2, 131, 144, 135, false), (39, 0, 86, 152, 90, false)], [])
def mi_q16 : List (Nat × Instr × Nat) := [(0, .aload_n 0, 1), (1, .invokespecial 1, 3), (4, .aload_n 0, 1), (5, .new 7, 3), (8, .dup, 1), (9, .invokespecial 9, 3), (12, .putfield 10, 3), (15, .aload_n 0, 1), (16, .aload_n 1, 1), (17, .putfield 16, 3), (20, .aload_n 0, 1), (21, .aload_n 2, 1), (22, .putfield 20, 3), (25, .aload_n 0, 1), (26, .aload_n 3, 1), (27, .putfield 24, 3), (30, .aload_n 0, 1), (31, .aload 4, 2), (33, .putfield 28, 3), (36, .aload_n 0, 1), (37, .aload_n 2, 1), (38, .getfield 32, 3), (41, .putfield 38, 3), (44, .aload_n 0, 1), (45, .new 39, 3), (48, .dup, 1), (49, .aload_n 1, 1), (50, .aload_n 0, 1), (51, .getfield 38, 3), (54, .aload_n 2, 1), (55, .aload_n 3, 1), (56, .invokespecial 41, 3), (59, .putfield 44, 3), (62, .return_, 1)]
def mi_M16 : mi_M := (⟨"TypeLoom$Checker", "<init>", "(LTypeLoom$Tokens;LTypeLoom$Known;LTypeLoom$Fault;LTypeLoom$Steps;)V"⟩, prog_2_method_1_code, 5, none, 0, 2, 4, mi_q16, [], [])
def mi_q17 : List (Nat × Instr × Nat) := [(0, .aload_n 0, 1), (1, .invokevirtual 48, 3), (4, .aload_n 0, 1), (5, .getfield 44, 3), (8, .invokevirtual 160, 3), (11, .aload_n 0, 1), (12, .aload_n 0, 1), (13, .getfield 16, 3), (16, .iload_n 1, 1), (17, .iconst 1, 1), (18, .iadd, 1), (19, .invokevirtual 119, 3), (22, .putfield 163, 3), (25, .aload_n 0, 1), (26, .getfield 20, 3), (29, .invokevirtual 167, 3), (32, .ifCond .eq 9, 3), (35, .aload_n 0, 1), (36, .iconst 4, 1), (37, .iload_n 1, 1), (38, .invokevirtual 170, 3), (41, .aload_n 0, 1), (42, .getfield 20, 3), (45, .aload_n 0, 1), (46, .getfield 163, 3), (49, .invokevirtual 173, 3), (52, .iconst (-1), 1), (53, .if_icmp .eq 11, 3), (56, .aload_n 0, 1), (57, .iconst 3, 1), (58, .iload_n 1, 1), (59, .iconst 1, 1), (60, .iadd, 1), (61, .invokevirtual 170, 3), (64, .aload_n 0, 1), (65, .aload_n 0, 1), (66, .getfield 20, 3), (69, .invokevirtual 177, 3), (72, .putfield 91, 3), (75, .aload_n 0, 1), (76, .aload_n 0, 1), (77, .getfield 38, 3), (80, .invokevirtual 125, 3), (83, .putfield 97, 3), (86, .return_, 1)]
def mi_M17 : mi_M := (⟨"TypeLoom$Checker", "beginDefinition", "(I)V"⟩, prog_2_method_7_code, 2, none, 0, 1, 1, mi_q17, [], [])
def mi_q18 : List (Nat × Instr × Nat) := [(0, .aload_n 0, 1), (1, .getfield 28, 3), (4, .iload_n 1, 1), (5, .invokevirtual 150, 3), (8, .istore_n 3, 1), (9, .aload_n 0, 1), (10, .getfield 38, 3), (13, .iload_n 3, 1), (14, .invokevirtual 180, 3), (17, .bipush 120, 2), (19, .if_icmp .le 11, 3), (22, .aload_n 0, 1), (23, .bipush 9, 2), (25, .iload_n 2, 1), (26, .invokevirtual 170, 3), (29, .return_, 1), (30, .aload_n 0, 1), (31, .getfield 38, 3), (34, .invokevirtual 183, 3), (37, .aload_n 0, 1), (38, .getfield 10, 3), (41, .aload_n 0, 1), (42, .getfield 38, 3), (45, .invokevirtual 193, 3), (48, .aload_n 0, 1), (49, .getfield 38, 3), (52, .aload_n 0, 1), (53, .getfield 97, 3), (56, .invokevirtual 197, 3), (59, .pop, 1), (60, .aload_n 0, 1), (61, .getfield 38, 3), (64, .iload_n 3, 1), (65, .invokevirtual 186, 3), (68, .aload_n 0, 1), (69, .getfield 10, 3), (72, .aload_n 0, 1), (73, .getfield 16, 3), (76, .iload_n 2, 1), (77, .invokevirtual 119, 3), (80, .iload_n 3, 1), (81, .iconst 1, 1), (82, .invokevirtual 128, 3), (85, .return_, 1)]
def mi_M18 : mi_M := (⟨"TypeLoom$Checker", "bindLet", "(II)V"⟩, prog_2_method_9_code, 4, none, 0, 1, 2, mi_q18, [], [])
def mi_q19 : List (Nat × Instr × Nat) := [(0, .aload_n 0, 1), (1, .getfield 28, 3), (4, .iload_n 1, 1), (5, .invokevirtual 150, 3), (8, .istore_n 3, 1), (9, .aload_n 0, 1), (10, .iload_n 1, 1), (11, .aload_n 0, 1), (12, .getfield 97, 3), (15, .invokevirtual 116, 3), (18, .aload_n 0, 1), (19, .getfield 24, 3), (22, .invokevirtual 57, 3), (25, .ifCond .eq 4, 3), (28, .return_, 1), (29, .aload_n 0, 1), (30, .getfield 100, 3), (33, .ifCond .eq 29, 3), (36, .aload_n 0, 1), (37, .getfield 38, 3), (40, .iload_n 3, 1), (41, .aload_n 0, 1), (42, .getfield 100, 3), (45, .invokevirtual 153, 3), (48, .ifCond .ne 14, 3), (51, .aload_n 0, 1), (52, .bipush 8, 2), (54, .aload_n 0, 1), (55, .getfield 110, 3), (58, .invokevirtual 170, 3), (61, .return_, 1), (62, .aload_n 0, 1), (63, .getfield 100, 3), (66, .ifCond .ne 7, 3), (69, .iload_n 3, 1), (70, .goto 7, 3), (73, .aload_n 0, 1), (74, .getfield 100, 3), (77, .istore 4, 2), (79, .aload_n 0, 1), (80, .getfield 38, 3), (83, .iload 4, 2), (85, .invokevirtual 180, 3), (88, .bipush 120, 2), (90, .if_icmp .le 11, 3), (93, .aload_n 0, 1), (94, .bipush 9, 2), (96, .iload_n 2, 1), (97, .invokevirtual 170, 3), (100, .return_, 1), (101, .aload_n 0, 1), (102, .getfield 38, 3), (105, .invokevirtual 183, 3), (108, .aload_n 0, 1), (109, .getfield 38, 3), (112, .iload 4, 2), (114, .invokevirtual 186, 3), (117, .aload_n 0, 1), (118, .getfield 20, 3), (121, .aload_n 0, 1), (122, .getfield 163, 3), (125, .iload 4, 2), (127, .invokevirtual 189, 3), (130, .aload_n 0, 1), (131, .invokevirtual 48, 3), (134, .return_, 1)]
def mi_M19 : mi_M := (⟨"TypeLoom$Checker", "endDefinition", "(II)V"⟩, prog_2_method_8_code, 5, none, 0, 1, 2, mi_q19, [], [])
def mi_q20 : List (Nat × Instr × Nat) := [(0, .aload_n 0, 1), (1, .getfield 10, 3), (4, .invokevirtual 88, 3), (7, .aload_n 0, 1), (8, .iconst (-1), 1), (9, .putfield 91, 3), (12, .aload_n 0, 1), (13, .iconst 0, 1), (14, .putfield 97, 3), (17, .aload_n 0, 1), (18, .iconst 0, 1), (19, .putfield 100, 3), (22, .return_, 1)]
def mi_M20 : mi_M := (⟨"TypeLoom$Checker", "leaveDefinition", "()V"⟩, prog_2_method_3_code, 1, none, 0, 1, 0, mi_q20, [], [])
def mi_q21 : List (Nat × Instr × Nat) := [(0, .aload_n 0, 1), (1, .getfield 38, 3), (4, .aload_n 0, 1), (5, .getfield 28, 3), (8, .iload_n 1, 1), (9, .invokevirtual 150, 3), (12, .iload_n 2, 1), (13, .invokevirtual 153, 3), (16, .ifCond .ne 19, 3), (19, .aload_n 0, 1), (20, .getfield 24, 3), (23, .iconst 5, 1), (24, .aload_n 0, 1), (25, .getfield 28, 3), (28, .iload_n 1, 1), (29, .invokevirtual 157, 3), (32, .invokevirtual 147, 3), (35, .return_, 1)]
def mi_M21 : mi_M := (⟨"TypeLoom$Checker", "need", "(II)V"⟩, prog_2_method_6_code, 3, none, 0, 1, 2, mi_q21, [], [])
def mi_q22 : List (Nat × Instr × Nat) := [(0, .aload_n 0, 1), (1, .aload_n 1, 1), (2, .putfield 28, 3), (5, .aload_n 0, 1), (6, .invokevirtual 48, 3), (9, .iconst 0, 1), (10, .istore_n 2, 1), (11, .iload_n 2, 1), (12, .aload_n 1, 1), (13, .invokevirtual 51, 3), (16, .if_icmp .ge 87, 3), (19, .aload_n 0, 1), (20, .getfield 24, 3), (23, .invokevirtual 57, 3), (26, .ifCond .ne 77, 3), (29, .aload_n 1, 1), (30, .iload_n 2, 1), (31, .invokevirtual 63, 3), (34, .istore_n 3, 1), (35, .iload_n 3, 1), (36, .bipush 19, 2), (38, .if_icmp .lt 26, 3), (41, .aload_n 1, 1), (42, .iload_n 2, 1), (43, .aload_n 0, 1), (44, .iload_n 3, 1), (45, .aload_n 1, 1), (46, .iload_n 2, 1), (47, .invokevirtual 67, 3), (50, .aload_n 1, 1), (51, .iload_n 2, 1), (52, .invokevirtual 70, 3), (55, .invokevirtual 73, 3), (58, .invokevirtual 77, 3), (61, .goto 36, 3), (64, .iload_n 3, 1), (65, .bipush 10, 2), (67, .if_icmp .lt 12, 3), (70, .aload_n 0, 1), (71, .iload_n 3, 1), (72, .iload_n 2, 1), (73, .invokevirtual 81, 3), (76, .goto 21, 3), (79, .aload_n 0, 1), (80, .getfield 44, 3), (83, .iload_n 3, 1), (84, .aload_n 1, 1), (85, .iload_n 2, 1), (86, .invokevirtual 67, 3), (89, .aload_n 1, 1), (90, .iload_n 2, 1), (91, .invokevirtual 70, 3), (94, .invokevirtual 84, 3), (97, .iinc 2 1, 3), (100, .goto (-89), 3), (103, .return_, 1)]
def mi_M22 : mi_M := (⟨"TypeLoom$Checker", "run", "(LTypeLoom$Steps;)V"⟩, prog_2_method_2_code, 4, none, 0, 1, 1, mi_q22, [], [])
def mi_q23 : List (Nat × Instr × Nat) := [(0, .aload_n 0, 1), (1, .getfield 28, 3), (4, .iload_n 2, 1), (5, .invokevirtual 67, 3), (8, .istore_n 3, 1), (9, .iload_n 1, 1), (10, .tableswitch 203 10 18 #[50, 58, 77, 95, 104, 113, 139, 155, 179], 50), (60, .aload_n 0, 1), (61, .iload_n 3, 1), (62, .invokevirtual 103, 3), (65, .goto 148, 3), (68, .aload_n 0, 1), (69, .aload_n 0, 1), (70, .getfield 44, 3), (73, .invokevirtual 107, 3), (76, .putfield 100, 3), (79, .aload_n 0, 1), (80, .iload_n 3, 1), (81, .putfield 110, 3), (84, .goto 129, 3), (87, .aload_n 0, 1), (88, .iload_n 3, 1), (89, .aload_n 0, 1), (90, .getfield 28, 3), (93, .iload_n 2, 1), (94, .invokevirtual 70, 3), (97, .iconst 1, 1), (98, .iadd, 1), (99, .invokevirtual 113, 3), (102, .goto 111, 3), (105, .aload_n 0, 1), (106, .iload_n 3, 1), (107, .iconst 1, 1), (108, .invokevirtual 116, 3), (111, .goto 102, 3), (114, .aload_n 0, 1), (115, .iload_n 3, 1), (116, .iconst 2, 1), (117, .invokevirtual 116, 3), (120, .goto 93, 3), (123, .aload_n 0, 1), (124, .getfield 10, 3), (127, .aload_n 0, 1), (128, .getfield 16, 3), (131, .iload_n 3, 1), (132, .invokevirtual 119, 3), (135, .aload_n 0, 1), (136, .getfield 38, 3), (139, .invokevirtual 125, 3), (142, .iconst 0, 1), (143, .invokevirtual 128, 3), (146, .goto 67, 3), (149, .aload_n 0, 1), (150, .iload_n 3, 1), (151, .aload_n 0, 1), (152, .getfield 28, 3), (155, .iload_n 2, 1), (156, .invokevirtual 70, 3), (159, .invokevirtual 132, 3), (162, .goto 51, 3), (165, .aload_n 0, 1), (166, .iload_n 3, 1), (167, .aload_n 0, 1), (168, .getfield 28, 3), (171, .iload_n 2, 1), (172, .invokevirtual 70, 3), (175, .aload_n 0, 1), (176, .getfield 28, 3), (179, .iload_n 2, 1), (180, .invokevirtual 135, 3), (183, .invokevirtual 138, 3), (186, .goto 27, 3), (189, .aload_n 0, 1), (190, .iload_n 3, 1), (191, .aload_n 0, 1), (192, .getfield 28, 3), (195, .iload_n 2, 1), (196, .invokevirtual 70, 3), (199, .aload_n 0, 1), (200, .getfield 28, 3), (203, .iload_n 2, 1), (204, .invokevirtual 135, 3), (207, .invokevirtual 141, 3), (210, .goto 3, 3), (213, .return_, 1)]
def mi_M23 : mi_M := (⟨"TypeLoom$Checker", "takeStep", "(II)V"⟩, prog_2_method_4_code, 4, none, 0, 1, 2, mi_q23, [], [])
def mi_q24 : List (Nat × Instr × Nat) := [(0, .iload_n 1, 1), (1, .tableswitch 191 19 31 #[67, 69, 71, 77, 191, 83, 107, 114, 122, 130, 145, 167, 174], 67), (68, .iconst 1, 1), (69, .ireturn, 1), (70, .iconst 2, 1), (71, .ireturn, 1), (72, .aload_n 0, 1), (73, .iload_n 2, 1), (74, .invokevirtual 228, 3), (77, .ireturn, 1), (78, .aload_n 0, 1), (79, .iload_n 2, 1), (80, .invokevirtual 231, 3), (83, .ireturn, 1), (84, .aload_n 0, 1), (85, .getfield 38, 3), (88, .aload_n 0, 1), (89, .getfield 28, 3), (92, .iload_n 2, 1), (93, .invokevirtual 150, 3), (96, .aload_n 0, 1), (97, .getfield 28, 3), (100, .iload_n 3, 1), (101, .invokevirtual 150, 3), (104, .invokevirtual 234, 3), (107, .ireturn, 1), (108, .aload_n 0, 1), (109, .iload_n 2, 1), (110, .iload_n 3, 1), (111, .invokevirtual 237, 3), (114, .ireturn, 1), (115, .aload_n 0, 1), (116, .iload_n 3, 1), (117, .iconst 1, 1), (118, .invokevirtual 116, 3), (121, .iconst 1, 1), (122, .ireturn, 1), (123, .aload_n 0, 1), (124, .iload_n 3, 1), (125, .iconst 1, 1), (126, .invokevirtual 116, 3), (129, .iconst 2, 1), (130, .ireturn, 1), (131, .aload_n 0, 1), (132, .iload_n 3, 1), (133, .aload_n 0, 1), (134, .getfield 28, 3), (137, .iload_n 2, 1), (138, .invokevirtual 150, 3), (141, .invokevirtual 116, 3), (144, .iconst 2, 1), (145, .ireturn, 1), (146, .aload_n 0, 1), (147, .iload_n 3, 1), (148, .aload_n 0, 1), (149, .getfield 28, 3), (152, .iload_n 2, 1), (153, .invokevirtual 150, 3), (156, .invokevirtual 116, 3), (159, .aload_n 0, 1), (160, .getfield 28, 3), (163, .iload_n 2, 1), (164, .invokevirtual 150, 3), (167, .ireturn, 1), (168, .aload_n 0, 1), (169, .iload_n 2, 1), (170, .iload_n 3, 1), (171, .invokevirtual 240, 3), (174, .ireturn, 1), (175, .aload_n 0, 1), (176, .getfield 10, 3), (179, .iconst 1, 1), (180, .invokevirtual 225, 3), (183, .aload_n 0, 1), (184, .getfield 28, 3), (187, .iload_n 2, 1), (188, .invokevirtual 150, 3), (191, .ireturn, 1), (192, .aload_n 0, 1), (193, .getfield 28, 3), (196, .iload_n 2, 1), (197, .invokevirtual 150, 3), (200, .ireturn, 1)]
def mi_M24 : mi_M := (⟨"TypeLoom$Checker", "typeOfExpression", "(III)I"⟩, prog_2_method_14_code, 4, (some .int), 0, 1, 3, mi_q24, [], [])
def mi_q25 : List (Nat × Instr × Nat) := [(0, .aload_n 0, 1), (1, .getfield 28, 3), (4, .iload_n 1, 1), (5, .invokevirtual 150, 3), (8, .istore_n 3, 1), (9, .aload_n 0, 1), (10, .getfield 10, 3), (13, .invokevirtual 262, 3), (16, .istore 4, 2), (18, .iconst 0, 1), (19, .istore 5, 2), (21, .iload 5, 2), (23, .iload_n 2, 1), (24, .if_icmp .ge 30, 3), (27, .aload_n 0, 1), (28, .getfield 38, 3), (31, .aload_n 0, 1), (32, .getfield 10, 3), (35, .iload 4, 2), (37, .iload 5, 2), (39, .isub, 1), (40, .invokevirtual 246, 3), (43, .iload_n 3, 1), (44, .invokevirtual 259, 3), (47, .istore_n 3, 1), (48, .iinc 5 1, 3), (51, .goto (-30), 3), (54, .aload_n 0, 1), (55, .getfield 10, 3), (58, .iload_n 2, 1), (59, .invokevirtual 225, 3), (62, .iload_n 3, 1), (63, .ireturn, 1)]
def mi_M25 : mi_M := (⟨"TypeLoom$Checker", "typeOfFun", "(II)I"⟩, prog_2_method_18_code, 6, (some .int), 0, 1, 2, mi_q25, [], [])
def mi_q26 : List (Nat × Instr × Nat) := [(0, .aload_n 0, 1), (1, .getfield 16, 3), (4, .iload_n 1, 1), (5, .invokevirtual 119, 3), (8, .lstore_n 2, 1), (9, .aload_n 0, 1), (10, .getfield 10, 3), (13, .lload_n 2, 1), (14, .invokevirtual 243, 3), (17, .istore 4, 2), (19, .iload 4, 2), (21, .ifCond .lt 42, 3), (24, .aload_n 0, 1), (25, .getfield 10, 3), (28, .iload 4, 2), (30, .invokevirtual 246, 3), (33, .istore 5, 2), (35, .aload_n 0, 1), (36, .getfield 10, 3), (39, .iload 4, 2), (41, .invokevirtual 247, 3), (44, .ifCond .eq 16, 3), (47, .aload_n 0, 1), (48, .getfield 38, 3), (51, .iload 5, 2), (53, .iconst 0, 1), (54, .invokevirtual 216, 3), (57, .goto 5, 3), (60, .iload 5, 2), (62, .ireturn, 1), (63, .aload_n 0, 1), (64, .getfield 91, 3), (67, .iconst (-1), 1), (68, .if_icmp .eq 32, 3), (71, .lload_n 2, 1), (72, .aload_n 0, 1), (73, .getfield 163, 3), (76, .lcmp, 1), (77, .ifCond .ne 23, 3), (80, .aload_n 0, 1), (81, .getfield 20, 3), (84, .aload_n 0, 1), (85, .getfield 91, 3), (88, .aload_n 0, 1), (89, .getfield 91, 3), (92, .invokevirtual 250, 3), (95, .aload_n 0, 1), (96, .getfield 97, 3), (99, .ireturn, 1), (100, .aload_n 0, 1), (101, .getfield 20, 3), (104, .lload_n 2, 1), (105, .invokevirtual 173, 3), (108, .istore 5, 2), (110, .iload 5, 2), (112, .iconst (-1), 1), (113, .if_icmp .eq 34, 3), (116, .aload_n 0, 1), (117, .getfield 20, 3), (120, .aload_n 0, 1), (121, .getfield 91, 3), (124, .iload 5, 2), (126, .invokevirtual 250, 3), (129, .aload_n 0, 1), (130, .getfield 38, 3), (133, .aload_n 0, 1), (134, .getfield 20, 3), (137, .iload 5, 2), (139, .invokevirtual 253, 3), (142, .iconst 0, 1), (143, .invokevirtual 216, 3), (146, .ireturn, 1), (147, .aload_n 0, 1), (148, .getfield 20, 3), (151, .lload_n 2, 1), (152, .invokevirtual 256, 3), (155, .istore 6, 2), (157, .iload 6, 2), (159, .ifCond .ne 11, 3), (162, .aload_n 0, 1), (163, .iconst 2, 1), (164, .iload_n 1, 1), (165, .invokevirtual 170, 3), (168, .iconst 0, 1), (169, .ireturn, 1), (170, .aload_n 0, 1), (171, .getfield 38, 3), (174, .iload 6, 2), (176, .iconst 0, 1), (177, .invokevirtual 216, 3), (180, .ireturn, 1)]
def mi_M26 : mi_M := (⟨"TypeLoom$Checker", "typeOfName", "(I)I"⟩, prog_2_method_15_code, 7, (some .int), 0, 1, 1, mi_q26, [], [])
def mi_q27 : List (Nat × Instr × Nat) := [(0, .aload_n 0, 1), (1, .invokespecial 1, 3), (4, .aload_n 0, 1), (5, .iconst (-1), 1), (6, .putfield 7, 3), (9, .return_, 1)]
def mi_M27 : mi_M := (⟨"TypeLoom$Fault", "<init>", "()V"⟩, prog_3_method_1_code, 1, none, 1, 2, 0, mi_q27, [], [])
def mi_q28 : List (Nat × Instr × Nat) := [(0, .aload_n 0, 1), (1, .iconst 0, 1), (2, .putfield 13, 3), (5, .aload_n 0, 1), (6, .iconst (-1), 1), (7, .putfield 7, 3), (10, .return_, 1)]
def mi_M28 : mi_M := (⟨"TypeLoom$Fault", "clear", "()V"⟩, prog_3_method_2_code, 1, none, 1, 1, 0, mi_q28, [], [])
def mi_q29 : List (Nat × Instr × Nat) := [(0, .aload_n 0, 1), (1, .getfield 13, 3), (4, .ifCond .eq 7, 3), (7, .iconst 1, 1), (8, .goto 4, 3), (11, .iconst 0, 1), (12, .ireturn, 1)]
def mi_M29 : mi_M := (⟨"TypeLoom$Fault", "stands", "()Z"⟩, prog_3_method_3_code, 1, (some .boolean), 1, 1, 0, mi_q29, [], [])
def mi_q30 : List (Nat × Instr × Nat) := [(0, .aload_n 0, 1), (1, .invokespecial 1, 3), (4, .aload_n 0, 1), (5, .bipush 26, 2), (7, .newarray .int, 2), (9, .putfield 9, 3), (12, .aload_n 0, 1), (13, .iconst 3, 1), (14, .newarray .int, 2), (16, .putfield 13, 3), (19, .aload_n 0, 1), (20, .sipush 300, 3), (23, .newarray .int, 2), (25, .putfield 18, 3), (28, .aload_n 0, 1), (29, .aload_n 1, 1), (30, .putfield 21, 3), (33, .aload_n 0, 1), (34, .aload_n 2, 1), (35, .putfield 25, 3), (38, .aload_n 0, 1), (39, .aload_n 3, 1), (40, .putfield 29, 3), (43, .aload_n 0, 1), (44, .aload 4, 2), (46, .putfield 33, 3), (49, .return_, 1)]
def mi_M30 : mi_M := (⟨"TypeLoom$Forms", "<init>", "(LTypeLoom$Tokens;LTypeLoom$Types;LTypeLoom$Known;LTypeLoom$Fault;)V"⟩, prog_4_method_1_code, 5, none, 2, 2, 4, mi_q30, [], [])
def mi_q31 : List (Nat × Instr × Nat) := [(0, .aload_n 0, 1), (1, .invokevirtual 75, 3), (4, .aload_n 0, 1), (5, .iconst 0, 1), (6, .putfield 78, 3), (9, .return_, 1)]
def mi_M31 : mi_M := (⟨"TypeLoom$Forms", "beginForm", "()V"⟩, prog_4_method_3_code, 1, none, 2, 1, 0, mi_q31, [], [])
def mi_q32 : List (Nat × Instr × Nat) := [(0, .aload_n 0, 1), (1, .getfield 9, 3), (4, .iconst 0, 1), (5, .invokestatic 88, 3), (8, .aload_n 0, 1), (9, .getfield 13, 3), (12, .iconst 0, 1), (13, .invokestatic 88, 3), (16, .aload_n 0, 1), (17, .iconst 0, 1), (18, .putfield 94, 3), (21, .aload_n 0, 1), (22, .iconst 0, 1), (23, .putfield 82, 3), (26, .return_, 1)]
def mi_M32 : mi_M := (⟨"TypeLoom$Forms", "forgetMarks", "()V"⟩, prog_4_method_5_code, 1, none, 2, 1, 0, mi_q32, [], [])
def mi_q33 : List (Nat × Instr × Nat) := [(0, .aload_n 0, 1), (1, .invokevirtual 159, 3), (4, .istore_n 2, 1), (5, .iconst 0, 1), (6, .istore_n 3, 1), (7, .iload_n 3, 1), (8, .iload_n 1, 1), (9, .if_icmp .ge 29, 3), (12, .iload_n 3, 1), (13, .sipush 300, 3), (16, .if_icmp .ge 22, 3), (19, .aload_n 0, 1), (20, .getfield 25, 3), (23, .aload_n 0, 1), (24, .invokevirtual 159, 3), (27, .iload_n 2, 1), (28, .invokevirtual 162, 3), (31, .istore_n 2, 1), (32, .iinc 3 1, 3), (35, .goto (-28), 3), (38, .aload_n 0, 1), (39, .iload_n 2, 1), (40, .invokevirtual 170, 3), (43, .return_, 1)]
def mi_M33 : mi_M := (⟨"TypeLoom$Forms", "joinArrows", "(I)V"⟩, prog_4_method_17_code, 4, none, 2, 1, 1, mi_q33, [], [])
def mi_q34 : List (Nat × Instr × Nat) := [(0, .aload_n 0, 1), (1, .invokevirtual 159, 3), (4, .istore_n 1, 1), (5, .aload_n 0, 1), (6, .invokevirtual 159, 3), (9, .istore_n 2, 1), (10, .aload_n 0, 1), (11, .aload_n 0, 1), (12, .getfield 25, 3), (15, .iload_n 2, 1), (16, .iload_n 1, 1), (17, .invokevirtual 176, 3), (20, .invokevirtual 170, 3), (23, .return_, 1)]
def mi_M34 : mi_M := (⟨"TypeLoom$Forms", "joinPair", "()V"⟩, prog_4_method_16_code, 3, none, 2, 1, 0, mi_q34, [], [])
def mi_q35 : List (Nat × Instr × Nat) := [(0, .aload_n 0, 1), (1, .getfield 21, 3), (4, .iload_n 1, 1), (5, .invokevirtual 103, 3), (8, .ldc2_w 111, 3), (11, .lsub, 1), (12, .ldc2_w 113, 3), (15, .invokestatic 115, 3), (18, .l2i, 1), (19, .ireturn, 1)]
def mi_M35 : mi_M := (⟨"TypeLoom$Forms", "letterOf", "(I)I"⟩, prog_4_method_8_code, 2, (some .int), 2, 1, 1, mi_q35, [], [])
def mi_q36 : List (Nat × Instr × Nat) := [(0, .aload_n 0, 1), (1, .getfield 82, 3), (4, .aload_n 0, 1), (5, .getfield 18, 3), (8, .arraylength, 1), (9, .if_icmp .ge 23, 3), (12, .aload_n 0, 1), (13, .getfield 18, 3), (16, .aload_n 0, 1), (17, .getfield 82, 3), (20, .iload_n 1, 1), (21, .iastore, 1), (22, .aload_n 0, 1), (23, .dup, 1), (24, .getfield 82, 3), (27, .iconst 1, 1), (28, .iadd, 1), (29, .putfield 82, 3), (32, .return_, 1)]
def mi_M36 : mi_M := (⟨"TypeLoom$Forms", "putValue", "(I)V"⟩, prog_4_method_9_code, 2, none, 2, 1, 1, mi_q36, [], [])
def mi_q37 : List (Nat × Instr × Nat) := [(0, .iload_n 1, 1), (1, .tableswitch 161 0 9 #[55, 63, 71, 79, 98, 106, 114, 137, 146, 153], 55), (56, .aload_n 0, 1), (57, .iload_n 2, 1), (58, .invokevirtual 37, 3), (61, .goto 101, 3), (64, .aload_n 0, 1), (65, .iload_n 2, 1), (66, .invokevirtual 41, 3), (69, .goto 93, 3), (72, .aload_n 0, 1), (73, .iload_n 2, 1), (74, .invokevirtual 44, 3), (77, .goto 85, 3), (80, .aload_n 0, 1), (81, .iload_n 3, 1), (82, .iconst 3, 1), (83, .if_icmp .lt 7, 3), (86, .iconst 1, 1), (87, .goto 4, 3), (90, .iconst 0, 1), (91, .iconst 4, 1), (92, .iload_n 2, 1), (93, .invokevirtual 49, 3), (96, .goto 66, 3), (99, .aload_n 0, 1), (100, .iload_n 2, 1), (101, .invokevirtual 53, 3), (104, .goto 58, 3), (107, .aload_n 0, 1), (108, .iload_n 2, 1), (109, .invokevirtual 56, 3), (112, .goto 50, 3), (115, .aload_n 0, 1), (116, .aload_n 0, 1), (117, .iload_n 2, 1), (118, .invokevirtual 59, 3), (121, .iconst (-1), 1), (122, .if_icmp .ne 7, 3), (125, .iconst 1, 1), (126, .goto 4, 3), (129, .iconst 0, 1), (130, .iconst 2, 1), (131, .iload_n 2, 1), (132, .invokevirtual 49, 3), (135, .goto 27, 3), (138, .aload_n 0, 1), (139, .iload_n 2, 1), (140, .iload_n 3, 1), (141, .invokevirtual 65, 3), (144, .goto 18, 3), (147, .aload_n 0, 1), (148, .invokevirtual 69, 3), (151, .goto 11, 3), (154, .aload_n 0, 1), (155, .iload_n 2, 1), (156, .invokevirtual 72, 3), (159, .goto 3, 3), (162, .return_, 1)]
def mi_M37 : mi_M := (⟨"TypeLoom$Forms", "take", "(III)V"⟩, prog_4_method_2_code, 4, none, 2, 1, 3, mi_q37, [], [])
def mi_q38 : List (Nat × Instr × Nat) := [(0, .aload_n 0, 1), (1, .getfield 82, 3), (4, .ifCond .gt 5, 3), (7, .iconst 0, 1), (8, .ireturn, 1), (9, .aload_n 0, 1), (10, .dup, 1), (11, .getfield 82, 3), (14, .iconst 1, 1), (15, .isub, 1), (16, .putfield 82, 3), (19, .aload_n 0, 1), (20, .getfield 18, 3), (23, .aload_n 0, 1), (24, .getfield 82, 3), (27, .iaload, 1), (28, .ireturn, 1)]
def mi_M38 : mi_M := (⟨"TypeLoom$Forms", "takeValue", "()I"⟩, prog_4_method_4_code, 1, (some .int), 2, 1, 0, mi_q38, [], [])
def mi_q39 : List (Nat × Instr × Nat) := [(0, .iload_n 1, 1), (1, .ifCond .eq 19, 3), (4, .aload_n 0, 1), (5, .getfield 33, 3), (8, .iload_n 2, 1), (9, .aload_n 0, 1), (10, .getfield 21, 3), (13, .iload_n 3, 1), (14, .invokevirtual 97, 3), (17, .invokevirtual 100, 3), (20, .return_, 1)]
def mi_M39 : mi_M := (⟨"TypeLoom$Forms", "tellIf", "(ZII)V"⟩, prog_4_method_6_code, 4, none, 2, 1, 3, mi_q39, [], [])
def mi_q40 : List (Nat × Instr × Nat) := [(0, .aload_n 0, 1), (1, .getfield 29, 3), (4, .aload_n 0, 1), (5, .getfield 21, 3), (8, .iload_n 1, 1), (9, .invokevirtual 103, 3), (12, .invokevirtual 107, 3), (15, .ireturn, 1)]
def mi_M40 : mi_M := (⟨"TypeLoom$Forms", "typeNamed", "(I)I"⟩, prog_4_method_7_code, 2, (some .int), 2, 1, 1, mi_q40, [], [])
def mi_q41 : List (Nat × Instr × Nat) := [(0, .aload_n 0, 1), (1, .iload_n 1, 1), (2, .invokevirtual 129, 3), (5, .istore_n 2, 1), (6, .aload_n 0, 1), (7, .getfield 9, 3), (10, .iload_n 2, 1), (11, .iaload, 1), (12, .ifCond .ne 26, 3), (15, .aload_n 0, 1), (16, .aload_n 0, 1), (17, .getfield 78, 3), (20, .iconst 2, 1), (21, .iload_n 1, 1), (22, .invokevirtual 49, 3), (25, .aload_n 0, 1), (26, .getfield 9, 3), (29, .iload_n 2, 1), (30, .aload_n 0, 1), (31, .getfield 25, 3), (34, .invokevirtual 135, 3), (37, .iastore, 1), (38, .aload_n 0, 1), (39, .aload_n 0, 1), (40, .getfield 9, 3), (43, .iload_n 2, 1), (44, .iaload, 1), (45, .invokevirtual 170, 3), (48, .return_, 1)]
def mi_M41 : mi_M := (⟨"TypeLoom$Forms", "useMark", "(I)V"⟩, prog_4_method_14_code, 3, none, 2, 1, 1, mi_q41, [], [])
def mi_q42 : List (Nat × Instr × Nat) := [(0, .aload_n 0, 1), (1, .iload_n 1, 1), (2, .invokevirtual 59, 3), (5, .istore_n 3, 1), (6, .iload_n 2, 1), (7, .aload_n 0, 1), (8, .getfield 29, 3), (11, .iload_n 3, 1), (12, .invokevirtual 173, 3), (15, .if_icmp .eq 21, 3), (18, .aload_n 0, 1), (19, .getfield 33, 3), (22, .bipush 6, 2), (24, .aload_n 0, 1), (25, .getfield 21, 3), (28, .iload_n 1, 1), (29, .invokevirtual 97, 3), (32, .invokevirtual 100, 3), (35, .return_, 1), (36, .iload_n 3, 1), (37, .iconst 2, 1), (38, .if_icmp .ge 17, 3), (41, .aload_n 0, 1), (42, .iload_n 3, 1), (43, .ifCond .ne 7, 3), (46, .iconst 1, 1), (47, .goto 4, 3), (50, .iconst 2, 1), (51, .invokevirtual 170, 3), (54, .return_, 1), (55, .iload_n 2, 1), (56, .iconst 2, 1), (57, .if_icmp .le 10, 3), (60, .aload_n 0, 1), (61, .invokevirtual 159, 3), (64, .goto 4, 3), (67, .iconst 0, 1), (68, .istore 4, 2), (70, .iload_n 2, 1), (71, .iconst 1, 1), (72, .if_icmp .le 10, 3), (75, .aload_n 0, 1), (76, .invokevirtual 159, 3), (79, .goto 4, 3), (82, .iconst 0, 1), (83, .istore 5, 2), (85, .iload_n 2, 1), (86, .ifCond .le 10, 3), (89, .aload_n 0, 1), (90, .invokevirtual 159, 3), (93, .goto 4, 3), (96, .iconst 0, 1), (97, .istore 6, 2), (99, .aload_n 0, 1), (100, .aload_n 0, 1), (101, .getfield 25, 3), (104, .bipush 7, 2), (106, .iload_n 3, 1), (107, .iadd, 1), (108, .iload 6, 2), (110, .iload 5, 2), (112, .iload 4, 2), (114, .invokevirtual 155, 3), (117, .invokevirtual 170, 3), (120, .return_, 1)]
def mi_M42 : mi_M := (⟨"TypeLoom$Forms", "useName", "(II)V"⟩, prog_4_method_15_code, 7, none, 2, 1, 2, mi_q42, [], [])
def mi_q43 : List (Nat × Instr × Nat) := [(0, .aload_n 0, 1), (1, .invokespecial 1, 3), (4, .aload_n 0, 1), (5, .bipush 9, 2), (7, .newarray .long, 2), (9, .putfield 9, 3), (12, .aload_n 0, 1), (13, .bipush 9, 2), (15, .newarray .int, 2), (17, .putfield 13, 3), (20, .aload_n 0, 1), (21, .bipush 26, 2), (23, .newarray .long, 2), (25, .putfield 17, 3), (28, .aload_n 0, 1), (29, .bipush 26, 2), (31, .newarray .int, 2), (33, .putfield 20, 3), (36, .aload_n 0, 1), (37, .bipush 26, 2), (39, .newarray .int, 2), (41, .putfield 23, 3), (44, .aload_n 0, 1), (45, .bipush 24, 2), (47, .newarray .long, 2), (49, .putfield 26, 3), (52, .aload_n 0, 1), (53, .bipush 24, 2), (55, .newarray .int, 2), (57, .putfield 29, 3), (60, .aload_n 0, 1), (61, .sipush 576, 3), (64, .newarray .int, 2), (66, .putfield 32, 3), (69, .aload_n 0, 1), (70, .aload_n 1, 1), (71, .putfield 35, 3), (74, .aload_n 0, 1), (75, .getfield 9, 3), (78, .iconst 0, 1), (79, .ldc 39, 2), (81, .invokestatic 41, 3), (84, .lastore, 1), (85, .aload_n 0, 1), (86, .getfield 9, 3), (89, .iconst 1, 1), (90, .ldc 45, 2), (92, .invokestatic 41, 3), (95, .lastore, 1), (96, .aload_n 0, 1), (97, .getfield 9, 3), (100, .iconst 2, 1), (101, .ldc 47, 2), (103, .invokestatic 41, 3), (106, .lastore, 1), (107, .aload_n 0, 1), (108, .getfield 13, 3), (111, .iconst 2, 1), (112, .iconst 1, 1), (113, .iastore, 1), (114, .aload_n 1, 1), (115, .invokevirtual 49, 3), (118, .istore_n 2, 1), (119, .aload_n 1, 1), (120, .bipush 9, 2), (122, .iload_n 2, 1), (123, .iconst 0, 1), (124, .iconst 0, 1), (125, .invokevirtual 55, 3), (128, .istore_n 3, 1), (129, .aload_n 0, 1), (130, .getfield 17, 3), (133, .iconst 0, 1), (134, .ldc 59, 2), (136, .invokestatic 41, 3), (139, .lastore, 1), (140, .aload_n 0, 1), (141, .getfield 20, 3), (144, .iconst 0, 1), (145, .iload_n 3, 1), (146, .iastore, 1), (147, .aload_n 0, 1), (148, .getfield 17, 3), (151, .iconst 1, 1), (152, .ldc 61, 2), (154, .invokestatic 41, 3), (157, .lastore, 1), (158, .aload_n 0, 1), (159, .getfield 20, 3), (162, .iconst 1, 1), (163, .aload_n 1, 1), (164, .iload_n 2, 1), (165, .aload_n 1, 1), (166, .iload_n 3, 1), (167, .iload_n 3, 1), (168, .invokevirtual 63, 3), (171, .invokevirtual 63, 3), (174, .iastore, 1), (175, .aload_n 0, 1), (176, .getfield 23, 3), (179, .iconst 1, 1), (180, .iconst 2, 1), (181, .iastore, 1), (182, .aload_n 1, 1), (183, .invokevirtual 49, 3), (186, .istore 4, 2), (188, .aload_n 1, 1), (189, .invokevirtual 49, 3), (192, .istore 5, 2), (194, .aload_n 0, 1), (195, .aload_n 1, 1), (196, .aload_n 1, 1), (197, .iload 4, 2), (199, .iload 5, 2), (201, .invokevirtual 67, 3), (204, .iload 4, 2), (206, .invokevirtual 63, 3), (209, .putfield 70, 3), (212, .aload_n 0, 1), (213, .aload_n 1, 1), (214, .aload_n 1, 1), (215, .iload 4, 2), (217, .iload 5, 2), (219, .invokevirtual 67, 3), (222, .iload 5, 2), (224, .invokevirtual 63, 3), (227, .putfield 74, 3), (230, .aload_n 1, 1), (231, .invokevirtual 77, 3), (234, .aload_n 0, 1), (235, .aload_n 1, 1), (236, .invokevirtual 80, 3), (239, .putfield 83, 3), (242, .aload_n 0, 1), (243, .iconst 3, 1), (244, .putfield 86, 3), (247, .aload_n 0, 1), (248, .iconst 2, 1), (249, .putfield 89, 3), (252, .return_, 1)]
def mi_M43 : mi_M := (⟨"TypeLoom$Known", "<init>", "(LTypeLoom$Types;)V"⟩, prog_5_method_1_code, 6, none, 3, 2, 1, mi_q43, [], [])
def mi_q44 : List (Nat × Instr × Nat) := [(0, .aload_n 0, 1), (1, .invokevirtual 132, 3), (4, .ifCond .ne 33, 3), (7, .aload_n 0, 1), (8, .getfield 26, 3), (11, .aload_n 0, 1), (12, .getfield 105, 3), (15, .lload_n 1, 1), (16, .lastore, 1), (17, .aload_n 0, 1), (18, .getfield 29, 3), (21, .aload_n 0, 1), (22, .getfield 105, 3), (25, .iload_n 3, 1), (26, .iastore, 1), (27, .aload_n 0, 1), (28, .dup, 1), (29, .getfield 105, 3), (32, .iconst 1, 1), (33, .iadd, 1), (34, .putfield 105, 3), (37, .return_, 1)]
def mi_M44 : mi_M := (⟨"TypeLoom$Known", "addDefinition", "(JI)V"⟩, prog_5_method_24_code, 4, none, 3, 1, 2, mi_q44, [], [])
def mi_q45 : List (Nat × Instr × Nat) := [(0, .iload_n 1, 1), (1, .ifCond .lt 34, 3), (4, .iload_n 1, 1), (5, .bipush 24, 2), (7, .if_icmp .ge 28, 3), (10, .iload_n 2, 1), (11, .ifCond .lt 24, 3), (14, .iload_n 2, 1), (15, .bipush 24, 2), (17, .if_icmp .ge 18, 3), (20, .aload_n 0, 1), (21, .getfield 32, 3), (24, .iload_n 1, 1), (25, .bipush 24, 2), (27, .imul, 1), (28, .iload_n 2, 1), (29, .iadd, 1), (30, .dup2, 1), (31, .iaload, 1), (32, .iconst 1, 1), (33, .iadd, 1), (34, .iastore, 1), (35, .return_, 1)]
def mi_M45 : mi_M := (⟨"TypeLoom$Known", "addUse", "(II)V"⟩, prog_5_method_28_code, 3, none, 3, 1, 2, mi_q45, [], [])
def mi_q46 : List (Nat × Instr × Nat) := [(0, .aload_n 0, 1), (1, .getfield 26, 3), (4, .aload_n 0, 1), (5, .getfield 105, 3), (8, .lload_n 1, 1), (9, .invokestatic 114, 3), (12, .ireturn, 1)]
def mi_M46 : mi_M := (⟨"TypeLoom$Known", "definitionNumber", "(J)I"⟩, prog_5_method_12_code, 3, (some .int), 3, 1, 1, mi_q46, [], [])
def mi_q47 : List (Nat × Instr × Nat) := [(0, .aload_n 0, 1), (1, .getfield 105, 3), (4, .ireturn, 1)]
def mi_M47 : mi_M := (⟨"TypeLoom$Known", "definitions", "()I"⟩, prog_5_method_6_code, 1, (some .int), 3, 1, 0, mi_q47, [], [])
def mi_q48 : List (Nat × Instr × Nat) := [(0, .aload_n 0, 1), (1, .getfield 105, 3), (4, .bipush 24, 2), (6, .if_icmp .lt 7, 3), (9, .iconst 1, 1), (10, .goto 4, 3), (13, .iconst 0, 1), (14, .ireturn, 1)]
def mi_M48 : mi_M := (⟨"TypeLoom$Known", "definitionsFull", "()Z"⟩, prog_5_method_9_code, 1, (some .boolean), 3, 1, 0, mi_q48, [], [])
def mi_q49 : List (Nat × Instr × Nat) := [(0, .aload_n 0, 1), (1, .getfield 35, 3), (4, .aload_n 0, 1), (5, .getfield 83, 3), (8, .invokevirtual 101, 3), (11, .aload_n 0, 1), (12, .iconst 3, 1), (13, .putfield 86, 3), (16, .aload_n 0, 1), (17, .iconst 2, 1), (18, .putfield 89, 3), (21, .aload_n 0, 1), (22, .iconst 0, 1), (23, .putfield 105, 3), (26, .aload_n 0, 1), (27, .getfield 32, 3), (30, .iconst 0, 1), (31, .invokestatic 108, 3), (34, .return_, 1)]
def mi_M49 : mi_M := (⟨"TypeLoom$Known", "forgetItems", "()V"⟩, prog_5_method_3_code, 1, none, 3, 1, 0, mi_q49, [], [])
def mi_q50 : List (Nat × Instr × Nat) := [(0, .iload_n 1, 1), (1, .ifCond .lt 15, 3), (4, .iload_n 1, 1), (5, .aload_n 0, 1), (6, .getfield 105, 3), (9, .if_icmp .ge 7, 3), (12, .iconst 1, 1), (13, .goto 4, 3), (16, .iconst 0, 1), (17, .ireturn, 1)]
def mi_M50 : mi_M := (⟨"TypeLoom$Known", "hasDefinition", "(I)Z"⟩, prog_5_method_25_code, 2, (some .boolean), 3, 1, 1, mi_q50, [], [])
def mi_q51 : List (Nat × Instr × Nat) := [(0, .lconst 0, 1), (1, .lstore_n 1, 1), (2, .iconst 0, 1), (3, .istore_n 3, 1), (4, .iload_n 3, 1), (5, .aload_n 0, 1), (6, .invokevirtual 92, 3), (9, .if_icmp .ge 21, 3), (12, .lload_n 1, 1), (13, .bipush 8, 2), (15, .lshl, 1), (16, .aload_n 0, 1), (17, .iload_n 3, 1), (18, .invokevirtual 97, 3), (21, .i2l, 1), (22, .lor, 1), (23, .lstore_n 1, 1), (24, .iinc 3 1, 3), (27, .goto (-23), 3), (30, .lload_n 1, 1), (31, .lreturn, 1)]
def mi_M51 : mi_M := (⟨"TypeLoom$Known", "keyOf", "(Ljava/lang/String;)J"⟩, prog_5_method_2_code, 4, (some .long), 3, 0, 1, mi_q51, [], [])
def mi_q52 : List (Nat × Instr × Nat) := [(0, .iload_n 1, 1), (1, .ifCond .lt 20, 3), (4, .iload_n 1, 1), (5, .aload_n 0, 1), (6, .getfield 86, 3), (9, .if_icmp .ge 12, 3), (12, .aload_n 0, 1), (13, .getfield 9, 3), (16, .iload_n 1, 1), (17, .laload, 1), (18, .goto 4, 3), (21, .lconst 0, 1), (22, .lreturn, 1)]
def mi_M52 : mi_M := (⟨"TypeLoom$Known", "keyOfType", "(I)J"⟩, prog_5_method_18_code, 2, (some .long), 3, 1, 1, mi_q52, [], [])
def mi_q53 : List (Nat × Instr × Nat) := [(0, .iload_n 1, 1), (1, .ifCond .lt 20, 3), (4, .iload_n 1, 1), (5, .aload_n 0, 1), (6, .getfield 86, 3), (9, .if_icmp .ge 12, 3), (12, .aload_n 0, 1), (13, .getfield 13, 3), (16, .iload_n 1, 1), (17, .iaload, 1), (18, .goto 4, 3), (21, .iconst 0, 1), (22, .ireturn, 1)]
def mi_M53 : mi_M := (⟨"TypeLoom$Known", "marksOfType", "(I)I"⟩, prog_5_method_17_code, 2, (some .int), 3, 1, 1, mi_q53, [], [])
def mi_q54 : List (Nat × Instr × Nat) := [(0, .iconst 0, 1), (1, .istore 4, 2), (3, .iload 4, 2), (5, .iload_n 1, 1), (6, .if_icmp .ge 28, 3), (9, .iload 4, 2), (11, .aload_n 0, 1), (12, .arraylength, 1), (13, .if_icmp .ge 21, 3), (16, .aload_n 0, 1), (17, .iload 4, 2), (19, .laload, 1), (20, .lload_n 2, 1), (21, .lcmp, 1), (22, .ifCond .ne 6, 3), (25, .iload 4, 2), (27, .ireturn, 1), (28, .iinc 4 1, 3), (31, .goto (-28), 3), (34, .iconst (-1), 1), (35, .ireturn, 1)]
def mi_M54 : mi_M := (⟨"TypeLoom$Known", "placeOf", "([JIJ)I"⟩, prog_5_method_13_code, 5, (some .int), 3, 0, 3, mi_q54, [], [])
def mi_q55 : List (Nat × Instr × Nat) := [(0, .aload_n 0, 1), (1, .iload_n 1, 1), (2, .invokevirtual 135, 3), (5, .ifCond .eq 25, 3), (8, .aload_n 0, 1), (9, .iload_n 2, 1), (10, .invokevirtual 135, 3), (13, .ifCond .eq 17, 3), (16, .aload_n 0, 1), (17, .getfield 32, 3), (20, .iload_n 1, 1), (21, .bipush 24, 2), (23, .imul, 1), (24, .iload_n 2, 1), (25, .iadd, 1), (26, .iaload, 1), (27, .goto 4, 3), (30, .iconst 0, 1), (31, .ireturn, 1)]
def mi_M55 : mi_M := (⟨"TypeLoom$Known", "timesUsed", "(II)I"⟩, prog_5_method_29_code, 3, (some .int), 3, 1, 2, mi_q55, [], [])
def mi_q56 : List (Nat × Instr × Nat) := [(0, .aload_n 0, 1), (1, .getfield 9, 3), (4, .aload_n 0, 1), (5, .getfield 86, 3), (8, .lload_n 1, 1), (9, .invokestatic 114, 3), (12, .ireturn, 1)]
def mi_M56 : mi_M := (⟨"TypeLoom$Known", "typeNumber", "(J)I"⟩, prog_5_method_10_code, 3, (some .int), 3, 1, 1, mi_q56, [], [])
def mi_q57 : List (Nat × Instr × Nat) := [(0, .aload_n 0, 1), (1, .iload_n 1, 1), (2, .invokevirtual 135, 3), (5, .ifCond .eq 12, 3), (8, .aload_n 0, 1), (9, .getfield 29, 3), (12, .iload_n 1, 1), (13, .iaload, 1), (14, .goto 4, 3), (17, .iconst 0, 1), (18, .ireturn, 1)]
def mi_M57 : mi_M := (⟨"TypeLoom$Known", "typeOfDefinition", "(I)I"⟩, prog_5_method_26_code, 2, (some .int), 3, 1, 1, mi_q57, [], [])
def mi_q58 : List (Nat × Instr × Nat) := [(0, .aload_n 0, 1), (1, .invokespecial 1, 3), (4, .aload_n 0, 1), (5, .aload_n 1, 1), (6, .putfield 7, 3), (9, .aload_n 0, 1), (10, .aload_n 2, 1), (11, .putfield 13, 3), (14, .aload_n 0, 1), (15, .aload_n 3, 1), (16, .putfield 17, 3), (19, .return_, 1)]
def mi_M58 : mi_M := (⟨"TypeLoom$Parser", "<init>", "(LTypeLoom$Tokens;LTypeLoom$Fault;LTypeLoom$Steps;)V"⟩, prog_6_method_1_code, 4, none, 4, 2, 3, mi_q58, [], [])
def mi_q59 : List (Nat × Instr × Nat) := [(0, .aload_n 0, 1), (1, .getfield 17, 3), (4, .iload_n 1, 1), (5, .iload_n 2, 1), (6, .iload_n 3, 1), (7, .iload 4, 2), (9, .invokevirtual 70, 3), (12, .ireturn, 1)]
def mi_M59 : mi_M := (⟨"TypeLoom$Parser", "add", "(IIII)I"⟩, prog_6_method_8_code, 5, (some .int), 4, 1, 4, mi_q59, [], [])
def mi_q60 : List (Nat × Instr × Nat) := [(0, .aload_n 0, 1), (1, .iload_n 1, 1), (2, .iload_n 2, 1), (3, .iload_n 3, 1), (4, .iconst 0, 1), (5, .invokevirtual 74, 3), (8, .istore 5, 2), (10, .aload_n 0, 1), (11, .getfield 17, 3), (14, .iload 5, 2), (16, .aload_n 0, 1), (17, .getfield 7, 3), (20, .iload 4, 2), (22, .invokevirtual 60, 3), (25, .aload_n 0, 1), (26, .getfield 7, 3), (29, .aload_n 0, 1), (30, .getfield 53, 3), (33, .iconst 1, 1), (34, .isub, 1), (35, .invokevirtual 75, 3), (38, .invokevirtual 78, 3), (41, .iload 5, 2), (43, .ireturn, 1)]
def mi_M60 : mi_M := (⟨"TypeLoom$Parser", "addExpression", "(IIII)I"⟩, prog_6_method_9_code, 6, (some .int), 4, 1, 4, mi_q60, [], [])
def mi_q61 : List (Nat × Instr × Nat) := [(0, .aload_n 0, 1), (1, .getfield 53, 3), (4, .istore_n 2, 1), (5, .aload_n 0, 1), (6, .invokevirtual 36, 3), (9, .lookupswitch 97 #[(11, 83), (12, 83), (13, 67), (14, 75), (16, 59), (40, 91)], 59), (68, .aload_n 0, 1), (69, .bipush 19, 2), (71, .iload_n 2, 1), (72, .invokevirtual 148, 3), (75, .ireturn, 1), (76, .aload_n 0, 1), (77, .bipush 21, 2), (79, .iload_n 2, 1), (80, .invokevirtual 148, 3), (83, .ireturn, 1), (84, .aload_n 0, 1), (85, .bipush 22, 2), (87, .iload_n 2, 1), (88, .invokevirtual 148, 3), (91, .ireturn, 1), (92, .aload_n 0, 1), (93, .bipush 20, 2), (95, .iload_n 2, 1), (96, .invokevirtual 148, 3), (99, .ireturn, 1), (100, .aload_n 0, 1), (101, .iload_n 1, 1), (102, .invokevirtual 152, 3), (105, .ireturn, 1), (106, .aload_n 0, 1), (107, .invokevirtual 67, 3), (110, .iconst (-1), 1), (111, .ireturn, 1)]
def mi_M61 : mi_M := (⟨"TypeLoom$Parser", "atom", "(I)I"⟩, prog_6_method_30_code, 3, (some .int), 4, 1, 1, mi_q61, [], [])
def mi_q62 : List (Nat × Instr × Nat) := [(0, .aload_n 0, 1), (1, .getfield 53, 3), (4, .istore_n 2, 1), (5, .aload_n 0, 1), (6, .bipush 40, 2), (8, .invokevirtual 40, 3), (11, .aload_n 0, 1), (12, .iload_n 1, 1), (13, .iconst 1, 1), (14, .iadd, 1), (15, .invokevirtual 44, 3), (18, .istore_n 3, 1), (19, .aload_n 0, 1), (20, .invokevirtual 36, 3), (23, .bipush 44, 2), (25, .if_icmp .ne 35, 3), (28, .aload_n 0, 1), (29, .bipush 44, 2), (31, .invokevirtual 40, 3), (34, .aload_n 0, 1), (35, .iload_n 1, 1), (36, .iconst 1, 1), (37, .iadd, 1), (38, .invokevirtual 44, 3), (41, .istore 4, 2), (43, .aload_n 0, 1), (44, .bipush 41, 2), (46, .invokevirtual 40, 3), (49, .aload_n 0, 1), (50, .bipush 24, 2), (52, .iload_n 3, 1), (53, .iload 4, 2), (55, .iload_n 2, 1), (56, .invokevirtual 121, 3), (59, .ireturn, 1), (60, .aload_n 0, 1), (61, .bipush 41, 2), (63, .invokevirtual 40, 3), (66, .aload_n 0, 1), (67, .bipush 23, 2), (69, .iload_n 3, 1), (70, .iconst 0, 1), (71, .iload_n 2, 1), (72, .invokevirtual 121, 3), (75, .ireturn, 1)]
def mi_M62 : mi_M := (⟨"TypeLoom$Parser", "bracket", "(I)I"⟩, prog_6_method_32_code, 5, (some .int), 4, 1, 1, mi_q62, [], [])
def mi_q63 : List (Nat × Instr × Nat) := [(0, .aload_n 0, 1), (1, .getfield 53, 3), (4, .istore_n 2, 1), (5, .aload_n 0, 1), (6, .iload_n 1, 1), (7, .invokevirtual 142, 3), (10, .istore_n 3, 1), (11, .iconst 0, 1), (12, .istore 4, 2), (14, .iload 4, 2), (16, .sipush 300, 3), (19, .if_icmp .ge 34, 3), (22, .aload_n 0, 1), (23, .invokevirtual 145, 3), (26, .ifCond .eq 27, 3), (29, .aload_n 0, 1), (30, .iload_n 1, 1), (31, .invokevirtual 142, 3), (34, .istore 5, 2), (36, .aload_n 0, 1), (37, .bipush 25, 2), (39, .iload_n 3, 1), (40, .iload 5, 2), (42, .iload_n 2, 1), (43, .invokevirtual 121, 3), (46, .istore_n 3, 1), (47, .iinc 4 1, 3), (50, .goto (-36), 3), (53, .iload_n 3, 1), (54, .ireturn, 1)]
def mi_M63 : mi_M := (⟨"TypeLoom$Parser", "call", "(I)I"⟩, prog_6_method_28_code, 6, (some .int), 4, 1, 1, mi_q63, [], [])
def mi_q64 : List (Nat × Instr × Nat) := [(0, .aload_n 0, 1), (1, .getfield 53, 3), (4, .istore_n 1, 1), (5, .aload_n 0, 1), (6, .bipush 10, 2), (8, .iload_n 1, 1), (9, .iconst 0, 1), (10, .iconst 0, 1), (11, .invokevirtual 74, 3), (14, .pop, 1), (15, .aload_n 0, 1), (16, .iconst 1, 1), (17, .invokevirtual 40, 3), (20, .aload_n 0, 1), (21, .bipush 13, 2), (23, .invokevirtual 40, 3), (26, .aload_n 0, 1), (27, .invokevirtual 36, 3), (30, .bipush 58, 2), (32, .if_icmp .ne 29, 3), (35, .aload_n 0, 1), (36, .bipush 58, 2), (38, .invokevirtual 40, 3), (41, .aload_n 0, 1), (42, .getfield 53, 3), (45, .istore_n 2, 1), (46, .aload_n 0, 1), (47, .iconst 0, 1), (48, .invokevirtual 97, 3), (51, .aload_n 0, 1), (52, .bipush 11, 2), (54, .iload_n 2, 1), (55, .iconst 0, 1), (56, .iconst 0, 1), (57, .invokevirtual 74, 3), (60, .pop, 1), (61, .aload_n 0, 1), (62, .bipush 61, 2), (64, .invokevirtual 40, 3), (67, .aload_n 0, 1), (68, .iconst 0, 1), (69, .invokevirtual 44, 3), (72, .istore_n 2, 1), (73, .aload_n 0, 1), (74, .bipush 59, 2), (76, .invokevirtual 40, 3), (79, .aload_n 0, 1), (80, .bipush 12, 2), (82, .iload_n 2, 1), (83, .iload_n 1, 1), (84, .iconst 0, 1), (85, .invokevirtual 74, 3), (88, .pop, 1), (89, .return_, 1)]
def mi_M64 : mi_M := (⟨"TypeLoom$Parser", "definition", "()V"⟩, prog_6_method_13_code, 3, none, 4, 1, 0, mi_q64, [], [])
def mi_q65 : List (Nat × Instr × Nat) := [(0, .iload_n 1, 1), (1, .bipush 12, 2), (3, .if_icmp .le 9, 3), (6, .aload_n 0, 1), (7, .invokevirtual 67, 3), (10, .iconst (-1), 1), (11, .ireturn, 1), (12, .aload_n 0, 1), (13, .invokevirtual 36, 3), (16, .tableswitch 68 2 8 #[44, 68, 50, 56, 68, 68, 62], 44), (60, .aload_n 0, 1), (61, .iload_n 1, 1), (62, .invokevirtual 106, 3), (65, .ireturn, 1), (66, .aload_n 0, 1), (67, .iload_n 1, 1), (68, .invokevirtual 109, 3), (71, .ireturn, 1), (72, .aload_n 0, 1), (73, .iload_n 1, 1), (74, .invokevirtual 112, 3), (77, .ireturn, 1), (78, .aload_n 0, 1), (79, .iload_n 1, 1), (80, .invokevirtual 115, 3), (83, .ireturn, 1), (84, .aload_n 0, 1), (85, .iload_n 1, 1), (86, .invokevirtual 118, 3), (89, .ireturn, 1)]
def mi_M65 : mi_M := (⟨"TypeLoom$Parser", "expression", "(I)I"⟩, prog_6_method_19_code, 2, (some .int), 4, 1, 1, mi_q65, [], [])
def mi_q66 : List (Nat × Instr × Nat) := [(0, .iload_n 1, 1), (1, .bipush 12, 2), (3, .if_icmp .le 8, 3), (6, .aload_n 0, 1), (7, .invokevirtual 67, 3), (10, .return_, 1), (11, .aload_n 0, 1), (12, .iload_n 1, 1), (13, .invokevirtual 100, 3), (16, .iconst 0, 1), (17, .istore_n 2, 1), (18, .iload_n 2, 1), (19, .sipush 300, 3), (22, .if_icmp .ge 29, 3), (25, .aload_n 0, 1), (26, .invokevirtual 36, 3), (29, .bipush 17, 2), (31, .if_icmp .ne 20, 3), (34, .aload_n 0, 1), (35, .bipush 17, 2), (37, .invokevirtual 40, 3), (40, .aload_n 0, 1), (41, .iload_n 1, 1), (42, .invokevirtual 100, 3), (45, .iinc 2 1, 3), (48, .goto (-30), 3), (51, .aload_n 0, 1), (52, .bipush 9, 2), (54, .iload_n 2, 1), (55, .iconst 0, 1), (56, .iconst 0, 1), (57, .invokevirtual 74, 3), (60, .pop, 1), (61, .return_, 1)]
def mi_M66 : mi_M := (⟨"TypeLoom$Parser", "form", "(I)V"⟩, prog_6_method_14_code, 3, none, 4, 1, 1, mi_q66, [], [])
def mi_q67 : List (Nat × Instr × Nat) := [(0, .aload_n 0, 1), (1, .iload_n 1, 1), (2, .invokevirtual 103, 3), (5, .aload_n 0, 1), (6, .invokevirtual 36, 3), (9, .bipush 42, 2), (11, .if_icmp .ne 24, 3), (14, .aload_n 0, 1), (15, .bipush 42, 2), (17, .invokevirtual 40, 3), (20, .aload_n 0, 1), (21, .iload_n 1, 1), (22, .invokevirtual 103, 3), (25, .aload_n 0, 1), (26, .bipush 8, 2), (28, .iconst 0, 1), (29, .iconst 0, 1), (30, .iconst 0, 1), (31, .invokevirtual 74, 3), (34, .pop, 1), (35, .return_, 1)]
def mi_M67 : mi_M := (⟨"TypeLoom$Parser", "formPair", "(I)V"⟩, prog_6_method_15_code, 2, none, 4, 1, 1, mi_q67, [], [])
def mi_q68 : List (Nat × Instr × Nat) := [(0, .aload_n 0, 1), (1, .invokevirtual 36, 3), (4, .bipush 13, 2), (6, .if_icmp .eq 9, 3), (9, .aload_n 0, 1), (10, .iload_n 1, 1), (11, .invokevirtual 94, 3), (14, .return_, 1), (15, .aload_n 0, 1), (16, .getfield 53, 3), (19, .istore_n 2, 1), (20, .aload_n 0, 1), (21, .bipush 6, 2), (23, .iload_n 2, 1), (24, .iconst 0, 1), (25, .iconst 0, 1), (26, .invokevirtual 74, 3), (29, .pop, 1), (30, .aload_n 0, 1), (31, .bipush 13, 2), (33, .invokevirtual 40, 3), (36, .iconst 0, 1), (37, .istore_n 3, 1), (38, .iload_n 3, 1), (39, .sipush 300, 3), (42, .if_icmp .ge 21, 3), (45, .aload_n 0, 1), (46, .invokevirtual 91, 3), (49, .ifCond .eq 14, 3), (52, .aload_n 0, 1), (53, .iload_n 1, 1), (54, .invokevirtual 94, 3), (57, .iinc 3 1, 3), (60, .goto (-22), 3), (63, .aload_n 0, 1), (64, .bipush 7, 2), (66, .iload_n 2, 1), (67, .iload_n 3, 1), (68, .iconst 0, 1), (69, .invokevirtual 74, 3), (72, .pop, 1), (73, .return_, 1)]
def mi_M68 : mi_M := (⟨"TypeLoom$Parser", "formUse", "(I)V"⟩, prog_6_method_16_code, 4, none, 4, 1, 1, mi_q68, [], [])
def mi_q69 : List (Nat × Instr × Nat) := [(0, .aload_n 0, 1), (1, .getfield 53, 3), (4, .istore_n 2, 1), (5, .aload_n 0, 1), (6, .iconst 4, 1), (7, .invokevirtual 40, 3), (10, .iconst 0, 1), (11, .istore_n 3, 1), (12, .aload_n 0, 1), (13, .bipush 15, 2), (15, .aload_n 0, 1), (16, .getfield 53, 3), (19, .iconst 0, 1), (20, .iconst 0, 1), (21, .invokevirtual 74, 3), (24, .pop, 1), (25, .aload_n 0, 1), (26, .bipush 13, 2), (28, .invokevirtual 40, 3), (31, .iinc 3 1, 3), (34, .iload_n 3, 1), (35, .sipush 300, 3), (38, .if_icmp .ge 12, 3), (41, .aload_n 0, 1), (42, .invokevirtual 36, 3), (45, .bipush 13, 2), (47, .if_icmp .eq (-35), 3), (50, .aload_n 0, 1), (51, .bipush 17, 2), (53, .invokevirtual 40, 3), (56, .aload_n 0, 1), (57, .iload_n 1, 1), (58, .iconst 1, 1), (59, .iadd, 1), (60, .invokevirtual 44, 3), (63, .istore 4, 2), (65, .aload_n 0, 1), (66, .bipush 30, 2), (68, .iload 4, 2), (70, .iload_n 3, 1), (71, .iload_n 2, 1), (72, .invokevirtual 121, 3), (75, .ireturn, 1)]
def mi_M69 : mi_M := (⟨"TypeLoom$Parser", "fun", "(I)I"⟩, prog_6_method_21_code, 5, (some .int), 4, 1, 1, mi_q69, [], [])
def mi_q70 : List (Nat × Instr × Nat) := [(0, .aload_n 0, 1), (1, .invokevirtual 36, 3), (4, .ifCond .ne 10, 3), (7, .aload_n 0, 1), (8, .invokevirtual 82, 3), (11, .goto 22, 3), (14, .aload_n 0, 1), (15, .invokevirtual 36, 3), (18, .iconst 1, 1), (19, .if_icmp .ne 10, 3), (22, .aload_n 0, 1), (23, .invokevirtual 85, 3), (26, .goto 7, 3), (29, .aload_n 0, 1), (30, .invokevirtual 67, 3), (33, .return_, 1)]
def mi_M70 : mi_M := (⟨"TypeLoom$Parser", "item", "()V"⟩, prog_6_method_10_code, 1, none, 4, 1, 0, mi_q70, [], [])
def mi_q71 : List (Nat × Instr × Nat) := [(0, .aload_n 0, 1), (1, .getfield 13, 3), (4, .invokevirtual 30, 3), (7, .ifCond .eq 8, 3), (10, .bipush 19, 2), (12, .goto 14, 3), (15, .aload_n 0, 1), (16, .getfield 7, 3), (19, .aload_n 0, 1), (20, .getfield 53, 3), (23, .invokevirtual 57, 3), (26, .ireturn, 1)]
def mi_M71 : mi_M := (⟨"TypeLoom$Parser", "kind", "()I"⟩, prog_6_method_5_code, 1, (some .int), 4, 1, 0, mi_q71, [], [])
def mi_q72 : List (Nat × Instr × Nat) := [(0, .aload_n 0, 1), (1, .getfield 53, 3), (4, .istore_n 2, 1), (5, .aload_n 0, 1), (6, .iconst 2, 1), (7, .invokevirtual 40, 3), (10, .aload_n 0, 1), (11, .getfield 53, 3), (14, .istore_n 3, 1), (15, .aload_n 0, 1), (16, .bipush 13, 2), (18, .invokevirtual 40, 3), (21, .aload_n 0, 1), (22, .bipush 61, 2), (24, .invokevirtual 40, 3), (27, .aload_n 0, 1), (28, .iload_n 1, 1), (29, .iconst 1, 1), (30, .iadd, 1), (31, .invokevirtual 44, 3), (34, .istore 4, 2), (36, .aload_n 0, 1), (37, .bipush 16, 2), (39, .iload 4, 2), (41, .iload_n 3, 1), (42, .iconst 0, 1), (43, .invokevirtual 74, 3), (46, .pop, 1), (47, .aload_n 0, 1), (48, .iconst 3, 1), (49, .invokevirtual 40, 3), (52, .aload_n 0, 1), (53, .iload_n 1, 1), (54, .iconst 1, 1), (55, .iadd, 1), (56, .invokevirtual 44, 3), (59, .istore 5, 2), (61, .aload_n 0, 1), (62, .bipush 31, 2), (64, .iload 5, 2), (66, .iconst 0, 1), (67, .iload_n 2, 1), (68, .invokevirtual 121, 3), (71, .ireturn, 1)]
def mi_M72 : mi_M := (⟨"TypeLoom$Parser", "let", "(I)I"⟩, prog_6_method_20_code, 6, (some .int), 4, 1, 1, mi_q72, [], [])
def mi_q73 : List (Nat × Instr × Nat) := [(0, .aload_n 0, 1), (1, .invokevirtual 36, 3), (4, .bipush 15, 2), (6, .if_icmp .ne 24, 3), (9, .aload_n 0, 1), (10, .iconst 5, 1), (11, .aload_n 0, 1), (12, .getfield 53, 3), (15, .iconst 0, 1), (16, .iconst 0, 1), (17, .invokevirtual 74, 3), (20, .pop, 1), (21, .aload_n 0, 1), (22, .bipush 15, 2), (24, .invokevirtual 40, 3), (27, .goto 66, 3), (30, .aload_n 0, 1), (31, .invokevirtual 36, 3), (34, .bipush 13, 2), (36, .if_icmp .ne 38, 3), (39, .aload_n 0, 1), (40, .bipush 6, 2), (42, .aload_n 0, 1), (43, .getfield 53, 3), (46, .iconst 0, 1), (47, .iconst 0, 1), (48, .invokevirtual 74, 3), (51, .pop, 1), (52, .aload_n 0, 1), (53, .bipush 7, 2), (55, .aload_n 0, 1), (56, .getfield 53, 3), (59, .iconst 0, 1), (60, .iconst 0, 1), (61, .invokevirtual 74, 3), (64, .pop, 1), (65, .aload_n 0, 1), (66, .bipush 13, 2), (68, .invokevirtual 40, 3), (71, .goto 22, 3), (74, .aload_n 0, 1), (75, .bipush 40, 2), (77, .invokevirtual 40, 3), (80, .aload_n 0, 1), (81, .iload_n 1, 1), (82, .iconst 1, 1), (83, .iadd, 1), (84, .invokevirtual 97, 3), (87, .aload_n 0, 1), (88, .bipush 41, 2), (90, .invokevirtual 40, 3), (93, .return_, 1)]
def mi_M73 : mi_M := (⟨"TypeLoom$Parser", "part", "(I)V"⟩, prog_6_method_18_code, 2, none, 4, 1, 1, mi_q73, [], [])
def mi_q74 : List (Nat × Instr × Nat) := [(0, .aload_n 0, 1), (1, .getfield 53, 3), (4, .istore_n 2, 1), (5, .aload_n 0, 1), (6, .iload_n 1, 1), (7, .invokevirtual 139, 3), (10, .istore_n 3, 1), (11, .iconst 0, 1), (12, .istore 4, 2), (14, .iload 4, 2), (16, .sipush 300, 3), (19, .if_icmp .ge 52, 3), (22, .aload_n 0, 1), (23, .invokevirtual 36, 3), (26, .bipush 42, 2), (28, .if_icmp .ne 43, 3), (31, .aload_n 0, 1), (32, .bipush 42, 2), (34, .invokevirtual 40, 3), (37, .aload_n 0, 1), (38, .bipush 13, 2), (40, .iload_n 3, 1), (41, .iconst 0, 1), (42, .iconst 0, 1), (43, .invokevirtual 74, 3), (46, .pop, 1), (47, .aload_n 0, 1), (48, .iload_n 1, 1), (49, .invokevirtual 139, 3), (52, .istore 5, 2), (54, .aload_n 0, 1), (55, .bipush 26, 2), (57, .iload_n 3, 1), (58, .iload 5, 2), (60, .iload_n 2, 1), (61, .invokevirtual 121, 3), (64, .istore_n 3, 1), (65, .iinc 4 1, 3), (68, .goto (-54), 3), (71, .iload_n 3, 1), (72, .ireturn, 1)]
def mi_M74 : mi_M := (⟨"TypeLoom$Parser", "product", "(I)I"⟩, prog_6_method_27_code, 6, (some .int), 4, 1, 1, mi_q74, [], [])
def mi_q75 : List (Nat × Instr × Nat) := [(0, .aload_n 0, 1), (1, .aload_n 1, 1), (2, .invokevirtual 21, 3), (5, .aload_n 0, 1), (6, .invokevirtual 25, 3), (9, .iconst 0, 1), (10, .istore_n 2, 1), (11, .iload_n 2, 1), (12, .sipush 300, 3), (15, .if_icmp .ge 32, 3), (18, .aload_n 0, 1), (19, .getfield 13, 3), (22, .invokevirtual 30, 3), (25, .ifCond .ne 22, 3), (28, .aload_n 0, 1), (29, .invokevirtual 36, 3), (32, .bipush 18, 2), (34, .if_icmp .eq 13, 3), (37, .aload_n 0, 1), (38, .invokevirtual 25, 3), (41, .iinc 2 1, 3), (44, .goto (-33), 3), (47, .aload_n 0, 1), (48, .bipush 18, 2), (50, .invokevirtual 40, 3), (53, .return_, 1)]
def mi_M75 : mi_M := (⟨"TypeLoom$Parser", "readProgram", "(LTypeLoom$Steps;)V"⟩, prog_6_method_2_code, 3, none, 4, 1, 1, mi_q75, [], [])
def mi_q76 : List (Nat × Instr × Nat) := [(0, .aload_n 0, 1), (1, .aload_n 1, 1), (2, .invokevirtual 21, 3), (5, .aload_n 0, 1), (6, .iconst 0, 1), (7, .invokevirtual 44, 3), (10, .istore_n 2, 1), (11, .aload_n 0, 1), (12, .bipush 18, 2), (14, .invokevirtual 40, 3), (17, .iload_n 2, 1), (18, .ireturn, 1)]
def mi_M76 : mi_M := (⟨"TypeLoom$Parser", "readQuestion", "(LTypeLoom$Steps;)I"⟩, prog_6_method_3_code, 3, (some .int), 4, 1, 1, mi_q76, [], [])
def mi_q77 : List (Nat × Instr × Nat) := [(0, .aload_n 0, 1), (1, .getfield 53, 3), (4, .istore_n 2, 1), (5, .aload_n 0, 1), (6, .iload_n 1, 1), (7, .invokevirtual 133, 3), (10, .istore_n 3, 1), (11, .aload_n 0, 1), (12, .invokevirtual 36, 3), (15, .bipush 61, 2), (17, .if_icmp .ne 27, 3), (20, .aload_n 0, 1), (21, .bipush 61, 2), (23, .invokevirtual 40, 3), (26, .aload_n 0, 1), (27, .iload_n 1, 1), (28, .invokevirtual 133, 3), (31, .istore 4, 2), (33, .aload_n 0, 1), (34, .bipush 28, 2), (36, .iload_n 3, 1), (37, .iload 4, 2), (39, .iload_n 2, 1), (40, .invokevirtual 121, 3), (43, .ireturn, 1), (44, .aload_n 0, 1), (45, .invokevirtual 36, 3), (48, .bipush 60, 2), (50, .if_icmp .ne 37, 3), (53, .aload_n 0, 1), (54, .bipush 60, 2), (56, .invokevirtual 40, 3), (59, .aload_n 0, 1), (60, .bipush 13, 2), (62, .iload_n 3, 1), (63, .iconst 0, 1), (64, .iconst 0, 1), (65, .invokevirtual 74, 3), (68, .pop, 1), (69, .aload_n 0, 1), (70, .iload_n 1, 1), (71, .invokevirtual 133, 3), (74, .istore 4, 2), (76, .aload_n 0, 1), (77, .bipush 27, 2), (79, .iload_n 3, 1), (80, .iload 4, 2), (82, .iload_n 2, 1), (83, .invokevirtual 121, 3), (86, .ireturn, 1), (87, .iload_n 3, 1), (88, .ireturn, 1)]
def mi_M77 : mi_M := (⟨"TypeLoom$Parser", "relation", "(I)I"⟩, prog_6_method_25_code, 5, (some .int), 4, 1, 1, mi_q77, [], [])
def mi_q78 : List (Nat × Instr × Nat) := [(0, .aload_n 0, 1), (1, .aload_n 0, 1), (2, .invokevirtual 36, 3), (5, .invokevirtual 40, 3), (8, .aload_n 0, 1), (9, .iload_n 1, 1), (10, .iload_n 2, 1), (11, .iconst 0, 1), (12, .iload_n 2, 1), (13, .invokevirtual 121, 3), (16, .ireturn, 1)]
def mi_M78 : mi_M := (⟨"TypeLoom$Parser", "single", "(II)I"⟩, prog_6_method_31_code, 3, (some .int), 4, 1, 2, mi_q78, [], [])
def mi_q79 : List (Nat × Instr × Nat) := [(0, .aload_n 0, 1), (1, .aload_n 1, 1), (2, .putfield 17, 3), (5, .aload_n 0, 1), (6, .getfield 17, 3), (9, .invokevirtual 48, 3), (12, .aload_n 0, 1), (13, .iconst 0, 1), (14, .putfield 53, 3), (17, .return_, 1)]
def mi_M79 : mi_M := (⟨"TypeLoom$Parser", "start", "(LTypeLoom$Steps;)V"⟩, prog_6_method_4_code, 2, none, 4, 1, 1, mi_q79, [], [])
def mi_q80 : List (Nat × Instr × Nat) := [(0, .aload_n 0, 1), (1, .invokevirtual 36, 3), (4, .lookupswitch 62 #[(11, 60), (12, 60), (13, 60), (14, 60), (16, 60), (40, 60)], 60), (64, .iconst 1, 1), (65, .ireturn, 1), (66, .iconst 0, 1), (67, .ireturn, 1)]
def mi_M80 : mi_M := (⟨"TypeLoom$Parser", "startsAtom", "()Z"⟩, prog_6_method_29_code, 1, (some .boolean), 4, 1, 0, mi_q80, [], [])
def mi_q81 : List (Nat × Instr × Nat) := [(0, .aload_n 0, 1), (1, .invokevirtual 36, 3), (4, .bipush 15, 2), (6, .if_icmp .eq 21, 3), (9, .aload_n 0, 1), (10, .invokevirtual 36, 3), (13, .bipush 13, 2), (15, .if_icmp .eq 12, 3), (18, .aload_n 0, 1), (19, .invokevirtual 36, 3), (22, .bipush 40, 2), (24, .if_icmp .ne 7, 3), (27, .iconst 1, 1), (28, .goto 4, 3), (31, .iconst 0, 1), (32, .ireturn, 1)]
def mi_M81 : mi_M := (⟨"TypeLoom$Parser", "startsPart", "()Z"⟩, prog_6_method_17_code, 1, (some .boolean), 4, 1, 0, mi_q81, [], [])
def mi_q82 : List (Nat × Instr × Nat) := [(0, .aload_n 0, 1), (1, .getfield 53, 3), (4, .istore_n 2, 1), (5, .aload_n 0, 1), (6, .iload_n 1, 1), (7, .invokevirtual 136, 3), (10, .istore_n 3, 1), (11, .iconst 0, 1), (12, .istore 4, 2), (14, .iload 4, 2), (16, .sipush 300, 3), (19, .if_icmp .ge 63, 3), (22, .aload_n 0, 1), (23, .invokevirtual 36, 3), (26, .bipush 43, 2), (28, .if_icmp .eq 12, 3), (31, .aload_n 0, 1), (32, .invokevirtual 36, 3), (35, .bipush 45, 2), (37, .if_icmp .ne 45, 3), (40, .aload_n 0, 1), (41, .aload_n 0, 1), (42, .invokevirtual 36, 3), (45, .invokevirtual 40, 3), (48, .aload_n 0, 1), (49, .bipush 13, 2), (51, .iload_n 3, 1), (52, .iconst 0, 1), (53, .iconst 0, 1), (54, .invokevirtual 74, 3), (57, .pop, 1), (58, .aload_n 0, 1), (59, .iload_n 1, 1), (60, .invokevirtual 136, 3), (63, .istore 5, 2), (65, .aload_n 0, 1), (66, .bipush 26, 2), (68, .iload_n 3, 1), (69, .iload 5, 2), (71, .iload_n 2, 1), (72, .invokevirtual 121, 3), (75, .istore_n 3, 1), (76, .iinc 4 1, 3), (79, .goto (-65), 3), (82, .iload_n 3, 1), (83, .ireturn, 1)]
def mi_M82 : mi_M := (⟨"TypeLoom$Parser", "sum", "(I)I"⟩, prog_6_method_26_code, 6, (some .int), 4, 1, 1, mi_q82, [], [])
def mi_q83 : List (Nat × Instr × Nat) := [(0, .aload_n 0, 1), (1, .invokevirtual 36, 3), (4, .iload_n 1, 1), (5, .if_icmp .ne 16, 3), (8, .aload_n 0, 1), (9, .dup, 1), (10, .getfield 53, 3), (13, .iconst 1, 1), (14, .iadd, 1), (15, .putfield 53, 3), (18, .goto 7, 3), (21, .aload_n 0, 1), (22, .invokevirtual 67, 3), (25, .return_, 1)]
def mi_M83 : mi_M := (⟨"TypeLoom$Parser", "take", "(I)V"⟩, prog_6_method_7_code, 2, none, 4, 1, 1, mi_q83, [], [])
def mi_q84 : List (Nat × Instr × Nat) := [(0, .aload_n 0, 1), (1, .invokespecial 1, 3), (4, .aload_n 0, 1), (5, .sipush 300, 3), (8, .newarray .long, 2), (10, .putfield 9, 3), (13, .aload_n 0, 1), (14, .sipush 300, 3), (17, .newarray .int, 2), (19, .putfield 15, 3), (22, .aload_n 0, 1), (23, .sipush 300, 3), (26, .newarray .boolean, 2), (28, .putfield 19, 3), (31, .return_, 1)]
def mi_M84 : mi_M := (⟨"TypeLoom$Scope", "<init>", "()V"⟩, prog_7_method_1_code, 1, none, 5, 2, 0, mi_q84, [], [])
def mi_q85 : List (Nat × Instr × Nat) := [(0, .aload_n 0, 1), (1, .getfield 23, 3), (4, .aload_n 0, 1), (5, .getfield 9, 3), (8, .arraylength, 1), (9, .if_icmp .ge 44, 3), (12, .aload_n 0, 1), (13, .getfield 9, 3), (16, .aload_n 0, 1), (17, .getfield 23, 3), (20, .lload_n 1, 1), (21, .lastore, 1), (22, .aload_n 0, 1), (23, .getfield 15, 3), (26, .aload_n 0, 1), (27, .getfield 23, 3), (30, .iload_n 3, 1), (31, .iastore, 1), (32, .aload_n 0, 1), (33, .getfield 19, 3), (36, .aload_n 0, 1), (37, .getfield 23, 3), (40, .iload 4, 2), (42, .bastore, 1), (43, .aload_n 0, 1), (44, .dup, 1), (45, .getfield 23, 3), (48, .iconst 1, 1), (49, .iadd, 1), (50, .putfield 23, 3), (53, .return_, 1)]
def mi_M85 : mi_M := (⟨"TypeLoom$Scope", "bind", "(JIZ)V"⟩, prog_7_method_3_code, 5, none, 5, 1, 3, mi_q85, [], [])
def mi_q86 : List (Nat × Instr × Nat) := [(0, .aload_n 0, 1), (1, .iconst 0, 1), (2, .putfield 23, 3), (5, .return_, 1)]
def mi_M86 : mi_M := (⟨"TypeLoom$Scope", "clear", "()V"⟩, prog_7_method_2_code, 1, none, 5, 1, 0, mi_q86, [], [])
def mi_q87 : List (Nat × Instr × Nat) := [(0, .iconst 0, 1), (1, .istore_n 2, 1), (2, .iload_n 2, 1), (3, .aload_n 0, 1), (4, .getfield 23, 3), (7, .if_icmp .ge 29, 3), (10, .aload_n 0, 1), (11, .getfield 19, 3), (14, .iload_n 2, 1), (15, .baload, 1), (16, .ifCond .ne 14, 3), (19, .aload_n 1, 1), (20, .aload_n 0, 1), (21, .getfield 15, 3), (24, .iload_n 2, 1), (25, .iaload, 1), (26, .invokevirtual 35, 3), (29, .pop, 1), (30, .iinc 2 1, 3), (33, .goto (-31), 3), (36, .return_, 1)]
def mi_M87 : mi_M := (⟨"TypeLoom$Scope", "gatherFixed", "(LTypeLoom$Types;)V"⟩, prog_7_method_9_code, 3, none, 5, 1, 1, mi_q87, [], [])
def mi_q88 : List (Nat × Instr × Nat) := [(0, .iload_n 1, 1), (1, .ifCond .lt 24, 3), (4, .iload_n 1, 1), (5, .aload_n 0, 1), (6, .getfield 23, 3), (9, .if_icmp .ge 16, 3), (12, .aload_n 0, 1), (13, .getfield 19, 3), (16, .iload_n 1, 1), (17, .baload, 1), (18, .ifCond .eq 7, 3), (21, .iconst 1, 1), (22, .goto 4, 3), (25, .iconst 0, 1), (26, .ireturn, 1)]
def mi_M88 : mi_M := (⟨"TypeLoom$Scope", "isGeneral", "(I)Z"⟩, prog_7_method_8_code, 2, (some .boolean), 5, 1, 1, mi_q88, [], [])
def mi_q89 : List (Nat × Instr × Nat) := [(0, .aload_n 0, 1), (1, .getfield 23, 3), (4, .iconst 1, 1), (5, .isub, 1), (6, .ireturn, 1)]
def mi_M89 : mi_M := (⟨"TypeLoom$Scope", "last", "()I"⟩, prog_7_method_6_code, 1, (some .int), 5, 1, 0, mi_q89, [], [])
def mi_q90 : List (Nat × Instr × Nat) := [(0, .aload_n 0, 1), (1, .getfield 23, 3), (4, .iconst 1, 1), (5, .isub, 1), (6, .istore_n 3, 1), (7, .iload_n 3, 1), (8, .ifCond .lt 22, 3), (11, .aload_n 0, 1), (12, .getfield 9, 3), (15, .iload_n 3, 1), (16, .laload, 1), (17, .lload_n 1, 1), (18, .lcmp, 1), (19, .ifCond .ne 5, 3), (22, .iload_n 3, 1), (23, .ireturn, 1), (24, .iinc 3 (-1), 3), (27, .goto (-20), 3), (30, .iconst (-1), 1), (31, .ireturn, 1)]
def mi_M90 : mi_M := (⟨"TypeLoom$Scope", "nearest", "(J)I"⟩, prog_7_method_5_code, 4, (some .int), 5, 1, 1, mi_q90, [], [])
def mi_q91 : List (Nat × Instr × Nat) := [(0, .iload_n 1, 1), (1, .ifCond .lt 20, 3), (4, .iload_n 1, 1), (5, .aload_n 0, 1), (6, .getfield 23, 3), (9, .if_icmp .ge 12, 3), (12, .aload_n 0, 1), (13, .getfield 15, 3), (16, .iload_n 1, 1), (17, .iaload, 1), (18, .goto 4, 3), (21, .iconst 0, 1), (22, .ireturn, 1)]
def mi_M91 : mi_M := (⟨"TypeLoom$Scope", "typeOf", "(I)I"⟩, prog_7_method_7_code, 2, (some .int), 5, 1, 1, mi_q91, [], [])
def mi_q92 : List (Nat × Instr × Nat) := [(0, .aload_n 0, 1), (1, .iconst 0, 1), (2, .aload_n 0, 1), (3, .getfield 23, 3), (6, .iconst 0, 1), (7, .iload_n 1, 1), (8, .invokestatic 27, 3), (11, .isub, 1), (12, .invokestatic 27, 3), (15, .putfield 23, 3), (18, .return_, 1)]
def mi_M92 : mi_M := (⟨"TypeLoom$Scope", "unbind", "(I)V"⟩, prog_7_method_4_code, 2, none, 5, 1, 1, mi_q92, [], [])
def mi_q93 : List (Nat × Instr × Nat) := [(0, .aload_n 0, 1), (1, .invokespecial 3, 3), (4, .aload_n 0, 1), (5, .sipush 1024, 3), (8, .newarray .int, 2), (10, .putfield 9, 3), (13, .aload_n 0, 1), (14, .sipush 1024, 3), (17, .newarray .int, 2), (19, .putfield 13, 3), (22, .aload_n 0, 1), (23, .sipush 1024, 3), (26, .newarray .int, 2), (28, .putfield 16, 3), (31, .aload_n 0, 1), (32, .sipush 1024, 3), (35, .newarray .int, 2), (37, .putfield 19, 3), (40, .aload_n 0, 1), (41, .sipush 1024, 3), (44, .newarray .int, 2), (46, .putfield 22, 3), (49, .aload_n 0, 1), (50, .sipush 1024, 3), (53, .newarray .int, 2), (55, .putfield 25, 3), (58, .aload_n 0, 1), (59, .sipush 1024, 3), (62, .newarray .int, 2), (64, .putfield 28, 3), (67, .return_, 1)]
def mi_M93 : mi_M := (⟨"TypeLoom$Steps", "<init>", "()V"⟩, prog_8_method_1_code, 1, none, 6, 2, 0, mi_q93, [], [])
def mi_q94 : List (Nat × Instr × Nat) := [(0, .aload_n 0, 1), (1, .iload_n 1, 1), (2, .invokevirtual 37, 3), (5, .ifCond .eq 12, 3), (8, .aload_n 0, 1), (9, .getfield 13, 3), (12, .iload_n 1, 1), (13, .iaload, 1), (14, .goto 4, 3), (17, .iconst (-1), 1), (18, .ireturn, 1)]
def mi_M94 : mi_M := (⟨"TypeLoom$Steps", "aOf", "(I)I"⟩, prog_8_method_8_code, 2, (some .int), 6, 1, 1, mi_q94, [], [])
def mi_q95 : List (Nat × Instr × Nat) := [(0, .aload_n 0, 1), (1, .getfield 31, 3), (4, .sipush 1024, 3), (7, .if_icmp .lt 5, 3), (10, .iconst (-1), 1), (11, .ireturn, 1), (12, .aload_n 0, 1), (13, .getfield 9, 3), (16, .aload_n 0, 1), (17, .getfield 31, 3), (20, .iload_n 1, 1), (21, .iastore, 1), (22, .aload_n 0, 1), (23, .getfield 13, 3), (26, .aload_n 0, 1), (27, .getfield 31, 3), (30, .iload_n 2, 1), (31, .iastore, 1), (32, .aload_n 0, 1), (33, .getfield 16, 3), (36, .aload_n 0, 1), (37, .getfield 31, 3), (40, .iload_n 3, 1), (41, .iastore, 1), (42, .aload_n 0, 1), (43, .getfield 19, 3), (46, .aload_n 0, 1), (47, .getfield 31, 3), (50, .iload 4, 2), (52, .iastore, 1), (53, .aload_n 0, 1), (54, .getfield 28, 3), (57, .aload_n 0, 1), (58, .getfield 31, 3), (61, .iconst 0, 1), (62, .iastore, 1), (63, .aload_n 0, 1), (64, .getfield 22, 3), (67, .aload_n 0, 1), (68, .getfield 31, 3), (71, .iconst 0, 1), (72, .iastore, 1), (73, .aload_n 0, 1), (74, .getfield 25, 3), (77, .aload_n 0, 1), (78, .getfield 31, 3), (81, .iconst (-1), 1), (82, .iastore, 1), (83, .aload_n 0, 1), (84, .dup, 1), (85, .getfield 31, 3), (88, .iconst 1, 1), (89, .iadd, 1), (90, .putfield 31, 3), (93, .aload_n 0, 1), (94, .getfield 31, 3), (97, .iconst 1, 1), (98, .isub, 1), (99, .ireturn, 1)]
def mi_M95 : mi_M := (⟨"TypeLoom$Steps", "add", "(IIII)I"⟩, prog_8_method_4_code, 5, (some .int), 6, 1, 4, mi_q95, [], [])
def mi_q96 : List (Nat × Instr × Nat) := [(0, .aload_n 0, 1), (1, .iload_n 1, 1), (2, .invokevirtual 37, 3), (5, .ifCond .eq 12, 3), (8, .aload_n 0, 1), (9, .getfield 16, 3), (12, .iload_n 1, 1), (13, .iaload, 1), (14, .goto 4, 3), (17, .iconst (-1), 1), (18, .ireturn, 1)]
def mi_M96 : mi_M := (⟨"TypeLoom$Steps", "bOf", "(I)I"⟩, prog_8_method_9_code, 2, (some .int), 6, 1, 1, mi_q96, [], [])
def mi_q97 : List (Nat × Instr × Nat) := [(0, .aload_n 0, 1), (1, .iconst 0, 1), (2, .putfield 31, 3), (5, .return_, 1)]
def mi_M97 : mi_M := (⟨"TypeLoom$Steps", "clear", "()V"⟩, prog_8_method_2_code, 1, none, 6, 1, 0, mi_q97, [], [])
def mi_q98 : List (Nat × Instr × Nat) := [(0, .iload_n 1, 1), (1, .ifCond .lt 15, 3), (4, .iload_n 1, 1), (5, .aload_n 0, 1), (6, .getfield 31, 3), (9, .if_icmp .ge 7, 3), (12, .iconst 1, 1), (13, .goto 4, 3), (16, .iconst 0, 1), (17, .ireturn, 1)]
def mi_M98 : mi_M := (⟨"TypeLoom$Steps", "has", "(I)Z"⟩, prog_8_method_14_code, 2, (some .boolean), 6, 1, 1, mi_q98, [], [])
def mi_q99 : List (Nat × Instr × Nat) := [(0, .aload_n 0, 1), (1, .iload_n 1, 1), (2, .invokevirtual 37, 3), (5, .ifCond .eq 12, 3), (8, .aload_n 0, 1), (9, .getfield 9, 3), (12, .iload_n 1, 1), (13, .iaload, 1), (14, .goto 4, 3), (17, .iconst (-1), 1), (18, .ireturn, 1)]
def mi_M99 : mi_M := (⟨"TypeLoom$Steps", "kindOf", "(I)I"⟩, prog_8_method_7_code, 2, (some .int), 6, 1, 1, mi_q99, [], [])
def mi_q100 : List (Nat × Instr × Nat) := [(0, .aload_n 0, 1), (1, .iload_n 1, 1), (2, .invokevirtual 37, 3), (5, .ifCond .eq 17, 3), (8, .aload_n 0, 1), (9, .getfield 22, 3), (12, .iload_n 1, 1), (13, .iload_n 2, 1), (14, .iastore, 1), (15, .aload_n 0, 1), (16, .getfield 25, 3), (19, .iload_n 1, 1), (20, .iload_n 3, 1), (21, .iastore, 1), (22, .return_, 1)]
def mi_M100 : mi_M := (⟨"TypeLoom$Steps", "setSpan", "(III)V"⟩, prog_8_method_5_code, 4, none, 6, 1, 3, mi_q100, [], [])
def mi_q101 : List (Nat × Instr × Nat) := [(0, .aload_n 0, 1), (1, .iload_n 1, 1), (2, .invokevirtual 37, 3), (5, .ifCond .eq 10, 3), (8, .aload_n 0, 1), (9, .getfield 28, 3), (12, .iload_n 1, 1), (13, .iload_n 2, 1), (14, .iastore, 1), (15, .return_, 1)]
def mi_M101 : mi_M := (⟨"TypeLoom$Steps", "setType", "(II)V"⟩, prog_8_method_6_code, 3, none, 6, 1, 2, mi_q101, [], [])
def mi_q102 : List (Nat × Instr × Nat) := [(0, .aload_n 0, 1), (1, .getfield 31, 3), (4, .ireturn, 1)]
def mi_M102 : mi_M := (⟨"TypeLoom$Steps", "size", "()I"⟩, prog_8_method_3_code, 1, (some .int), 6, 1, 0, mi_q102, [], [])
def mi_q103 : List (Nat × Instr × Nat) := [(0, .aload_n 0, 1), (1, .iload_n 1, 1), (2, .invokevirtual 37, 3), (5, .ifCond .eq 12, 3), (8, .aload_n 0, 1), (9, .getfield 28, 3), (12, .iload_n 1, 1), (13, .iaload, 1), (14, .goto 4, 3), (17, .iconst 0, 1), (18, .ireturn, 1)]
def mi_M103 : mi_M := (⟨"TypeLoom$Steps", "typeOf", "(I)I"⟩, prog_8_method_12_code, 2, (some .int), 6, 1, 1, mi_q103, [], [])
def mi_q104 : List (Nat × Instr × Nat) := [(0, .aload_n 0, 1), (1, .invokespecial 1, 3), (4, .aload_n 0, 1), (5, .bipush 13, 2), (7, .newarray .long, 2), (9, .putfield 9, 3), (12, .aload_n 0, 1), (13, .sipush 301, 3), (16, .newarray .int, 2), (18, .putfield 13, 3), (21, .aload_n 0, 1), (22, .sipush 301, 3), (25, .newarray .int, 2), (27, .putfield 17, 3), (30, .aload_n 0, 1), (31, .sipush 301, 3), (34, .newarray .int, 2), (36, .putfield 20, 3), (39, .aload_n 0, 1), (40, .sipush 301, 3), (43, .newarray .long, 2), (45, .putfield 23, 3), (48, .aload_n 0, 1), (49, .aload_n 1, 1), (50, .putfield 26, 3), (53, .iconst 0, 1), (54, .istore_n 2, 1), (55, .iconst 0, 1), (56, .istore_n 3, 1), (57, .iload_n 3, 1), (58, .ldc 30, 2), (60, .invokevirtual 32, 3), (63, .if_icmp .ge 55, 3), (66, .ldc 30, 2), (68, .iload_n 3, 1), (69, .invokevirtual 38, 3), (72, .bipush 32, 2), (74, .if_icmp .ne 9, 3), (77, .iinc 2 1, 3), (80, .goto 32, 3), (83, .iload_n 2, 1), (84, .bipush 13, 2), (86, .if_icmp .ge 26, 3), (89, .aload_n 0, 1), (90, .getfield 9, 3), (93, .iload_n 2, 1), (94, .aload_n 0, 1), (95, .getfield 9, 3), (98, .iload_n 2, 1), (99, .laload, 1), (100, .bipush 8, 2), (102, .lshl, 1), (103, .ldc 30, 2), (105, .iload_n 3, 1), (106, .invokevirtual 38, 3), (109, .i2l, 1), (110, .lor, 1), (111, .lastore, 1), (112, .iinc 3 1, 3), (115, .goto (-58), 3), (118, .return_, 1)]
def mi_M104 : mi_M := (⟨"TypeLoom$Tokens", "<init>", "([B)V"⟩, prog_9_method_1_code, 4, none, 7, 2, 1, mi_q104, [], [])
def mi_q105 : List (Nat × Instr × Nat) := [(0, .aload_n 0, 1), (1, .getfield 55, 3), (4, .sipush 300, 3), (7, .if_icmp .gt 56, 3), (10, .aload_n 0, 1), (11, .getfield 13, 3), (14, .aload_n 0, 1), (15, .getfield 55, 3), (18, .iload_n 1, 1), (19, .iastore, 1), (20, .aload_n 0, 1), (21, .getfield 17, 3), (24, .aload_n 0, 1), (25, .getfield 55, 3), (28, .iload_n 2, 1), (29, .iastore, 1), (30, .aload_n 0, 1), (31, .getfield 20, 3), (34, .aload_n 0, 1), (35, .getfield 55, 3), (38, .iload_n 3, 1), (39, .iconst 1, 1), (40, .isub, 1), (41, .iastore, 1), (42, .aload_n 0, 1), (43, .getfield 23, 3), (46, .aload_n 0, 1), (47, .getfield 55, 3), (50, .lload 4, 2), (52, .lastore, 1), (53, .aload_n 0, 1), (54, .dup, 1), (55, .getfield 55, 3), (58, .iconst 1, 1), (59, .iadd, 1), (60, .putfield 55, 3), (63, .iload_n 3, 1), (64, .ireturn, 1)]
def mi_M105 : mi_M := (⟨"TypeLoom$Tokens", "add", "(IIIJ)I"⟩, prog_9_method_12_code, 6, (some .int), 7, 1, 4, mi_q105, [], [])
def mi_q106 : List (Nat × Instr × Nat) := [(0, .iload_n 1, 1), (1, .ifCond .lt 24, 3), (4, .iload_n 1, 1), (5, .aload_n 0, 1), (6, .getfield 51, 3), (9, .if_icmp .ge 16, 3), (12, .aload_n 0, 1), (13, .getfield 26, 3), (16, .iload_n 1, 1), (17, .baload, 1), (18, .sipush 255, 3), (21, .iand, 1), (22, .goto 4, 3), (25, .iconst (-1), 1), (26, .ireturn, 1)]
def mi_M106 : mi_M := (⟨"TypeLoom$Tokens", "byteOf", "(I)I"⟩, prog_9_method_14_code, 2, (some .int), 7, 1, 1, mi_q106, [], [])
def mi_q107 : List (Nat × Instr × Nat) := [(0, .iload_n 0, 1), (1, .bipush 48, 2), (3, .if_icmp .lt 13, 3), (6, .iload_n 0, 1), (7, .bipush 57, 2), (9, .if_icmp .gt 7, 3), (12, .iconst 1, 1), (13, .goto 4, 3), (16, .iconst 0, 1), (17, .ireturn, 1)]
def mi_M107 : mi_M := (⟨"TypeLoom$Tokens", "isDigit", "(I)Z"⟩, prog_9_method_17_code, 1, (some .boolean), 7, 0, 1, mi_q107, [], [])
def mi_q108 : List (Nat × Instr × Nat) := [(0, .iload_n 0, 1), (1, .bipush 65, 2), (3, .if_icmp .lt 13, 3), (6, .iload_n 0, 1), (7, .bipush 90, 2), (9, .if_icmp .gt 7, 3), (12, .iconst 1, 1), (13, .goto 4, 3), (16, .iconst 0, 1), (17, .ireturn, 1)]
def mi_M108 : mi_M := (⟨"TypeLoom$Tokens", "isGreat", "(I)Z"⟩, prog_9_method_16_code, 1, (some .boolean), 7, 0, 1, mi_q108, [], [])
def mi_q109 : List (Nat × Instr × Nat) := [(0, .iload_n 0, 1), (1, .bipush 97, 2), (3, .if_icmp .lt 13, 3), (6, .iload_n 0, 1), (7, .bipush 122, 2), (9, .if_icmp .gt 7, 3), (12, .iconst 1, 1), (13, .goto 4, 3), (16, .iconst 0, 1), (17, .ireturn, 1)]
def mi_M109 : mi_M := (⟨"TypeLoom$Tokens", "isSmall", "(I)Z"⟩, prog_9_method_15_code, 1, (some .boolean), 7, 0, 1, mi_q109, [], [])
def mi_q110 : List (Nat × Instr × Nat) := [(0, .iload_n 1, 1), (1, .ifCond .lt 20, 3), (4, .iload_n 1, 1), (5, .aload_n 0, 1), (6, .getfield 55, 3), (9, .if_icmp .ge 12, 3), (12, .aload_n 0, 1), (13, .getfield 23, 3), (16, .iload_n 1, 1), (17, .laload, 1), (18, .goto 4, 3), (21, .lconst 0, 1), (22, .lreturn, 1)]
def mi_M110 : mi_M := (⟨"TypeLoom$Tokens", "keyOf", "(I)J"⟩, prog_9_method_6_code, 2, (some .long), 7, 1, 1, mi_q110, [], [])
def mi_q111 : List (Nat × Instr × Nat) := [(0, .iload_n 1, 1), (1, .ifCond .lt 20, 3), (4, .iload_n 1, 1), (5, .aload_n 0, 1), (6, .getfield 55, 3), (9, .if_icmp .ge 12, 3), (12, .aload_n 0, 1), (13, .getfield 13, 3), (16, .iload_n 1, 1), (17, .iaload, 1), (18, .goto 5, 3), (21, .bipush 19, 2), (23, .ireturn, 1)]
def mi_M111 : mi_M := (⟨"TypeLoom$Tokens", "kindOf", "(I)I"⟩, prog_9_method_3_code, 2, (some .int), 7, 1, 1, mi_q111, [], [])
def mi_q112 : List (Nat × Instr × Nat) := [(0, .iconst 0, 1), (1, .istore_n 3, 1), (2, .iload_n 3, 1), (3, .bipush 13, 2), (5, .if_icmp .ge 22, 3), (8, .aload_n 0, 1), (9, .getfield 9, 3), (12, .iload_n 3, 1), (13, .laload, 1), (14, .lload_n 1, 1), (15, .lcmp, 1), (16, .ifCond .ne 5, 3), (19, .iload_n 3, 1), (20, .ireturn, 1), (21, .iinc 3 1, 3), (24, .goto (-22), 3), (27, .bipush 13, 2), (29, .ireturn, 1)]
def mi_M112 : mi_M := (⟨"TypeLoom$Tokens", "kindOfWord", "(J)I"⟩, prog_9_method_9_code, 4, (some .int), 7, 1, 1, mi_q112, [], [])
def mi_q113 : List (Nat × Instr × Nat) := [(0, .iload_n 1, 1), (1, .ifCond .lt 20, 3), (4, .iload_n 1, 1), (5, .aload_n 0, 1), (6, .getfield 55, 3), (9, .if_icmp .ge 12, 3), (12, .aload_n 0, 1), (13, .getfield 20, 3), (16, .iload_n 1, 1), (17, .iaload, 1), (18, .goto 7, 3), (21, .aload_n 0, 1), (22, .getfield 51, 3), (25, .ireturn, 1)]
def mi_M113 : mi_M := (⟨"TypeLoom$Tokens", "lastOf", "(I)I"⟩, prog_9_method_5_code, 2, (some .int), 7, 1, 1, mi_q113, [], [])
def mi_q114 : List (Nat × Instr × Nat) := [(0, .iload_n 1, 1), (1, .istore_n 2, 1), (2, .iload_n 2, 1), (3, .aload_n 0, 1), (4, .getfield 51, 3), (7, .if_icmp .ge 29, 3), (10, .aload_n 0, 1), (11, .iload_n 2, 1), (12, .invokevirtual 68, 3), (15, .bipush 32, 2), (17, .if_icmp .eq 13, 3), (20, .aload_n 0, 1), (21, .iload_n 2, 1), (22, .invokevirtual 68, 3), (25, .bipush 10, 2), (27, .if_icmp .ne 9, 3), (30, .iinc 2 1, 3), (33, .goto (-31), 3), (36, .iload_n 2, 1), (37, .ireturn, 1)]
def mi_M114 : mi_M := (⟨"TypeLoom$Tokens", "pastBlanks", "(I)I"⟩, prog_9_method_13_code, 3, (some .int), 7, 1, 1, mi_q114, [], [])
def mi_q115 : List (Nat × Instr × Nat) := [(0, .iload_n 1, 1), (1, .ifCond .lt 20, 3), (4, .iload_n 1, 1), (5, .aload_n 0, 1), (6, .getfield 55, 3), (9, .if_icmp .ge 12, 3), (12, .aload_n 0, 1), (13, .getfield 17, 3), (16, .iload_n 1, 1), (17, .iaload, 1), (18, .goto 7, 3), (21, .aload_n 0, 1), (22, .getfield 51, 3), (25, .ireturn, 1)]
def mi_M115 : mi_M := (⟨"TypeLoom$Tokens", "placeOf", "(I)I"⟩, prog_9_method_4_code, 2, (some .int), 7, 1, 1, mi_q115, [], [])
def mi_q116 : List (Nat × Instr × Nat) := [(0, .aload_n 0, 1), (1, .iload_n 1, 1), (2, .iconst 0, 1), (3, .invokestatic 42, 3), (6, .aload_n 0, 1), (7, .getfield 26, 3), (10, .arraylength, 1), (11, .invokestatic 48, 3), (14, .putfield 51, 3), (17, .aload_n 0, 1), (18, .iconst 0, 1), (19, .putfield 55, 3), (22, .iconst 0, 1), (23, .istore_n 2, 1), (24, .iconst 1, 1), (25, .istore_n 3, 1), (26, .iconst 0, 1), (27, .istore 4, 2), (29, .iload 4, 2), (31, .sipush 300, 3), (34, .if_icmp .gt 51, 3), (37, .iload_n 3, 1), (38, .ifCond .eq 47, 3), (41, .aload_n 0, 1), (42, .aload_n 0, 1), (43, .iload_n 2, 1), (44, .invokevirtual 58, 3), (47, .invokevirtual 62, 3), (50, .istore_n 2, 1), (51, .aload_n 0, 1), (52, .iload 4, 2), (54, .invokevirtual 65, 3), (57, .bipush 18, 2), (59, .if_icmp .eq 18, 3), (62, .aload_n 0, 1), (63, .iload 4, 2), (65, .invokevirtual 65, 3), (68, .bipush 19, 2), (70, .if_icmp .eq 7, 3), (73, .iconst 1, 1), (74, .goto 4, 3), (77, .iconst 0, 1), (78, .istore_n 3, 1), (79, .iinc 4 1, 3), (82, .goto (-53), 3), (85, .return_, 1)]
def mi_M116 : mi_M := (⟨"TypeLoom$Tokens", "read", "(I)V"⟩, prog_9_method_2_code, 5, none, 7, 1, 1, mi_q116, [], [])
def mi_q117 : List (Nat × Instr × Nat) := [(0, .iload_n 2, 1), (1, .bipush 45, 2), (3, .if_icmp .ne 27, 3), (6, .aload_n 0, 1), (7, .iload_n 1, 1), (8, .iconst 1, 1), (9, .iadd, 1), (10, .invokevirtual 68, 3), (13, .bipush 62, 2), (15, .if_icmp .ne 15, 3), (18, .aload_n 0, 1), (19, .bipush 17, 2), (21, .iload_n 1, 1), (22, .iload_n 1, 1), (23, .iconst 2, 1), (24, .iadd, 1), (25, .lconst 0, 1), (26, .invokevirtual 71, 3), (29, .ireturn, 1), (30, .iload_n 2, 1), (31, .sipush 128, 3), (34, .if_icmp .ge 17, 3), (37, .ldc 98, 2), (39, .iload_n 2, 1), (40, .i2c, 1), (41, .invokevirtual 100, 3), (44, .ifCond .lt 7, 3), (47, .iload_n 2, 1), (48, .goto 5, 3), (51, .bipush 19, 2), (53, .istore_n 3, 1), (54, .aload_n 0, 1), (55, .iload_n 3, 1), (56, .iload_n 1, 1), (57, .iload_n 1, 1), (58, .iconst 1, 1), (59, .iadd, 1), (60, .lconst 0, 1), (61, .invokevirtual 71, 3), (64, .ireturn, 1)]
def mi_M117 : mi_M := (⟨"TypeLoom$Tokens", "readSymbol", "(II)I"⟩, prog_9_method_11_code, 4, (some .int), 7, 1, 2, mi_q117, [], [])
def mi_q118 : List (Nat × Instr × Nat) := [(0, .aload_n 0, 1), (1, .iload_n 1, 1), (2, .invokevirtual 68, 3), (5, .istore_n 2, 1), (6, .iload_n 2, 1), (7, .ifCond .ge 15, 3), (10, .aload_n 0, 1), (11, .bipush 18, 2), (13, .iload_n 1, 1), (14, .iload_n 1, 1), (15, .iconst 1, 1), (16, .iadd, 1), (17, .lconst 0, 1), (18, .invokevirtual 71, 3), (21, .ireturn, 1), (22, .aload_n 0, 1), (23, .getfield 55, 3), (26, .sipush 300, 3), (29, .if_icmp .lt 15, 3), (32, .aload_n 0, 1), (33, .bipush 19, 2), (35, .iload_n 1, 1), (36, .iload_n 1, 1), (37, .iconst 1, 1), (38, .iadd, 1), (39, .lconst 0, 1), (40, .invokevirtual 71, 3), (43, .ireturn, 1), (44, .iload_n 2, 1), (45, .invokestatic 75, 3), (48, .ifCond .ne 10, 3), (51, .iload_n 2, 1), (52, .invokestatic 79, 3), (55, .ifCond .eq 23, 3), (58, .aload_n 0, 1), (59, .iload_n 1, 1), (60, .iload_n 2, 1), (61, .invokestatic 75, 3), (64, .ifCond .eq 8, 3), (67, .bipush 13, 2), (69, .goto 5, 3), (72, .bipush 14, 2), (74, .invokevirtual 82, 3), (77, .ireturn, 1), (78, .iload_n 2, 1), (79, .invokestatic 85, 3), (82, .ifCond .eq 9, 3), (85, .aload_n 0, 1), (86, .iload_n 1, 1), (87, .invokevirtual 88, 3), (90, .ireturn, 1), (91, .iload_n 2, 1), (92, .bipush 39, 2), (94, .if_icmp .ne 36, 3), (97, .aload_n 0, 1), (98, .iload_n 1, 1), (99, .iconst 1, 1), (100, .iadd, 1), (101, .invokevirtual 68, 3), (104, .istore_n 3, 1), (105, .aload_n 0, 1), (106, .iload_n 3, 1), (107, .invokestatic 75, 3), (110, .ifCond .eq 8, 3), (113, .bipush 15, 2), (115, .goto 5, 3), (118, .bipush 19, 2), (120, .iload_n 1, 1), (121, .iload_n 1, 1), (122, .iconst 2, 1), (123, .iadd, 1), (124, .iload_n 3, 1), (125, .i2l, 1), (126, .invokevirtual 71, 3), (129, .ireturn, 1), (130, .aload_n 0, 1), (131, .iload_n 1, 1), (132, .iload_n 2, 1), (133, .invokevirtual 91, 3), (136, .ireturn, 1)]
def mi_M118 : mi_M := (⟨"TypeLoom$Tokens", "readToken", "(I)I"⟩, prog_9_method_7_code, 4, (some .int), 7, 1, 1, mi_q118, [], [])
def mi_q119 : List (Nat × Instr × Nat) := [(0, .iload_n 1, 1), (1, .istore_n 3, 1), (2, .lconst 0, 1), (3, .lstore 4, 2), (5, .iload_n 3, 1), (6, .aload_n 0, 1), (7, .getfield 51, 3), (10, .if_icmp .ge 50, 3), (13, .iload_n 3, 1), (14, .iload_n 1, 1), (15, .if_icmp .eq 25, 3), (18, .aload_n 0, 1), (19, .iload_n 3, 1), (20, .invokevirtual 68, 3), (23, .invokestatic 75, 3), (26, .ifCond .ne 14, 3), (29, .aload_n 0, 1), (30, .iload_n 3, 1), (31, .invokevirtual 68, 3), (34, .invokestatic 85, 3), (37, .ifCond .eq 23, 3), (40, .lload 4, 2), (42, .bipush 8, 2), (44, .lshl, 1), (45, .aload_n 0, 1), (46, .iload_n 3, 1), (47, .invokevirtual 68, 3), (50, .i2l, 1), (51, .lor, 1), (52, .lstore 4, 2), (54, .iinc 3 1, 3), (57, .goto (-52), 3), (60, .iload_n 3, 1), (61, .iload_n 1, 1), (62, .isub, 1), (63, .bipush 8, 2), (65, .if_icmp .le 13, 3), (68, .aload_n 0, 1), (69, .bipush 19, 2), (71, .iload_n 1, 1), (72, .iload_n 3, 1), (73, .lconst 0, 1), (74, .invokevirtual 71, 3), (77, .ireturn, 1), (78, .aload_n 0, 1), (79, .iload_n 2, 1), (80, .bipush 13, 2), (82, .if_icmp .ne 12, 3), (85, .aload_n 0, 1), (86, .lload 4, 2), (88, .invokevirtual 94, 3), (91, .goto 4, 3), (94, .iload_n 2, 1), (95, .iload_n 1, 1), (96, .iload_n 3, 1), (97, .lload 4, 2), (99, .invokevirtual 71, 3), (102, .ireturn, 1)]
def mi_M119 : mi_M := (⟨"TypeLoom$Tokens", "readWord", "(II)I"⟩, prog_9_method_8_code, 6, (some .int), 7, 1, 2, mi_q119, [], [])
def mi_q120 : List (Nat × Instr × Nat) := [(0, .aload_n 0, 1), (1, .invokespecial 1, 3), (4, .aload_n 0, 1), (5, .sipush 512, 3), (8, .newarray .int, 2), (10, .putfield 9, 3), (13, .aload_n 0, 1), (14, .sipush 1536, 3), (17, .newarray .int, 2), (19, .putfield 13, 3), (22, .aload_n 0, 1), (23, .sipush 512, 3), (26, .newarray .int, 2), (28, .putfield 16, 3), (31, .aload_n 0, 1), (32, .sipush 512, 3), (35, .newarray .int, 2), (37, .putfield 19, 3), (40, .aload_n 0, 1), (41, .sipush 512, 3), (44, .newarray .int, 2), (46, .putfield 22, 3), (49, .aload_n 0, 1), (50, .sipush 512, 3), (53, .newarray .int, 2), (55, .putfield 25, 3), (58, .aload_n 0, 1), (59, .sipush 512, 3), (62, .newarray .int, 2), (64, .putfield 28, 3), (67, .aload_n 0, 1), (68, .sipush 512, 3), (71, .putfield 31, 3), (74, .aload_n 0, 1), (75, .getfield 9, 3), (78, .iconst 1, 1), (79, .iconst 1, 1), (80, .iastore, 1), (81, .aload_n 0, 1), (82, .getfield 9, 3), (85, .iconst 2, 1), (86, .iconst 2, 1), (87, .iastore, 1), (88, .aload_n 0, 1), (89, .getfield 16, 3), (92, .iconst 1, 1), (93, .iconst 1, 1), (94, .iastore, 1), (95, .aload_n 0, 1), (96, .getfield 16, 3), (99, .iconst 2, 1), (100, .iconst 2, 1), (101, .iastore, 1), (102, .aload_n 0, 1), (103, .iconst 3, 1), (104, .putfield 35, 3), (107, .aload_n 0, 1), (108, .aload_n 0, 1), (109, .getfield 35, 3), (112, .putfield 38, 3), (115, .return_, 1)]
def mi_M120 : mi_M := (⟨"TypeLoom$Types", "<init>", "()V"⟩, prog_10_method_1_code, 1, none, 8, 2, 0, mi_q120, [], [])
def mi_q121 : List (Nat × Instr × Nat) := [(0, .aload_n 0, 1), (1, .dup, 1), (2, .getfield 76, 3), (5, .iconst 1, 1), (6, .iadd, 1), (7, .putfield 76, 3), (10, .aload_n 0, 1), (11, .iconst 0, 1), (12, .putfield 79, 3), (15, .return_, 1)]
def mi_M121 : mi_M := (⟨"TypeLoom$Types", "begin", "()V"⟩, prog_10_method_18_code, 1, none, 8, 1, 0, mi_q121, [], [])
def mi_q122 : List (Nat × Instr × Nat) := [(0, .aload_n 0, 1), (1, .invokevirtual 60, 3), (4, .aload_n 0, 1), (5, .iload_n 1, 1), (6, .invokevirtual 63, 3), (9, .pop, 1), (10, .iconst 0, 1), (11, .istore_n 3, 1), (12, .iload_n 3, 1), (13, .aload_n 0, 1), (14, .getfield 79, 3), (17, .if_icmp .ge 35, 3), (20, .aload_n 0, 1), (21, .aload_n 0, 1), (22, .getfield 25, 3), (25, .iload_n 3, 1), (26, .iaload, 1), (27, .iload_n 2, 1), (28, .invokevirtual 85, 3), (31, .istore 4, 2), (33, .aload_n 0, 1), (34, .getfield 22, 3), (37, .aload_n 0, 1), (38, .getfield 25, 3), (41, .iload_n 3, 1), (42, .iaload, 1), (43, .iload 4, 2), (45, .iastore, 1), (46, .iinc 3 1, 3), (49, .goto (-37), 3), (52, .aload_n 0, 1), (53, .iload_n 1, 1), (54, .invokevirtual 89, 3), (57, .ireturn, 1)]
def mi_M122 : mi_M := (⟨"TypeLoom$Types", "copy", "(IZ)I"⟩, prog_10_method_24_code, 5, (some .int), 8, 1, 2, mi_q122, [], [])
def mi_q123 : List (Nat × Instr × Nat) := [(0, .iload_n 1, 1), (1, .iconst 2, 1), (2, .if_icmp .le 21, 3), (5, .iload_n 1, 1), (6, .aload_n 0, 1), (7, .getfield 35, 3), (10, .if_icmp .gt 13, 3), (13, .aload_n 0, 1), (14, .iload_n 1, 1), (15, .putfield 35, 3), (18, .aload_n 0, 1), (19, .iload_n 1, 1), (20, .putfield 38, 3), (23, .return_, 1)]
def mi_M123 : mi_M := (⟨"TypeLoom$Types", "cut", "(I)V"⟩, prog_10_method_8_code, 2, none, 8, 1, 1, mi_q123, [], [])
def mi_q124 : List (Nat × Instr × Nat) := [(0, .aload_n 0, 1), (1, .aload_n 0, 1), (2, .getfield 38, 3), (5, .putfield 35, 3), (8, .return_, 1)]
def mi_M124 : mi_M := (⟨"TypeLoom$Types", "dropLoose", "()V"⟩, prog_10_method_10_code, 1, none, 8, 1, 0, mi_q124, [], [])
def mi_q125 : List (Nat × Instr × Nat) := [(0, .iload_n 1, 1), (1, .ifCond .eq 26, 3), (4, .aload_n 0, 1), (5, .getfield 19, 3), (8, .iload_n 1, 1), (9, .iaload, 1), (10, .iconst 2, 1), (11, .aload_n 0, 1), (12, .getfield 76, 3), (15, .imul, 1), (16, .if_icmp .ge 11, 3), (19, .iload_n 2, 1), (20, .aload_n 0, 1), (21, .getfield 31, 3), (24, .if_icmp .lt 5, 3), (27, .iload_n 2, 1), (28, .ireturn, 1), (29, .aload_n 0, 1), (30, .getfield 19, 3), (33, .iload_n 1, 1), (34, .iconst 2, 1), (35, .aload_n 0, 1), (36, .getfield 76, 3), (39, .imul, 1), (40, .iastore, 1), (41, .aload_n 0, 1), (42, .getfield 22, 3), (45, .iload_n 1, 1), (46, .iconst 0, 1), (47, .iastore, 1), (48, .aload_n 0, 1), (49, .getfield 28, 3), (52, .iload_n 2, 1), (53, .iload_n 1, 1), (54, .iastore, 1), (55, .iload_n 2, 1), (56, .iconst 1, 1), (57, .iadd, 1), (58, .ireturn, 1)]
def mi_M125 : mi_M := (⟨"TypeLoom$Types", "enter", "(II)I"⟩, prog_10_method_22_code, 3, (some .int), 8, 1, 2, mi_q125, [], [])
def mi_q126 : List (Nat × Instr × Nat) := [(0, .aload_n 0, 1), (1, .getfield 35, 3), (4, .ireturn, 1)]
def mi_M126 : mi_M := (⟨"TypeLoom$Types", "extent", "()I"⟩, prog_10_method_7_code, 1, (some .int), 8, 1, 0, mi_q126, [], [])
def mi_q127 : List (Nat × Instr × Nat) := [(0, .iload_n 1, 1), (1, .ifCond .le 11, 3), (4, .iload_n 1, 1), (5, .aload_n 0, 1), (6, .getfield 35, 3), (9, .if_icmp .lt 5, 3), (12, .iconst 0, 1), (13, .ireturn, 1), (14, .iload_n 1, 1), (15, .istore_n 2, 1), (16, .iconst 0, 1), (17, .istore_n 3, 1), (18, .iload_n 3, 1), (19, .aload_n 0, 1), (20, .getfield 35, 3), (23, .if_icmp .ge 26, 3), (26, .aload_n 0, 1), (27, .getfield 16, 3), (30, .iload_n 2, 1), (31, .iaload, 1), (32, .iload_n 2, 1), (33, .if_icmp .eq 16, 3), (36, .aload_n 0, 1), (37, .getfield 16, 3), (40, .iload_n 2, 1), (41, .iaload, 1), (42, .istore_n 2, 1), (43, .iinc 3 1, 3), (46, .goto (-28), 3), (49, .iload_n 1, 1), (50, .istore_n 3, 1), (51, .iconst 0, 1), (52, .istore 4, 2), (54, .iload 4, 2), (56, .aload_n 0, 1), (57, .getfield 35, 3), (60, .if_icmp .ge 32, 3), (63, .iload_n 3, 1), (64, .iload_n 2, 1), (65, .if_icmp .eq 27, 3), (68, .aload_n 0, 1), (69, .getfield 16, 3), (72, .iload_n 3, 1), (73, .iaload, 1), (74, .istore 5, 2), (76, .aload_n 0, 1), (77, .getfield 16, 3), (80, .iload_n 3, 1), (81, .iload_n 2, 1), (82, .iastore, 1), (83, .iload 5, 2), (85, .istore_n 3, 1), (86, .iinc 4 1, 3), (89, .goto (-35), 3), (92, .iload_n 2, 1), (93, .ireturn, 1)]
def mi_M127 : mi_M := (⟨"TypeLoom$Types", "find", "(I)I"⟩, prog_10_method_11_code, 6, (some .int), 8, 1, 1, mi_q127, [], [])
def mi_q128 : List (Nat × Instr × Nat) := [(0, .aload_n 0, 1), (1, .iload_n 1, 1), (2, .iload_n 2, 1), (3, .iconst 0, 1), (4, .invokevirtual 56, 3), (7, .istore_n 3, 1), (8, .iconst 0, 1), (9, .istore 4, 2), (11, .iload 4, 2), (13, .aload_n 0, 1), (14, .getfield 35, 3), (17, .if_icmp .ge 81, 3), (20, .iload_n 3, 1), (21, .ifCond .le 77, 3), (24, .iinc 3 (-1), 3), (27, .aload_n 0, 1), (28, .getfield 25, 3), (31, .iload_n 3, 1), (32, .iaload, 1), (33, .istore 5, 2), (35, .aload_n 0, 1), (36, .iload 5, 2), (38, .invokevirtual 52, 3), (41, .istore 6, 2), (43, .iconst 0, 1), (44, .istore 7, 2), (46, .iload 7, 2), (48, .iconst 3, 1), (49, .if_icmp .ge 43, 3), (52, .iload_n 3, 1), (53, .ifCond .lt 39, 3), (56, .aload_n 0, 1), (57, .aload_n 0, 1), (58, .getfield 13, 3), (61, .iload 5, 2), (63, .iconst 3, 1), (64, .imul, 1), (65, .iload 7, 2), (67, .iadd, 1), (68, .iaload, 1), (69, .aload_n 0, 1), (70, .getfield 13, 3), (73, .iload 6, 2), (75, .iconst 3, 1), (76, .imul, 1), (77, .iload 7, 2), (79, .iadd, 1), (80, .iaload, 1), (81, .iload_n 3, 1), (82, .invokevirtual 56, 3), (85, .istore_n 3, 1), (86, .iinc 7 1, 3), (89, .goto (-43), 3), (92, .iinc 4 1, 3), (95, .goto (-84), 3), (98, .iload_n 3, 1), (99, .ifCond .eq 5, 3), (102, .iconst 0, 1), (103, .ireturn, 1), (104, .aload_n 0, 1), (105, .invokevirtual 60, 3), (108, .aload_n 0, 1), (109, .iload_n 1, 1), (110, .invokevirtual 63, 3), (113, .ireturn, 1)]
def mi_M128 : mi_M := (⟨"TypeLoom$Types", "fits", "(II)Z"⟩, prog_10_method_16_code, 8, (some .boolean), 8, 1, 2, mi_q128, [], [])
def mi_q129 : List (Nat × Instr × Nat) := [(0, .aload_n 0, 1), (1, .bipush 6, 2), (3, .iload_n 1, 1), (4, .iload_n 2, 1), (5, .iconst 0, 1), (6, .invokevirtual 48, 3), (9, .ireturn, 1)]
def mi_M129 : mi_M := (⟨"TypeLoom$Types", "function", "(II)I"⟩, prog_10_method_6_code, 3, (some .int), 8, 1, 2, mi_q129, [], [])
def mi_q130 : List (Nat × Instr × Nat) := [(0, .aload_n 0, 1), (1, .aload_n 0, 1), (2, .iload_n 1, 1), (3, .invokevirtual 52, 3), (6, .iconst 0, 1), (7, .invokevirtual 82, 3), (10, .istore_n 2, 1), (11, .iconst 4, 1), (12, .aload_n 0, 1), (13, .getfield 35, 3), (16, .imul, 1), (17, .istore_n 3, 1), (18, .iconst 0, 1), (19, .istore 4, 2), (21, .iload 4, 2), (23, .iload_n 3, 1), (24, .if_icmp .ge 135, 3), (27, .iload_n 2, 1), (28, .ifCond .le 131, 3), (31, .aload_n 0, 1), (32, .getfield 28, 3), (35, .iload_n 2, 1), (36, .iconst 1, 1), (37, .isub, 1), (38, .iaload, 1), (39, .istore 5, 2), (41, .aload_n 0, 1), (42, .getfield 22, 3), (45, .iload 5, 2), (47, .iaload, 1), (48, .istore 6, 2), (50, .iload 6, 2), (52, .iconst 3, 1), (53, .if_icmp .lt 45, 3), (56, .aload_n 0, 1), (57, .getfield 19, 3), (60, .iload 5, 2), (62, .iconst 2, 1), (63, .aload_n 0, 1), (64, .getfield 76, 3), (67, .imul, 1), (68, .iconst 1, 1), (69, .iadd, 1), (70, .iastore, 1), (71, .aload_n 0, 1), (72, .getfield 25, 3), (75, .aload_n 0, 1), (76, .getfield 79, 3), (79, .iload 5, 2), (81, .iastore, 1), (82, .aload_n 0, 1), (83, .dup, 1), (84, .getfield 79, 3), (87, .iconst 1, 1), (88, .iadd, 1), (89, .putfield 79, 3), (92, .iinc 2 (-1), 3), (95, .goto 58, 3), (98, .aload_n 0, 1), (99, .getfield 22, 3), (102, .iload 5, 2), (104, .iload 6, 2), (106, .iconst 1, 1), (107, .iadd, 1), (108, .iastore, 1), (109, .aload_n 0, 1), (110, .aload_n 0, 1), (111, .getfield 13, 3), (114, .iload 5, 2), (116, .iconst 3, 1), (117, .imul, 1), (118, .iload 6, 2), (120, .iadd, 1), (121, .iaload, 1), (122, .invokevirtual 52, 3), (125, .istore 7, 2), (127, .aload_n 0, 1), (128, .getfield 19, 3), (131, .iload 7, 2), (133, .iaload, 1), (134, .iconst 2, 1), (135, .aload_n 0, 1), (136, .getfield 76, 3), (139, .imul, 1), (140, .if_icmp .ne 5, 3), (143, .iconst 0, 1), (144, .ireturn, 1), (145, .aload_n 0, 1), (146, .iload 7, 2), (148, .iload_n 2, 1), (149, .invokevirtual 82, 3), (152, .istore_n 2, 1), (153, .iinc 4 1, 3), (156, .goto (-135), 3), (159, .iconst 1, 1), (160, .ireturn, 1)]
def mi_M130 : mi_M := (⟨"TypeLoom$Types", "gather", "(I)Z"⟩, prog_10_method_21_code, 8, (some .boolean), 8, 1, 1, mi_q130, [], [])
def mi_q131 : List (Nat × Instr × Nat) := [(0, .aload_n 0, 1), (1, .getfield 79, 3), (4, .ireturn, 1)]
def mi_M131 : mi_M := (⟨"TypeLoom$Types", "gathered", "()I"⟩, prog_10_method_19_code, 1, (some .int), 8, 1, 0, mi_q131, [], [])
def mi_q132 : List (Nat × Instr × Nat) := [(0, .iload_n 1, 1), (1, .ifCond .lt 20, 3), (4, .iload_n 1, 1), (5, .aload_n 0, 1), (6, .getfield 79, 3), (9, .if_icmp .ge 12, 3), (12, .aload_n 0, 1), (13, .getfield 25, 3), (16, .iload_n 1, 1), (17, .iaload, 1), (18, .goto 4, 3), (21, .iconst 0, 1), (22, .ireturn, 1)]
def mi_M132 : mi_M := (⟨"TypeLoom$Types", "gatheredAt", "(I)I"⟩, prog_10_method_20_code, 2, (some .int), 8, 1, 1, mi_q132, [], [])
def mi_q133 : List (Nat × Instr × Nat) := [(0, .aload_n 0, 1), (1, .iload_n 1, 1), (2, .invokevirtual 52, 3), (5, .istore 4, 2), (7, .aload_n 0, 1), (8, .iload_n 2, 1), (9, .invokevirtual 52, 3), (12, .istore 5, 2), (14, .iload 4, 2), (16, .iload 5, 2), (18, .if_icmp .ne 5, 3), (21, .iload_n 3, 1), (22, .ireturn, 1), (23, .aload_n 0, 1), (24, .getfield 9, 3), (27, .iload 4, 2), (29, .iaload, 1), (30, .iconst 3, 1), (31, .if_icmp .ne 14, 3), (34, .aload_n 0, 1), (35, .getfield 16, 3), (38, .iload 4, 2), (40, .iload 5, 2), (42, .iastore, 1), (43, .iload_n 3, 1), (44, .ireturn, 1), (45, .aload_n 0, 1), (46, .getfield 9, 3), (49, .iload 5, 2), (51, .iaload, 1), (52, .iconst 3, 1), (53, .if_icmp .ne 14, 3), (56, .aload_n 0, 1), (57, .getfield 16, 3), (60, .iload 5, 2), (62, .iload 4, 2), (64, .iastore, 1), (65, .iload_n 3, 1), (66, .ireturn, 1), (67, .aload_n 0, 1), (68, .getfield 9, 3), (71, .iload 4, 2), (73, .iaload, 1), (74, .aload_n 0, 1), (75, .getfield 9, 3), (78, .iload 5, 2), (80, .iaload, 1), (81, .if_icmp .ne 22, 3), (84, .aload_n 0, 1), (85, .getfield 9, 3), (88, .iload 4, 2), (90, .iaload, 1), (91, .iconst 4, 1), (92, .if_icmp .eq 11, 3), (95, .iload_n 3, 1), (96, .aload_n 0, 1), (97, .getfield 31, 3), (100, .if_icmp .lt 5, 3), (103, .iconst (-1), 1), (104, .ireturn, 1), (105, .iload 4, 2), (107, .iload 5, 2), (109, .invokestatic 67, 3), (112, .istore 6, 2), (114, .aload_n 0, 1), (115, .getfield 16, 3), (118, .iload 6, 2), (120, .iload 4, 2), (122, .iload 5, 2), (124, .invokestatic 73, 3), (127, .iastore, 1), (128, .aload_n 0, 1), (129, .getfield 25, 3), (132, .iload_n 3, 1), (133, .iload 6, 2), (135, .iastore, 1), (136, .iload_n 3, 1), (137, .iconst 1, 1), (138, .iadd, 1), (139, .ireturn, 1)]
def mi_M133 : mi_M := (⟨"TypeLoom$Types", "join", "(III)I"⟩, prog_10_method_17_code, 7, (some .int), 8, 1, 3, mi_q133, [], [])
def mi_q134 : List (Nat × Instr × Nat) := [(0, .aload_n 0, 1), (1, .aload_n 0, 1), (2, .getfield 35, 3), (5, .putfield 38, 3), (8, .return_, 1)]
def mi_M134 : mi_M := (⟨"TypeLoom$Types", "keep", "()V"⟩, prog_10_method_9_code, 1, none, 8, 1, 0, mi_q134, [], [])
def mi_q135 : List (Nat × Instr × Nat) := [(0, .iload_n 2, 1), (1, .ifCond .lt 8, 3), (4, .iload_n 2, 1), (5, .iconst 3, 1), (6, .if_icmp .lt 7, 3), (9, .iconst 0, 1), (10, .goto 21, 3), (13, .aload_n 0, 1), (14, .aload_n 0, 1), (15, .getfield 13, 3), (18, .aload_n 0, 1), (19, .iload_n 1, 1), (20, .invokevirtual 52, 3), (23, .iconst 3, 1), (24, .imul, 1), (25, .iload_n 2, 1), (26, .iadd, 1), (27, .iaload, 1), (28, .invokevirtual 52, 3), (31, .ireturn, 1)]
def mi_M135 : mi_M := (⟨"TypeLoom$Types", "kidOf", "(II)I"⟩, prog_10_method_13_code, 3, (some .int), 8, 1, 2, mi_q135, [], [])
def mi_q136 : List (Nat × Instr × Nat) := [(0, .aload_n 0, 1), (1, .getfield 35, 3), (4, .aload_n 0, 1), (5, .getfield 31, 3), (8, .if_icmp .lt 129, 3), (11, .aload_n 0, 1), (12, .getfield 31, 3), (15, .ldc 41, 2), (17, .if_icmp .ge 120, 3), (20, .aload_n 0, 1), (21, .aload_n 0, 1), (22, .getfield 31, 3), (25, .iconst 2, 1), (26, .imul, 1), (27, .putfield 31, 3), (30, .aload_n 0, 1), (31, .aload_n 0, 1), (32, .getfield 9, 3), (35, .aload_n 0, 1), (36, .getfield 31, 3), (39, .invokestatic 42, 3), (42, .putfield 9, 3), (45, .aload_n 0, 1), (46, .aload_n 0, 1), (47, .getfield 13, 3), (50, .aload_n 0, 1), (51, .getfield 31, 3), (54, .iconst 3, 1), (55, .imul, 1), (56, .invokestatic 42, 3), (59, .putfield 13, 3), (62, .aload_n 0, 1), (63, .aload_n 0, 1), (64, .getfield 16, 3), (67, .aload_n 0, 1), (68, .getfield 31, 3), (71, .invokestatic 42, 3), (74, .putfield 16, 3), (77, .aload_n 0, 1), (78, .aload_n 0, 1), (79, .getfield 19, 3), (82, .aload_n 0, 1), (83, .getfield 31, 3), (86, .invokestatic 42, 3), (89, .putfield 19, 3), (92, .aload_n 0, 1), (93, .aload_n 0, 1), (94, .getfield 22, 3), (97, .aload_n 0, 1), (98, .getfield 31, 3), (101, .invokestatic 42, 3), (104, .putfield 22, 3), (107, .aload_n 0, 1), (108, .aload_n 0, 1), (109, .getfield 25, 3), (112, .aload_n 0, 1), (113, .getfield 31, 3), (116, .invokestatic 42, 3), (119, .putfield 25, 3), (122, .aload_n 0, 1), (123, .aload_n 0, 1), (124, .getfield 28, 3), (127, .aload_n 0, 1), (128, .getfield 31, 3), (131, .invokestatic 42, 3), (134, .putfield 28, 3), (137, .aload_n 0, 1), (138, .getfield 35, 3), (141, .aload_n 0, 1), (142, .getfield 31, 3), (145, .if_icmp .lt 5, 3), (148, .iconst 0, 1), (149, .ireturn, 1), (150, .aload_n 0, 1), (151, .getfield 35, 3), (154, .istore 5, 2), (156, .aload_n 0, 1), (157, .dup, 1), (158, .getfield 35, 3), (161, .iconst 1, 1), (162, .iadd, 1), (163, .putfield 35, 3), (166, .aload_n 0, 1), (167, .getfield 9, 3), (170, .iload 5, 2), (172, .iload_n 1, 1), (173, .iastore, 1), (174, .aload_n 0, 1), (175, .getfield 16, 3), (178, .iload 5, 2), (180, .iload 5, 2), (182, .iastore, 1), (183, .aload_n 0, 1), (184, .getfield 19, 3), (187, .iload 5, 2), (189, .iconst 0, 1), (190, .iastore, 1), (191, .aload_n 0, 1), (192, .getfield 22, 3), (195, .iload 5, 2), (197, .iconst 0, 1), (198, .iastore, 1), (199, .aload_n 0, 1), (200, .getfield 13, 3), (203, .iload 5, 2), (205, .iconst 3, 1), (206, .imul, 1), (207, .iload_n 2, 1), (208, .iastore, 1), (209, .aload_n 0, 1), (210, .getfield 13, 3), (213, .iload 5, 2), (215, .iconst 3, 1), (216, .imul, 1), (217, .iconst 1, 1), (218, .iadd, 1), (219, .iload_n 3, 1), (220, .iastore, 1), (221, .aload_n 0, 1), (222, .getfield 13, 3), (225, .iload 5, 2), (227, .iconst 3, 1), (228, .imul, 1), (229, .iconst 2, 1), (230, .iadd, 1), (231, .iload 4, 2), (233, .iastore, 1), (234, .iload 5, 2), (236, .ireturn, 1)]
def mi_M136 : mi_M := (⟨"TypeLoom$Types", "make", "(IIII)I"⟩, prog_10_method_2_code, 6, (some .int), 8, 1, 4, mi_q136, [], [])
def mi_q137 : List (Nat × Instr × Nat) := [(0, .aload_n 0, 1), (1, .iconst 4, 1), (2, .iconst 0, 1), (3, .iconst 0, 1), (4, .iconst 0, 1), (5, .invokevirtual 48, 3), (8, .ireturn, 1)]
def mi_M137 : mi_M := (⟨"TypeLoom$Types", "mark", "()I"⟩, prog_10_method_4_code, 1, (some .int), 8, 1, 0, mi_q137, [], [])
def mi_q138 : List (Nat × Instr × Nat) := [(0, .aload_n 0, 1), (1, .getfield 79, 3), (4, .istore_n 2, 1), (5, .aload_n 0, 1), (6, .iload_n 1, 1), (7, .invokevirtual 63, 3), (10, .pop, 1), (11, .iload_n 2, 1), (12, .istore_n 3, 1), (13, .iload_n 3, 1), (14, .aload_n 0, 1), (15, .getfield 79, 3), (18, .if_icmp .ge 36, 3), (21, .aload_n 0, 1), (22, .getfield 9, 3), (25, .aload_n 0, 1), (26, .getfield 25, 3), (29, .iload_n 3, 1), (30, .iaload, 1), (31, .iaload, 1), (32, .iconst 3, 1), (33, .if_icmp .ne 15, 3), (36, .aload_n 0, 1), (37, .getfield 9, 3), (40, .aload_n 0, 1), (41, .getfield 25, 3), (44, .iload_n 3, 1), (45, .iaload, 1), (46, .iconst 4, 1), (47, .iastore, 1), (48, .iinc 3 1, 3), (51, .goto (-38), 3), (54, .return_, 1)]
def mi_M138 : mi_M := (⟨"TypeLoom$Types", "markUnknown", "(I)V"⟩, prog_10_method_23_code, 4, none, 8, 1, 1, mi_q138, [], [])
def mi_q139 : List (Nat × Instr × Nat) := [(0, .aload_n 0, 1), (1, .invokevirtual 60, 3), (4, .aload_n 0, 1), (5, .iload_n 1, 1), (6, .invokevirtual 63, 3), (9, .pop, 1), (10, .iconst 0, 1), (11, .istore_n 2, 1), (12, .iconst 0, 1), (13, .istore_n 3, 1), (14, .iload_n 3, 1), (15, .aload_n 0, 1), (16, .getfield 79, 3), (19, .if_icmp .ge 42, 3), (22, .aload_n 0, 1), (23, .getfield 9, 3), (26, .aload_n 0, 1), (27, .getfield 25, 3), (30, .iload_n 3, 1), (31, .iaload, 1), (32, .iaload, 1), (33, .istore 4, 2), (35, .iload_n 2, 1), (36, .iload 4, 2), (38, .iconst 4, 1), (39, .if_icmp .eq 9, 3), (42, .iload 4, 2), (44, .iconst 3, 1), (45, .if_icmp .ne 7, 3), (48, .iconst 1, 1), (49, .goto 4, 3), (52, .iconst 0, 1), (53, .iadd, 1), (54, .istore_n 2, 1), (55, .iinc 3 1, 3), (58, .goto (-44), 3), (61, .iload_n 2, 1), (62, .ireturn, 1)]
def mi_M139 : mi_M := (⟨"TypeLoom$Types", "marksOf", "(I)I"⟩, prog_10_method_28_code, 5, (some .int), 8, 1, 1, mi_q139, [], [])
def mi_q140 : List (Nat × Instr × Nat) := [(0, .aload_n 0, 1), (1, .getfield 22, 3), (4, .aload_n 0, 1), (5, .iload_n 1, 1), (6, .invokevirtual 52, 3), (9, .iaload, 1), (10, .ireturn, 1)]
def mi_M140 : mi_M := (⟨"TypeLoom$Types", "noteOf", "(I)I"⟩, prog_10_method_14_code, 2, (some .int), 8, 1, 1, mi_q140, [], [])
def mi_q141 : List (Nat × Instr × Nat) := [(0, .aload_n 0, 1), (1, .aload_n 0, 1), (2, .getfield 13, 3), (5, .iload_n 1, 1), (6, .iconst 3, 1), (7, .imul, 1), (8, .iload_n 2, 1), (9, .iadd, 1), (10, .iaload, 1), (11, .invokevirtual 52, 3), (14, .istore_n 3, 1), (15, .iload_n 3, 1), (16, .ifCond .ne 7, 3), (19, .iconst 0, 1), (20, .goto 9, 3), (23, .aload_n 0, 1), (24, .getfield 22, 3), (27, .iload_n 3, 1), (28, .iaload, 1), (29, .ireturn, 1)]
def mi_M141 : mi_M := (⟨"TypeLoom$Types", "noteOfKid", "(II)I"⟩, prog_10_method_26_code, 4, (some .int), 8, 1, 2, mi_q141, [], [])
def mi_q142 : List (Nat × Instr × Nat) := [(0, .aload_n 0, 1), (1, .iconst 5, 1), (2, .iload_n 1, 1), (3, .iload_n 2, 1), (4, .iconst 0, 1), (5, .invokevirtual 48, 3), (8, .ireturn, 1)]
def mi_M142 : mi_M := (⟨"TypeLoom$Types", "pair", "(II)I"⟩, prog_10_method_5_code, 3, (some .int), 8, 1, 2, mi_q142, [], [])
def mi_q143 : List (Nat × Instr × Nat) := [(0, .aload_n 0, 1), (1, .invokevirtual 60, 3), (4, .aload_n 0, 1), (5, .iload_n 1, 1), (6, .invokevirtual 63, 3), (9, .pop, 1), (10, .iconst 0, 1), (11, .istore_n 2, 1), (12, .iload_n 2, 1), (13, .aload_n 0, 1), (14, .getfield 79, 3), (17, .if_icmp .ge 53, 3), (20, .aload_n 0, 1), (21, .getfield 25, 3), (24, .iload_n 2, 1), (25, .iaload, 1), (26, .istore_n 3, 1), (27, .iconst 1, 1), (28, .aload_n 0, 1), (29, .iload_n 3, 1), (30, .iconst 0, 1), (31, .invokevirtual 92, 3), (34, .iadd, 1), (35, .aload_n 0, 1), (36, .iload_n 3, 1), (37, .iconst 1, 1), (38, .invokevirtual 92, 3), (41, .iadd, 1), (42, .aload_n 0, 1), (43, .iload_n 3, 1), (44, .iconst 2, 1), (45, .invokevirtual 92, 3), (48, .iadd, 1), (49, .istore 4, 2), (51, .aload_n 0, 1), (52, .getfield 22, 3), (55, .iload_n 3, 1), (56, .iload 4, 2), (58, .ldc 98, 2), (60, .invokestatic 73, 3), (63, .iastore, 1), (64, .iinc 2 1, 3), (67, .goto (-55), 3), (70, .aload_n 0, 1), (71, .iload_n 1, 1), (72, .invokevirtual 89, 3), (75, .ireturn, 1)]
def mi_M143 : mi_M := (⟨"TypeLoom$Types", "partsOf", "(I)I"⟩, prog_10_method_27_code, 5, (some .int), 8, 1, 1, mi_q143, [], [])
def mi_q144 : List (Nat × Instr × Nat) := [(0, .aload_n 0, 1), (1, .invokevirtual 60, 3), (4, .aload_n 0, 1), (5, .iload_n 1, 1), (6, .invokevirtual 63, 3), (9, .pop, 1), (10, .iconst 0, 1), (11, .istore_n 2, 1), (12, .iload_n 2, 1), (13, .aload_n 0, 1), (14, .getfield 79, 3), (17, .if_icmp .ge 71, 3), (20, .aload_n 0, 1), (21, .getfield 25, 3), (24, .iload_n 2, 1), (25, .iaload, 1), (26, .istore_n 3, 1), (27, .aload_n 0, 1), (28, .iload_n 3, 1), (29, .iconst 0, 1), (30, .invokevirtual 92, 3), (33, .aload_n 0, 1), (34, .getfield 9, 3), (37, .iload_n 3, 1), (38, .iaload, 1), (39, .bipush 6, 2), (41, .if_icmp .ne 7, 3), (44, .iconst 1, 1), (45, .goto 4, 3), (48, .iconst 0, 1), (49, .iadd, 1), (50, .istore 4, 2), (52, .aload_n 0, 1), (53, .iload_n 3, 1), (54, .iconst 1, 1), (55, .invokevirtual 92, 3), (58, .aload_n 0, 1), (59, .iload_n 3, 1), (60, .iconst 2, 1), (61, .invokevirtual 92, 3), (64, .invokestatic 67, 3), (67, .istore 5, 2), (69, .aload_n 0, 1), (70, .getfield 22, 3), (73, .iload_n 3, 1), (74, .iload 4, 2), (76, .iload 5, 2), (78, .invokestatic 67, 3), (81, .iastore, 1), (82, .iinc 2 1, 3), (85, .goto (-73), 3), (88, .aload_n 0, 1), (89, .iload_n 1, 1), (90, .invokevirtual 89, 3), (93, .ireturn, 1)]
def mi_M144 : mi_M := (⟨"TypeLoom$Types", "rankOf", "(I)I"⟩, prog_10_method_29_code, 6, (some .int), 8, 1, 1, mi_q144, [], [])
def mi_q145 : List (Nat × Instr × Nat) := [(0, .aload_n 0, 1), (1, .getfield 22, 3), (4, .aload_n 0, 1), (5, .iload_n 1, 1), (6, .invokevirtual 52, 3), (9, .iload_n 2, 1), (10, .iastore, 1), (11, .return_, 1)]
def mi_M145 : mi_M := (⟨"TypeLoom$Types", "setNote", "(II)V"⟩, prog_10_method_15_code, 3, none, 8, 1, 2, mi_q145, [], [])
def mi_q146 : List (Nat × Instr × Nat) := [(0, .aload_n 0, 1), (1, .getfield 9, 3), (4, .aload_n 0, 1), (5, .iload_n 1, 1), (6, .invokevirtual 52, 3), (9, .iaload, 1), (10, .ireturn, 1)]
def mi_M146 : mi_M := (⟨"TypeLoom$Types", "tagOf", "(I)I"⟩, prog_10_method_12_code, 2, (some .int), 8, 1, 1, mi_q146, [], [])
def mi_q147 : List (Nat × Instr × Nat) := [(0, .aload_n 0, 1), (1, .getfield 9, 3), (4, .iload_n 1, 1), (5, .iaload, 1), (6, .istore_n 3, 1), (7, .iload_n 3, 1), (8, .iconst 1, 1), (9, .if_icmp .eq 22, 3), (12, .iload_n 3, 1), (13, .iconst 2, 1), (14, .if_icmp .eq 17, 3), (17, .iload_n 3, 1), (18, .iconst 3, 1), (19, .if_icmp .eq 12, 3), (22, .iload_n 3, 1), (23, .iconst 4, 1), (24, .if_icmp .ne 9, 3), (27, .iload_n 2, 1), (28, .ifCond .eq 5, 3), (31, .iload_n 1, 1), (32, .ireturn, 1), (33, .iload_n 3, 1), (34, .iconst 4, 1), (35, .if_icmp .ne 12, 3), (38, .aload_n 0, 1), (39, .iconst 3, 1), (40, .iconst 0, 1), (41, .iconst 0, 1), (42, .iconst 0, 1), (43, .invokevirtual 48, 3), (46, .ireturn, 1), (47, .aload_n 0, 1), (48, .iload_n 1, 1), (49, .iconst 0, 1), (50, .invokevirtual 92, 3), (53, .istore 4, 2), (55, .aload_n 0, 1), (56, .iload_n 1, 1), (57, .iconst 1, 1), (58, .invokevirtual 92, 3), (61, .istore 5, 2), (63, .aload_n 0, 1), (64, .iload_n 1, 1), (65, .iconst 2, 1), (66, .invokevirtual 92, 3), (69, .istore 6, 2), (71, .iload 4, 2), (73, .aload_n 0, 1), (74, .iload_n 1, 1), (75, .iconst 0, 1), (76, .invokevirtual 95, 3), (79, .if_icmp .ne 29, 3), (82, .iload 5, 2), (84, .aload_n 0, 1), (85, .iload_n 1, 1), (86, .iconst 1, 1), (87, .invokevirtual 95, 3), (90, .if_icmp .ne 18, 3), (93, .iload 6, 2), (95, .aload_n 0, 1), (96, .iload_n 1, 1), (97, .iconst 2, 1), (98, .invokevirtual 95, 3), (101, .if_icmp .ne 7, 3), (104, .iconst 1, 1), (105, .goto 4, 3), (108, .iconst 0, 1), (109, .istore 7, 2), (111, .iload 7, 2), (113, .ifCond .eq 15, 3), (116, .iload_n 1, 1), (117, .aload_n 0, 1), (118, .getfield 38, 3), (121, .if_icmp .lt 7, 3), (124, .iload_n 1, 1), (125, .goto 14, 3), (128, .aload_n 0, 1), (129, .iload_n 3, 1), (130, .iload 4, 2), (132, .iload 5, 2), (134, .iload 6, 2), (136, .invokevirtual 48, 3), (139, .ireturn, 1)]
def mi_M147 : mi_M := (⟨"TypeLoom$Types", "twinOf", "(IZ)I"⟩, prog_10_method_25_code, 8, (some .int), 8, 1, 2, mi_q147, [], [])
def mi_q148 : List (Nat × Instr × Nat) := [(0, .aload_n 0, 1), (1, .iconst 3, 1), (2, .iconst 0, 1), (3, .iconst 0, 1), (4, .iconst 0, 1), (5, .invokevirtual 48, 3), (8, .ireturn, 1)]
def mi_M148 : mi_M := (⟨"TypeLoom$Types", "unknown", "()I"⟩, prog_10_method_3_code, 1, (some .int), 8, 1, 0, mi_q148, [], [])
def mi_q149 : List (Nat × Instr × Nat) := [(0, .aload_n 0, 1), (1, .invokespecial 1, 3), (4, .aload_n 0, 1), (5, .sipush 400, 3), (8, .newarray .byte, 2), (10, .putfield 9, 3), (13, .aload_n 0, 1), (14, .sipush 1024, 3), (17, .newarray .int, 2), (19, .putfield 13, 3), (22, .aload_n 0, 1), (23, .aload_n 1, 1), (24, .putfield 17, 3), (27, .aload_n 0, 1), (28, .aload_n 2, 1), (29, .putfield 21, 3), (32, .return_, 1)]
def mi_M149 : mi_M := (⟨"TypeLoom$Writer", "<init>", "(LTypeLoom$Types;LTypeLoom$Known;)V"⟩, prog_11_method_1_code, 3, none, 9, 2, 2, mi_q149, [], [])
def mi_q150 : List (Nat × Instr × Nat) := [(0, .aload_n 0, 1), (1, .getfield 17, 3), (4, .iload_n 1, 1), (5, .invokevirtual 72, 3), (8, .bipush 7, 2), (10, .if_icmp .ge 5, 3), (13, .iconst 0, 1), (14, .ireturn, 1), (15, .iconst 0, 1), (16, .istore_n 2, 1), (17, .iconst 0, 1), (18, .istore_n 3, 1), (19, .iload_n 3, 1), (20, .iconst 3, 1), (21, .if_icmp .ge 29, 3), (24, .iload_n 2, 1), (25, .aload_n 0, 1), (26, .getfield 17, 3), (29, .iload_n 1, 1), (30, .iload_n 3, 1), (31, .invokevirtual 78, 3), (34, .ifCond .eq 7, 3), (37, .iconst 1, 1), (38, .goto 4, 3), (41, .iconst 0, 1), (42, .iadd, 1), (43, .istore_n 2, 1), (44, .iinc 3 1, 3), (47, .goto (-28), 3), (50, .iload_n 2, 1), (51, .ireturn, 1)]
def mi_M150 : mi_M := (⟨"TypeLoom$Writer", "blanks", "(I)I"⟩, prog_11_method_9_code, 4, (some .int), 9, 1, 1, mi_q150, [], [])
def mi_q151 : List (Nat × Instr × Nat) := [(0, .iload_n 1, 1), (1, .ifCond .lt 20, 3), (4, .iload_n 1, 1), (5, .aload_n 0, 1), (6, .getfield 25, 3), (9, .if_icmp .ge 12, 3), (12, .aload_n 0, 1), (13, .getfield 9, 3), (16, .iload_n 1, 1), (17, .baload, 1), (18, .goto 4, 3), (21, .iconst 0, 1), (22, .ireturn, 1)]
def mi_M151 : mi_M := (⟨"TypeLoom$Writer", "byteOn", "(I)I"⟩, prog_11_method_3_code, 2, (some .int), 9, 1, 1, mi_q151, [], [])
def mi_q152 : List (Nat × Instr × Nat) := [(0, .iconst 0, 1), (1, .istore_n 2, 1), (2, .iconst 0, 1), (3, .istore_n 3, 1), (4, .iload_n 3, 1), (5, .bipush 64, 2), (7, .if_icmp .ge 29, 3), (10, .iload_n 2, 1), (11, .lload_n 0, 1), (12, .iload_n 3, 1), (13, .lushr, 1), (14, .ldc2_w 108, 3), (17, .land, 1), (18, .lconst 0, 1), (19, .lcmp, 1), (20, .ifCond .eq 7, 3), (23, .iconst 1, 1), (24, .goto 4, 3), (27, .iconst 0, 1), (28, .iadd, 1), (29, .istore_n 2, 1), (30, .iinc 3 8, 3), (33, .goto (-29), 3), (36, .iload_n 2, 1), (37, .ireturn, 1)]
def mi_M152 : mi_M := (⟨"TypeLoom$Writer", "bytesIn", "(J)I"⟩, prog_11_method_8_code, 4, (some .int), 9, 0, 1, mi_q152, [], [])
def mi_q153 : List (Nat × Instr × Nat) := [(0, .aload_n 0, 1), (1, .getfield 17, 3), (4, .iload_n 1, 1), (5, .invokevirtual 72, 3), (8, .istore_n 3, 1), (9, .aload_n 0, 1), (10, .getfield 17, 3), (13, .iload_n 1, 1), (14, .iload_n 2, 1), (15, .invokevirtual 78, 3), (18, .istore 4, 2), (20, .aload_n 0, 1), (21, .getfield 17, 3), (24, .iload 4, 2), (26, .invokevirtual 72, 3), (29, .istore 5, 2), (31, .iload_n 3, 1), (32, .iconst 5, 1), (33, .if_icmp .ne 22, 3), (36, .iload 5, 2), (38, .iconst 5, 1), (39, .if_icmp .eq 10, 3), (42, .iload 5, 2), (44, .bipush 6, 2), (46, .if_icmp .ne 7, 3), (49, .iconst 1, 1), (50, .goto 4, 3), (53, .iconst 0, 1), (54, .ireturn, 1), (55, .iload_n 3, 1), (56, .bipush 6, 2), (58, .if_icmp .ne 20, 3), (61, .iload_n 2, 1), (62, .ifCond .ne 14, 3), (65, .iload 5, 2), (67, .bipush 6, 2), (69, .if_icmp .ne 7, 3), (72, .iconst 1, 1), (73, .goto 4, 3), (76, .iconst 0, 1), (77, .ireturn, 1), (78, .iload 5, 2), (80, .iconst 5, 1), (81, .if_icmp .eq 30, 3), (84, .iload 5, 2), (86, .bipush 6, 2), (88, .if_icmp .eq 23, 3), (91, .iload 5, 2), (93, .bipush 7, 2), (95, .if_icmp .lt 20, 3), (98, .aload_n 0, 1), (99, .getfield 17, 3), (102, .iload 4, 2), (104, .iconst 0, 1), (105, .invokevirtual 78, 3), (108, .ifCond .eq 7, 3), (111, .iconst 1, 1), (112, .goto 4, 3), (115, .iconst 0, 1), (116, .ireturn, 1)]
def mi_M153 : mi_M := (⟨"TypeLoom$Writer", "isWrapped", "(II)Z"⟩, prog_11_method_10_code, 6, (some .boolean), 9, 1, 2, mi_q153, [], [])
def mi_q154 : List (Nat × Instr × Nat) := [(0, .aload_n 0, 1), (1, .getfield 49, 3), (4, .sipush 1024, 3), (7, .if_icmp .ge 23, 3), (10, .aload_n 0, 1), (11, .getfield 13, 3), (14, .aload_n 0, 1), (15, .getfield 49, 3), (18, .iload_n 1, 1), (19, .iastore, 1), (20, .aload_n 0, 1), (21, .dup, 1), (22, .getfield 49, 3), (25, .iconst 1, 1), (26, .iadd, 1), (27, .putfield 49, 3), (30, .return_, 1)]
def mi_M154 : mi_M := (⟨"TypeLoom$Writer", "later", "(I)V"⟩, prog_11_method_18_code, 2, none, 9, 1, 1, mi_q154, [], [])
def mi_q155 : List (Nat × Instr × Nat) := [(0, .aload_n 0, 1), (1, .iload_n 1, 1), (2, .iload_n 2, 1), (3, .invokevirtual 85, 3), (6, .istore_n 3, 1), (7, .iload_n 3, 1), (8, .ifCond .eq 9, 3), (11, .aload_n 0, 1), (12, .bipush (-41), 2), (14, .invokevirtual 55, 3), (17, .aload_n 0, 1), (18, .aload_n 0, 1), (19, .getfield 17, 3), (22, .iload_n 1, 1), (23, .iload_n 2, 1), (24, .invokevirtual 78, 3), (27, .invokevirtual 55, 3), (30, .iload_n 3, 1), (31, .ifCond .eq 9, 3), (34, .aload_n 0, 1), (35, .bipush (-40), 2), (37, .invokevirtual 55, 3), (40, .return_, 1)]
def mi_M155 : mi_M := (⟨"TypeLoom$Writer", "laterPart", "(II)V"⟩, prog_11_method_16_code, 4, none, 9, 1, 2, mi_q155, [], [])
def mi_q156 : List (Nat × Instr × Nat) := [(0, .aload_n 1, 1), (1, .invokevirtual 137, 3), (4, .iconst 1, 1), (5, .isub, 1), (6, .istore_n 2, 1), (7, .iload_n 2, 1), (8, .ifCond .lt 19, 3), (11, .aload_n 0, 1), (12, .aload_n 1, 1), (13, .iload_n 2, 1), (14, .invokevirtual 142, 3), (17, .ineg, 1), (18, .invokevirtual 55, 3), (21, .iinc 2 (-1), 3), (24, .goto (-17), 3), (27, .return_, 1)]
def mi_M156 : mi_M := (⟨"TypeLoom$Writer", "laterText", "(Ljava/lang/String;)V"⟩, prog_11_method_17_code, 3, none, 9, 1, 1, mi_q156, [], [])
def mi_q157 : List (Nat × Instr × Nat) := [(0, .aload_n 0, 1), (1, .getfield 17, 3), (4, .invokevirtual 65, 3), (7, .aload_n 0, 1), (8, .getfield 17, 3), (11, .iload_n 1, 1), (12, .invokevirtual 68, 3), (15, .pop, 1), (16, .iconst 0, 1), (17, .istore_n 2, 1), (18, .iload_n 2, 1), (19, .aload_n 0, 1), (20, .getfield 17, 3), (23, .invokevirtual 33, 3), (26, .if_icmp .ge 115, 3), (29, .aload_n 0, 1), (30, .getfield 17, 3), (33, .iload_n 2, 1), (34, .invokevirtual 39, 3), (37, .istore_n 3, 1), (38, .aload_n 0, 1), (39, .aload_n 0, 1), (40, .getfield 17, 3), (43, .iload_n 3, 1), (44, .invokevirtual 72, 3), (47, .invokevirtual 75, 3), (50, .istore 4, 2), (52, .iconst 0, 1), (53, .istore 5, 2), (55, .iload 5, 2), (57, .iconst 3, 1), (58, .if_icmp .ge 56, 3), (61, .aload_n 0, 1), (62, .getfield 17, 3), (65, .iload_n 3, 1), (66, .iload 5, 2), (68, .invokevirtual 78, 3), (71, .istore 6, 2), (73, .iload 6, 2), (75, .ifCond .eq 33, 3), (78, .iload 4, 2), (80, .aload_n 0, 1), (81, .getfield 17, 3), (84, .iload 6, 2), (86, .invokevirtual 82, 3), (89, .aload_n 0, 1), (90, .iload_n 3, 1), (91, .iload 5, 2), (93, .invokevirtual 85, 3), (96, .ifCond .eq 7, 3), (99, .iconst 2, 1), (100, .goto 4, 3), (103, .iconst 0, 1), (104, .iadd, 1), (105, .iadd, 1), (106, .istore 4, 2), (108, .iinc 5 1, 3), (111, .goto (-56), 3), (114, .aload_n 0, 1), (115, .getfield 17, 3), (118, .iload_n 3, 1), (119, .iload 4, 2), (121, .aload_n 0, 1), (122, .iload_n 3, 1), (123, .invokevirtual 89, 3), (126, .iadd, 1), (127, .ldc 92, 2), (129, .invokestatic 93, 3), (132, .invokevirtual 42, 3), (135, .iinc 2 1, 3), (138, .goto (-120), 3), (141, .aload_n 0, 1), (142, .getfield 17, 3), (145, .iload_n 1, 1), (146, .invokevirtual 82, 3), (149, .ireturn, 1)]
def mi_M157 : mi_M := (⟨"TypeLoom$Writer", "lengthOf", "(I)I"⟩, prog_11_method_6_code, 7, (some .int), 9, 1, 1, mi_q157, [], [])
def mi_q158 : List (Nat × Instr × Nat) := [(0, .iload_n 1, 1), (1, .tableswitch 49 1 6 #[39, 41, 43, 43, 45, 47], 39), (40, .iconst 3, 1), (41, .ireturn, 1), (42, .iconst 4, 1), (43, .ireturn, 1), (44, .iconst 2, 1), (45, .ireturn, 1), (46, .iconst 3, 1), (47, .ireturn, 1), (48, .iconst 4, 1), (49, .ireturn, 1), (50, .aload_n 0, 1), (51, .getfield 21, 3), (54, .iload_n 1, 1), (55, .bipush 7, 2), (57, .isub, 1), (58, .invokevirtual 98, 3), (61, .invokestatic 104, 3), (64, .ireturn, 1)]
def mi_M158 : mi_M := (⟨"TypeLoom$Writer", "ownLength", "(I)I"⟩, prog_11_method_7_code, 2, (some .int), 9, 1, 1, mi_q158, [], [])
def mi_q159 : List (Nat × Instr × Nat) := [(0, .aload_n 0, 1), (1, .iload_n 1, 1), (2, .invokevirtual 29, 3), (5, .sipush 400, 3), (8, .if_icmp .le 5, 3), (11, .iconst 0, 1), (12, .ireturn, 1), (13, .iconst 0, 1), (14, .istore_n 2, 1), (15, .iload_n 2, 1), (16, .aload_n 0, 1), (17, .getfield 17, 3), (20, .invokevirtual 33, 3), (23, .if_icmp .ge 25, 3), (26, .aload_n 0, 1), (27, .getfield 17, 3), (30, .aload_n 0, 1), (31, .getfield 17, 3), (34, .iload_n 2, 1), (35, .invokevirtual 39, 3), (38, .iconst 0, 1), (39, .invokevirtual 42, 3), (42, .iinc 2 1, 3), (45, .goto (-30), 3), (48, .aload_n 0, 1), (49, .iconst 0, 1), (50, .putfield 25, 3), (53, .aload_n 0, 1), (54, .iconst 0, 1), (55, .putfield 46, 3), (58, .aload_n 0, 1), (59, .iconst 0, 1), (60, .putfield 49, 3), (63, .aload_n 0, 1), (64, .aload_n 0, 1), (65, .getfield 17, 3), (68, .iload_n 1, 1), (69, .invokevirtual 52, 3), (72, .invokevirtual 55, 3), (75, .iconst 0, 1), (76, .istore_n 2, 1), (77, .iload_n 2, 1), (78, .sipush 1024, 3), (81, .if_icmp .ge 54, 3), (84, .aload_n 0, 1), (85, .getfield 49, 3), (88, .ifCond .le 47, 3), (91, .aload_n 0, 1), (92, .dup, 1), (93, .getfield 49, 3), (96, .iconst 1, 1), (97, .isub, 1), (98, .putfield 49, 3), (101, .aload_n 0, 1), (102, .getfield 13, 3), (105, .aload_n 0, 1), (106, .getfield 49, 3), (109, .iaload, 1), (110, .istore_n 3, 1), (111, .iload_n 3, 1), (112, .ifCond .ge 12, 3), (115, .aload_n 0, 1), (116, .iload_n 3, 1), (117, .ineg, 1), (118, .invokevirtual 59, 3), (121, .goto 8, 3), (124, .aload_n 0, 1), (125, .iload_n 3, 1), (126, .invokevirtual 62, 3), (129, .iinc 2 1, 3), (132, .goto (-55), 3), (135, .iconst 1, 1), (136, .ireturn, 1)]
def mi_M159 : mi_M := (⟨"TypeLoom$Writer", "put", "(I)Z"⟩, prog_11_method_5_code, 4, (some .boolean), 9, 1, 1, mi_q159, [], [])
def mi_q160 : List (Nat × Instr × Nat) := [(0, .aload_n 0, 1), (1, .getfield 25, 3), (4, .sipush 400, 3), (7, .if_icmp .ge 24, 3), (10, .aload_n 0, 1), (11, .getfield 9, 3), (14, .aload_n 0, 1), (15, .getfield 25, 3), (18, .iload_n 1, 1), (19, .i2b, 1), (20, .bastore, 1), (21, .aload_n 0, 1), (22, .dup, 1), (23, .getfield 25, 3), (26, .iconst 1, 1), (27, .iadd, 1), (28, .putfield 25, 3), (31, .return_, 1)]
def mi_M160 : mi_M := (⟨"TypeLoom$Writer", "putByte", "(I)V"⟩, prog_11_method_15_code, 2, none, 9, 1, 1, mi_q160, [], [])
def mi_q161 : List (Nat × Instr × Nat) := [(0, .aload_n 0, 1), (1, .getfield 17, 3), (4, .iload_n 1, 1), (5, .invokevirtual 82, 3), (8, .ifCond .ne 25, 3), (11, .aload_n 0, 1), (12, .dup, 1), (13, .getfield 46, 3), (16, .iconst 1, 1), (17, .iadd, 1), (18, .putfield 46, 3), (21, .aload_n 0, 1), (22, .getfield 17, 3), (25, .iload_n 1, 1), (26, .aload_n 0, 1), (27, .getfield 46, 3), (30, .invokevirtual 42, 3), (33, .aload_n 0, 1), (34, .bipush 39, 2), (36, .invokevirtual 59, 3), (39, .aload_n 0, 1), (40, .bipush 97, 2), (42, .aload_n 0, 1), (43, .getfield 17, 3), (46, .iload_n 1, 1), (47, .invokevirtual 82, 3), (50, .iconst 1, 1), (51, .isub, 1), (52, .bipush 26, 2), (54, .invokestatic 134, 3), (57, .iadd, 1), (58, .invokevirtual 59, 3), (61, .return_, 1)]
def mi_M161 : mi_M := (⟨"TypeLoom$Writer", "putMark", "(I)V"⟩, prog_11_method_13_code, 2, none, 9, 1, 1, mi_q161, [], [])
def mi_q162 : List (Nat × Instr × Nat) := [(0, .aload_n 0, 1), (1, .getfield 21, 3), (4, .iload_n 2, 1), (5, .invokevirtual 98, 3), (8, .lstore_n 3, 1), (9, .bipush 56, 2), (11, .istore 5, 2), (13, .iload 5, 2), (15, .ifCond .lt 31, 3), (18, .lload_n 3, 1), (19, .iload 5, 2), (21, .lushr, 1), (22, .ldc2_w 108, 3), (25, .land, 1), (26, .l2i, 1), (27, .istore 6, 2), (29, .iload 6, 2), (31, .ifCond .eq 9, 3), (34, .aload_n 0, 1), (35, .iload 6, 2), (37, .invokevirtual 59, 3), (40, .iinc 5 (-8), 3), (43, .goto (-30), 3), (46, .iconst 2, 1), (47, .istore 5, 2), (49, .iload 5, 2), (51, .ifCond .lt 35, 3), (54, .aload_n 0, 1), (55, .getfield 17, 3), (58, .iload_n 1, 1), (59, .iload 5, 2), (61, .invokevirtual 78, 3), (64, .ifCond .eq 16, 3), (67, .aload_n 0, 1), (68, .iload_n 1, 1), (69, .iload 5, 2), (71, .invokevirtual 121, 3), (74, .aload_n 0, 1), (75, .bipush (-32), 2), (77, .invokevirtual 55, 3), (80, .iinc 5 (-1), 3), (83, .goto (-34), 3), (86, .return_, 1)]
def mi_M162 : mi_M := (⟨"TypeLoom$Writer", "putNamed", "(II)V"⟩, prog_11_method_12_code, 7, none, 9, 1, 2, mi_q162, [], [])
def mi_q163 : List (Nat × Instr × Nat) := [(0, .aload_n 0, 1), (1, .getfield 17, 3), (4, .iload_n 1, 1), (5, .invokevirtual 72, 3), (8, .istore_n 2, 1), (9, .iload_n 2, 1), (10, .tableswitch 106 1 6 #[38, 47, 56, 56, 64, 85], 38), (48, .aload_n 0, 1), (49, .ldc 110, 2), (51, .invokevirtual 112, 3), (54, .goto 71, 3), (57, .aload_n 0, 1), (58, .ldc 116, 2), (60, .invokevirtual 112, 3), (63, .goto 62, 3), (66, .aload_n 0, 1), (67, .iload_n 1, 1), (68, .invokevirtual 118, 3), (71, .goto 54, 3), (74, .aload_n 0, 1), (75, .iload_n 1, 1), (76, .iconst 1, 1), (77, .invokevirtual 121, 3), (80, .aload_n 0, 1), (81, .ldc 124, 2), (83, .invokevirtual 126, 3), (86, .aload_n 0, 1), (87, .iload_n 1, 1), (88, .iconst 0, 1), (89, .invokevirtual 121, 3), (92, .goto 33, 3), (95, .aload_n 0, 1), (96, .iload_n 1, 1), (97, .iconst 1, 1), (98, .invokevirtual 121, 3), (101, .aload_n 0, 1), (102, .ldc 129, 2), (104, .invokevirtual 126, 3), (107, .aload_n 0, 1), (108, .iload_n 1, 1), (109, .iconst 0, 1), (110, .invokevirtual 121, 3), (113, .goto 12, 3), (116, .aload_n 0, 1), (117, .iload_n 1, 1), (118, .iload_n 2, 1), (119, .bipush 7, 2), (121, .isub, 1), (122, .invokevirtual 131, 3), (125, .return_, 1)]
def mi_M163 : mi_M := (⟨"TypeLoom$Writer", "putNode", "(I)V"⟩, prog_11_method_11_code, 3, none, 9, 1, 1, mi_q163, [], [])
def mi_q164 : List (Nat × Instr × Nat) := [(0, .iconst 0, 1), (1, .istore_n 2, 1), (2, .iload_n 2, 1), (3, .aload_n 1, 1), (4, .invokevirtual 137, 3), (7, .if_icmp .ge 18, 3), (10, .aload_n 0, 1), (11, .aload_n 1, 1), (12, .iload_n 2, 1), (13, .invokevirtual 142, 3), (16, .invokevirtual 59, 3), (19, .iinc 2 1, 3), (22, .goto (-20), 3), (25, .return_, 1)]
def mi_M164 : mi_M := (⟨"TypeLoom$Writer", "putText", "(Ljava/lang/String;)V"⟩, prog_11_method_14_code, 3, none, 9, 1, 1, mi_q164, [], [])
def mi_q165 : List (Nat × Instr × Nat) := [(0, .aload_n 0, 1), (1, .getfield 25, 3), (4, .ireturn, 1)]
def mi_M165 : mi_M := (⟨"TypeLoom$Writer", "size", "()I"⟩, prog_11_method_2_code, 1, (some .int), 9, 1, 0, mi_q165, [], [])
def mi_q166 : List (Nat × Instr × Nat) := [(0, .aload_n 0, 1), (1, .iconst 0, 1), (2, .putfield 25, 3), (5, .return_, 1)]
def mi_M166 : mi_M := (⟨"TypeLoom$Writer", "wipe", "()V"⟩, prog_11_method_4_code, 1, none, 9, 1, 0, mi_q166, [], [])
def mi_q167 : List (Nat × Instr × Nat) := [(0, .sipush 900, 3), (3, .newarray .int, 2), (5, .astore_n 2, 1), (6, .aload_n 2, 1), (7, .aload_n 1, 1), (8, .invokestatic 21, 3), (11, .aload_n 0, 1), (12, .aload_n 2, 1), (13, .invokestatic 43, 3), (16, .ifCond .eq 10, 3), (19, .aload_n 0, 1), (20, .invokevirtual 50, 3), (23, .goto 4, 3), (26, .iconst (-1), 1), (27, .ireturn, 1)]
def mi_M167 : mi_M := (⟨"TypeLoomLaw", "ask", "(LTypeLoom;Ljava/lang/String;)I"⟩, method_8_code, 3, (some .int), 11, 0, 2, mi_q167, [], [])
def mi_q168 : List (Nat × Instr × Nat) := [(0, .aload_n 0, 1), (1, .iload_n 1, 1), (2, .iaload, 1), (3, .iconst 5, 1), (4, .if_icmp .ge 7, 3), (7, .iload_n 1, 1), (8, .iconst 1, 1), (9, .iadd, 1), (10, .ireturn, 1), (11, .aload_n 0, 1), (12, .iload_n 1, 1), (13, .iconst 1, 1), (14, .iadd, 1), (15, .invokestatic 65, 3), (18, .istore_n 2, 1), (19, .aload_n 0, 1), (20, .iload_n 1, 1), (21, .iaload, 1), (22, .bipush 7, 2), (24, .if_icmp .ne 7, 3), (27, .iload_n 2, 1), (28, .goto 8, 3), (31, .aload_n 0, 1), (32, .iload_n 2, 1), (33, .invokestatic 65, 3), (36, .ireturn, 1)]
def mi_M168 : mi_M := (⟨"TypeLoomLaw", "behind", "([II)I"⟩, method_10_code, 3, (some .int), 11, 0, 2, mi_q168, [], [])
def mi_q169 : List (Nat × Instr × Nat) := [(0, .iload_n 0, 1), (1, .ldc 7, 2), (3, .iand, 1), (4, .iload_n 1, 1), (5, .irem, 1), (6, .ireturn, 1)]
def mi_M169 : mi_M := (⟨"TypeLoomLaw", "below", "(II)I"⟩, method_2_code, 2, (some .int), 11, 0, 2, mi_q169, [], [])
def mi_q170 : List (Nat × Instr × Nat) := [(0, .iload_n 1, 1), (1, .aload_n 0, 1), (2, .arraylength, 1), (3, .if_icmp .ge 9, 3), (6, .aload_n 0, 1), (7, .iload_n 1, 1), (8, .iaload, 1), (9, .goto 9, 3), (12, .ldc 8, 2), (14, .iload_n 1, 1), (15, .iconst 3, 1), (16, .iadd, 1), (17, .imul, 1), (18, .ireturn, 1)]
def mi_M170 : mi_M := (⟨"TypeLoomLaw", "cell", "([II)I"⟩, method_3_code, 2, (some .int), 11, 0, 2, mi_q170, [], [])
def mi_q171 : List (Nat × Instr × Nat) := [(0, .aload_n 0, 1), (1, .iconst 4, 1), (2, .invokevirtual 30, 3), (5, .aload_n 1, 1), (6, .arraylength, 1), (7, .if_icmp .eq 5, 3), (10, .iconst 0, 1), (11, .ireturn, 1), (12, .iconst 0, 1), (13, .istore_n 2, 1), (14, .iload_n 2, 1), (15, .aload_n 1, 1), (16, .arraylength, 1), (17, .if_icmp .ge 22, 3), (20, .aload_n 0, 1), (21, .iload_n 2, 1), (22, .invokevirtual 117, 3), (25, .aload_n 1, 1), (26, .iload_n 2, 1), (27, .iaload, 1), (28, .if_icmp .eq 5, 3), (31, .iconst 0, 1), (32, .ireturn, 1), (33, .iinc 2 1, 3), (36, .goto (-22), 3), (39, .iconst 1, 1), (40, .ireturn, 1)]
def mi_M171 : mi_M := (⟨"TypeLoomLaw", "isPaper", "(LTypeLoom;[I)Z"⟩, method_14_code, 3, (some .boolean), 11, 0, 2, mi_q171, [], [])
def mi_q172 : List (Nat × Instr × Nat) := [(0, .aload_n 0, 1), (1, .iconst 3, 1), (2, .invokevirtual 30, 3), (5, .istore_n 2, 1), (6, .aload_n 1, 1), (7, .iconst 0, 1), (8, .iaload, 1), (9, .istore_n 3, 1), (10, .iconst 0, 1), (11, .istore 4, 2), (13, .iload 4, 2), (15, .iload_n 3, 1), (16, .if_icmp .ge 96, 3), (19, .iconst 5, 1), (20, .newarray .int, 2), (22, .astore 5, 2), (24, .iconst 0, 1), (25, .istore 6, 2), (27, .iload 6, 2), (29, .bipush 20, 2), (31, .if_icmp .ge 50, 3), (34, .aload 5, 2), (36, .iload 6, 2), (38, .iconst 4, 1), (39, .idiv, 1), (40, .aload 5, 2), (42, .iload 6, 2), (44, .iconst 4, 1), (45, .idiv, 1), (46, .iaload, 1), (47, .bipush 8, 2), (49, .ishl, 1), (50, .iload 4, 2), (52, .iload 6, 2), (54, .iadd, 1), (55, .iload_n 3, 1), (56, .if_icmp .ge 15, 3), (59, .aload_n 1, 1), (60, .iconst 1, 1), (61, .iload 4, 2), (63, .iadd, 1), (64, .iload 6, 2), (66, .iadd, 1), (67, .iaload, 1), (68, .goto 5, 3), (71, .bipush 32, 2), (73, .ior, 1), (74, .iastore, 1), (75, .iinc 6 1, 3), (78, .goto (-51), 3), (81, .aload_n 0, 1), (82, .aload 5, 2), (84, .iconst 0, 1), (85, .iaload, 1), (86, .aload 5, 2), (88, .iconst 1, 1), (89, .iaload, 1), (90, .aload 5, 2), (92, .iconst 2, 1), (93, .iaload, 1), (94, .aload 5, 2), (96, .iconst 3, 1), (97, .iaload, 1), (98, .aload 5, 2), (100, .iconst 4, 1), (101, .iaload, 1), (102, .invokevirtual 36, 3), (105, .pop, 1), (106, .iinc 4 20, 3), (109, .goto (-96), 3), (112, .aload_n 0, 1), (113, .iload_n 2, 1), (114, .iload_n 3, 1), (115, .iadd, 1), (116, .invokevirtual 40, 3), (119, .iload_n 2, 1), (120, .iload_n 3, 1), (121, .iadd, 1), (122, .if_icmp .ne 7, 3), (125, .iconst 1, 1), (126, .goto 4, 3), (129, .iconst 0, 1), (130, .ireturn, 1)]
def mi_M172 : mi_M := (⟨"TypeLoomLaw", "lay", "(LTypeLoom;[I)Z"⟩, method_6_code, 7, (some .boolean), 11, 0, 2, mi_q172, [], [])
def mi_q173 : List (Nat × Instr × Nat) := [(0, .aload_n 0, 1), (1, .iload_n 1, 1), (2, .iload_n 2, 1), (3, .invokevirtual 138, 3), (6, .ireturn, 1), (7, .astore_n 3, 1), (8, .bipush (-3), 2), (10, .ireturn, 1)]
def mi_M173 : mi_M := (⟨"TypeLoomLaw", "meet", "(LTypeLoom;II)I"⟩, method_13_code, 4, (some .int), 11, 3, 3, mi_q173, [], [(0, 6, 7, 151)])
def mi_q174 : List (Nat × Instr × Nat) := [(0, .iload_n 1, 1), (1, .ifCond .ge 16, 3), (4, .aload_n 0, 1), (5, .ldc 19, 2), (7, .invokestatic 21, 3), (10, .aload_n 0, 1), (11, .iload_n 1, 1), (12, .ineg, 1), (13, .invokestatic 27, 3), (16, .return_, 1), (17, .iload_n 1, 1), (18, .bipush 9, 2), (20, .if_icmp .le 11, 3), (23, .aload_n 0, 1), (24, .iload_n 1, 1), (25, .bipush 10, 2), (27, .idiv, 1), (28, .invokestatic 27, 3), (31, .aload_n 0, 1), (32, .iconst 1, 1), (33, .aload_n 0, 1), (34, .iconst 0, 1), (35, .iaload, 1), (36, .iadd, 1), (37, .bipush 48, 2), (39, .iload_n 1, 1), (40, .bipush 10, 2), (42, .irem, 1), (43, .iadd, 1), (44, .iastore, 1), (45, .aload_n 0, 1), (46, .iconst 0, 1), (47, .dup2, 1), (48, .iaload, 1), (49, .iconst 1, 1), (50, .iadd, 1), (51, .iastore, 1), (52, .return_, 1)]
def mi_M174 : mi_M := (⟨"TypeLoomLaw", "put", "([II)V"⟩, method_5_code, 2, none, 11, 0, 2, mi_q174, [], [])
def mi_q175 : List (Nat × Instr × Nat) := [(0, .iconst 0, 1), (1, .istore_n 2, 1), (2, .iload_n 2, 1), (3, .aload_n 1, 1), (4, .invokevirtual 9, 3), (7, .if_icmp .ge 23, 3), (10, .aload_n 0, 1), (11, .iconst 1, 1), (12, .aload_n 0, 1), (13, .iconst 0, 1), (14, .iaload, 1), (15, .iadd, 1), (16, .iload_n 2, 1), (17, .iadd, 1), (18, .aload_n 1, 1), (19, .iload_n 2, 1), (20, .invokevirtual 15, 3), (23, .iastore, 1), (24, .iinc 2 1, 3), (27, .goto (-25), 3), (30, .aload_n 0, 1), (31, .iconst 0, 1), (32, .dup2, 1), (33, .iaload, 1), (34, .aload_n 1, 1), (35, .invokevirtual 9, 3), (38, .iadd, 1), (39, .iastore, 1), (40, .return_, 1)]
def mi_M175 : mi_M := (⟨"TypeLoomLaw", "put", "([ILjava/lang/String;)V"⟩, method_4_code, 3, none, 11, 0, 2, mi_q175, [], [])
def mi_q176 : List (Nat × Instr × Nat) := [(0, .aload_n 1, 1), (1, .iload_n 2, 1), (2, .iaload, 1), (3, .istore 5, 2), (5, .iload 5, 2), (7, .iconst 5, 1), (8, .if_icmp .ne 8, 3), (11, .iload_n 3, 1), (12, .iconst 1, 1), (13, .if_icmp .gt 26, 3), (16, .iload 5, 2), (18, .bipush 6, 2), (20, .if_icmp .ne 7, 3), (23, .iload_n 3, 1), (24, .ifCond .gt 15, 3), (27, .iload 5, 2), (29, .bipush 7, 2), (31, .if_icmp .ne 12, 3), (34, .iload_n 3, 1), (35, .iconst 3, 1), (36, .if_icmp .ne 7, 3), (39, .iconst 1, 1), (40, .goto 4, 3), (43, .iconst 0, 1), (44, .istore 6, 2), (46, .iload 6, 2), (48, .ifCond .eq 9, 3), (51, .aload_n 0, 1), (52, .ldc 68, 2), (54, .invokestatic 21, 3), (57, .iload 5, 2), (59, .iconst 2, 1), (60, .if_icmp .ge 22, 3), (63, .aload_n 0, 1), (64, .iload 5, 2), (66, .ifCond .ne 8, 3), (69, .ldc 70, 2), (71, .goto 5, 3), (74, .ldc 72, 2), (76, .invokestatic 21, 3), (79, .goto 170, 3), (82, .iload 5, 2), (84, .iconst 5, 1), (85, .if_icmp .ge 74, 3), (88, .aload 4, 2), (90, .iload 5, 2), (92, .iaload, 1), (93, .ifCond .ge 20, 3), (96, .aload 4, 2), (98, .iload 5, 2), (100, .aload 4, 2), (102, .iconst 5, 1), (103, .iaload, 1), (104, .iastore, 1), (105, .aload 4, 2), (107, .iconst 5, 1), (108, .dup2, 1), (109, .iaload, 1), (110, .iconst 1, 1), (111, .iadd, 1), (112, .iastore, 1), (113, .iconst 5, 1), (114, .anewarray 10, 3), (117, .dup, 1), (118, .iconst 0, 1), (119, .ldc 74, 2), (121, .aastore, 1), (122, .dup, 1), (123, .iconst 1, 1), (124, .ldc 76, 2), (126, .aastore, 1), (127, .dup, 1), (128, .iconst 2, 1), (129, .ldc 78, 2), (131, .aastore, 1), (132, .dup, 1), (133, .iconst 3, 1), (134, .ldc 80, 2), (136, .aastore, 1), (137, .dup, 1), (138, .iconst 4, 1), (139, .ldc 82, 2), (141, .aastore, 1), (142, .astore 7, 2), (144, .aload_n 0, 1), (145, .aload 7, 2), (147, .aload 4, 2), (149, .iload 5, 2), (151, .iaload, 1), (152, .aaload, 1), (153, .invokestatic 21, 3), (156, .goto 93, 3), (159, .iload 5, 2), (161, .bipush 7, 2), (163, .if_icmp .ne 23, 3), (166, .aload_n 0, 1), (167, .ldc 84, 2), (169, .invokestatic 21, 3), (172, .aload_n 0, 1), (173, .aload_n 1, 1), (174, .iload_n 2, 1), (175, .iconst 1, 1), (176, .iadd, 1), (177, .iconst 3, 1), (178, .aload 4, 2), (180, .invokestatic 86, 3), (183, .goto 66, 3), (186, .aload_n 0, 1), (187, .aload_n 1, 1), (188, .iload_n 2, 1), (189, .iconst 1, 1), (190, .iadd, 1), (191, .iload 5, 2), (193, .iconst 5, 1), (194, .if_icmp .ne 7, 3), (197, .iconst 2, 1), (198, .goto 4, 3), (201, .iconst 1, 1), (202, .aload 4, 2), (204, .invokestatic 86, 3), (207, .aload_n 0, 1), (208, .iload 5, 2), (210, .iconst 5, 1), (211, .if_icmp .ne 8, 3), (214, .ldc 90, 2), (216, .goto 5, 3), (219, .ldc 92, 2), (221, .invokestatic 21, 3), (224, .aload_n 0, 1), (225, .aload_n 1, 1), (226, .aload_n 1, 1), (227, .iload_n 2, 1), (228, .iconst 1, 1), (229, .iadd, 1), (230, .invokestatic 65, 3), (233, .iload 5, 2), (235, .iconst 5, 1), (236, .if_icmp .ne 7, 3), (239, .iconst 2, 1), (240, .goto 4, 3), (243, .iconst 0, 1), (244, .aload 4, 2), (246, .invokestatic 86, 3), (249, .iload 6, 2), (251, .ifCond .eq 9, 3), (254, .aload_n 0, 1), (255, .ldc 94, 2), (257, .invokestatic 21, 3), (260, .return_, 1)]
def mi_M176 : mi_M := (⟨"TypeLoomLaw", "show", "([I[III[I)V"⟩, method_11_code, 8, none, 11, 0, 5, mi_q176, [], [])
def mi_q177 : List (Nat × Instr × Nat) := [(0, .aload_n 1, 1), (1, .aload_n 2, 1), (2, .iconst 0, 1), (3, .iaload, 1), (4, .invokestatic 53, 3), (7, .aload_n 2, 1), (8, .iconst 0, 1), (9, .iaload, 1), (10, .iconst 5, 1), (11, .irem, 1), (12, .ishr, 1), (13, .istore 4, 2), (15, .aload_n 2, 1), (16, .iconst 0, 1), (17, .dup2, 1), (18, .iaload, 1), (19, .iconst 1, 1), (20, .iadd, 1), (21, .iastore, 1), (22, .iload_n 3, 1), (23, .iconst 2, 1), (24, .if_icmp .le 12, 3), (27, .iload 4, 2), (29, .iconst 5, 1), (30, .invokestatic 57, 3), (33, .goto 10, 3), (36, .iload 4, 2), (38, .bipush 8, 2), (40, .invokestatic 57, 3), (43, .istore 5, 2), (45, .aload_n 0, 1), (46, .iconst 0, 1), (47, .dup2, 1), (48, .iaload, 1), (49, .iconst 1, 1), (50, .iadd, 1), (51, .iastore, 1), (52, .aload_n 0, 1), (53, .aload_n 0, 1), (54, .iconst 0, 1), (55, .iaload, 1), (56, .iload 5, 2), (58, .iastore, 1), (59, .iload 5, 2), (61, .iconst 4, 1), (62, .if_icmp .le 12, 3), (65, .aload_n 0, 1), (66, .aload_n 1, 1), (67, .aload_n 2, 1), (68, .iload_n 3, 1), (69, .iconst 1, 1), (70, .iadd, 1), (71, .invokestatic 61, 3), (74, .iload 5, 2), (76, .iconst 5, 1), (77, .if_icmp .eq 10, 3), (80, .iload 5, 2), (82, .bipush 6, 2), (84, .if_icmp .ne 12, 3), (87, .aload_n 0, 1), (88, .aload_n 1, 1), (89, .aload_n 2, 1), (90, .iload_n 3, 1), (91, .iconst 1, 1), (92, .iadd, 1), (93, .invokestatic 61, 3), (96, .return_, 1)]
def mi_M177 : mi_M := (⟨"TypeLoomLaw", "type", "([I[I[II)V"⟩, method_9_code, 6, none, 11, 0, 4, mi_q177, [], [])
def mi_q178 : List (Nat × Instr × Nat) := [(0, .iload_n 0, 1), (1, .iload_n 1, 1), (2, .irem, 1), (3, .istore_n 2, 1), (4, .iload_n 0, 1), (5, .iload_n 1, 1), (6, .ixor, 1), (7, .ifCond .ge 11, 3), (10, .iload_n 2, 1), (11, .ifCond .eq 7, 3), (14, .iload_n 2, 1), (15, .iload_n 1, 1), (16, .iadd, 1), (17, .ireturn, 1), (18, .iload_n 2, 1), (19, .ireturn, 1)]
def mi_M178 : mi_M := (⟨"java/lang/Math", "floorMod", "(II)I"⟩, prog_20_method_50_code, 3, (some .int), 12, 0, 2, mi_q178, [], [])
def mi_q179 : List (Nat × Instr × Nat) := [(0, .lload_n 0, 1), (1, .lload_n 2, 1), (2, .lrem, 1), (3, .lstore 4, 2), (5, .lload_n 0, 1), (6, .lload_n 2, 1), (7, .lxor, 1), (8, .lconst 0, 1), (9, .lcmp, 1), (10, .ifCond .ge 15, 3), (13, .lload 4, 2), (15, .lconst 0, 1), (16, .lcmp, 1), (17, .ifCond .eq 8, 3), (20, .lload 4, 2), (22, .lload_n 2, 1), (23, .ladd, 1), (24, .lreturn, 1), (25, .lload 4, 2), (27, .lreturn, 1)]
def mi_M179 : mi_M := (⟨"java/lang/Math", "floorMod", "(JJ)J"⟩, prog_20_method_52_code, 6, (some .long), 12, 0, 2, mi_q179, [], [])
def mi_q180 : List (Nat × Instr × Nat) := [(0, .aload_n 0, 1), (1, .invokevirtual 492, 3), (4, .ifCond .eq 12, 3), (7, .aload_n 0, 1), (8, .getfield 9, 3), (11, .iload_n 1, 1), (12, .invokestatic 495, 3), (15, .ireturn, 1), (16, .aload_n 0, 1), (17, .getfield 9, 3), (20, .iload_n 1, 1), (21, .invokestatic 498, 3), (24, .ireturn, 1)]
def mi_M180 : mi_M := (⟨"java/lang/String", "charAt", "(I)C"⟩, prog_22_method_56_code, 2, (some .char), 13, 1, 1, mi_q180, [], [])
def mi_q181 : List (Nat × Instr × Nat) := [(0, .iload_n 0, 1), (1, .iload_n 1, 1), (2, .getstatic 1053, 3), (5, .invokestatic 1059, 3), (8, .pop, 1), (9, .return_, 1)]
def mi_M181 : mi_M := (⟨"java/lang/String", "checkIndex", "(II)V"⟩, prog_22_method_155_code, 2, none, 13, 0, 2, mi_q181, [], [])
def mi_q182 : List (Nat × Instr × Nat) := [(0, .getstatic 38, 3), (3, .ifCond .eq 10, 3), (6, .aload_n 0, 1), (7, .getfield 15, 3), (10, .goto 4, 3), (13, .iconst 1, 1), (14, .ireturn, 1)]
def mi_M182 : mi_M := (⟨"java/lang/String", "coder", "()B"⟩, prog_22_method_152_code, 1, (some .byte), 13, 1, 0, mi_q182, [], [])
def mi_q183 : List (Nat × Instr × Nat) := [(0, .aload_n 0, 1), (1, .iload_n 1, 1), (2, .iconst 0, 1), (3, .invokevirtual 633, 3), (6, .ireturn, 1)]
def mi_M183 : mi_M := (⟨"java/lang/String", "indexOf", "(I)I"⟩, prog_22_method_79_code, 2, (some .int), 13, 1, 1, mi_q183, [], [])
def mi_q184 : List (Nat × Instr × Nat) := [(0, .aload_n 0, 1), (1, .invokevirtual 492, 3), (4, .ifCond .eq 19, 3), (7, .aload_n 0, 1), (8, .getfield 9, 3), (11, .iload_n 1, 1), (12, .iload_n 2, 1), (13, .aload_n 0, 1), (14, .invokevirtual 505, 3), (17, .invokestatic 637, 3), (20, .goto 16, 3), (23, .aload_n 0, 1), (24, .getfield 9, 3), (27, .iload_n 1, 1), (28, .iload_n 2, 1), (29, .aload_n 0, 1), (30, .invokevirtual 505, 3), (33, .invokestatic 640, 3), (36, .ireturn, 1)]
def mi_M184 : mi_M := (⟨"java/lang/String", "indexOf", "(II)I"⟩, prog_22_method_80_code, 3, (some .int), 13, 1, 2, mi_q184, [], [])
def mi_q185 : List (Nat × Instr × Nat) := [(0, .getstatic 38, 3), (3, .ifCond .eq 14, 3), (6, .aload_n 0, 1), (7, .getfield 15, 3), (10, .ifCond .ne 7, 3), (13, .iconst 1, 1), (14, .goto 4, 3), (17, .iconst 0, 1), (18, .ireturn, 1)]
def mi_M185 : mi_M := (⟨"java/lang/String", "isLatin1", "()Z"⟩, prog_22_method_154_code, 1, (some .boolean), 13, 1, 0, mi_q185, [], [])
def mi_q186 : List (Nat × Instr × Nat) := [(0, .aload_n 0, 1), (1, .getfield 9, 3), (4, .arraylength, 1), (5, .aload_n 0, 1), (6, .invokevirtual 335, 3), (9, .ishr, 1), (10, .ireturn, 1)]
def mi_M186 : mi_M := (⟨"java/lang/String", "length", "()I"⟩, prog_22_method_54_code, 1, (some .int), 13, 1, 0, mi_q186, [], [])
def mi_q187 : List (Nat × Instr × Nat) := [(0, .iload_n 0, 1), (1, .ifCond .lt 14, 3), (4, .iload_n 0, 1), (5, .sipush 255, 3), (8, .if_icmp .gt 7, 3), (11, .iconst 1, 1), (12, .goto 4, 3), (15, .iconst 0, 1), (16, .ireturn, 1)]
def mi_M187 : mi_M := (⟨"java/lang/StringLatin1", "canEncode", "(I)Z"⟩, prog_23_method_4_code, 1, (some .boolean), 14, 0, 1, mi_q187, [], [])
def mi_q188 : List (Nat × Instr × Nat) := [(0, .iload_n 1, 1), (1, .aload_n 0, 1), (2, .arraylength, 1), (3, .invokestatic 9, 3), (6, .aload_n 0, 1), (7, .iload_n 1, 1), (8, .baload, 1), (9, .sipush 255, 3), (12, .iand, 1), (13, .i2c, 1), (14, .ireturn, 1)]
def mi_M188 : mi_M := (⟨"java/lang/StringLatin1", "charAt", "([BI)C"⟩, prog_23_method_2_code, 2, (some .char), 14, 0, 2, mi_q188, [], [])
def mi_q189 : List (Nat × Instr × Nat) := [(0, .iload_n 1, 1), (1, .invokestatic 88, 3), (4, .ifCond .ne 5, 3), (7, .iconst (-1), 1), (8, .ireturn, 1), (9, .iload_n 2, 1), (10, .iconst 0, 1), (11, .invokestatic 92, 3), (14, .istore_n 2, 1), (15, .iload_n 3, 1), (16, .aload_n 0, 1), (17, .arraylength, 1), (18, .invokestatic 38, 3), (21, .istore_n 3, 1), (22, .iload_n 2, 1), (23, .iload_n 3, 1), (24, .if_icmp .lt 5, 3), (27, .iconst (-1), 1), (28, .ireturn, 1), (29, .aload_n 0, 1), (30, .iload_n 1, 1), (31, .iload_n 2, 1), (32, .iload_n 3, 1), (33, .invokestatic 95, 3), (36, .ireturn, 1)]
def mi_M189 : mi_M := (⟨"java/lang/StringLatin1", "indexOf", "([BIII)I"⟩, prog_23_method_22_code, 4, (some .int), 14, 0, 4, mi_q189, [], [])
def mi_q190 : List (Nat × Instr × Nat) := [(0, .iload_n 1, 1), (1, .i2b, 1), (2, .istore 4, 2), (4, .iload_n 2, 1), (5, .istore 5, 2), (7, .iload 5, 2), (9, .iload_n 3, 1), (10, .if_icmp .ge 21, 3), (13, .aload_n 0, 1), (14, .iload 5, 2), (16, .baload, 1), (17, .iload 4, 2), (19, .if_icmp .ne 6, 3), (22, .iload 5, 2), (24, .ireturn, 1), (25, .iinc 5 1, 3), (28, .goto (-21), 3), (31, .iconst (-1), 1), (32, .ireturn, 1)]
def mi_M190 : mi_M := (⟨"java/lang/StringLatin1", "indexOfChar", "([BIII)I"⟩, prog_23_method_23_code, 6, (some .int), 14, 0, 4, mi_q190, [], [])
def mi_q191 : List (Nat × Instr × Nat) := [(0, .iconst 0, 1), (1, .istore_n 2, 1), (2, .aload_n 0, 1), (3, .arraylength, 1), (4, .istore_n 3, 1), (5, .iload_n 2, 1), (6, .iload_n 3, 1), (7, .if_icmp .ge 13, 3), (10, .aload_n 0, 1), (11, .iload_n 2, 1), (12, .iload_n 1, 1), (13, .iastore, 1), (14, .iinc 2 1, 3), (17, .goto (-12), 3), (20, .return_, 1)]
def mi_M191 : mi_M := (⟨"java/util/Arrays", "fill", "([II)V"⟩, prog_27_method_103_code, 4, none, 15, 0, 2, mi_q191, [], [])
def mi_q192 : List (Nat × Instr × Nat) := [(0, .iload_n 0, 1), (1, .ifCond .lt 8, 3), (4, .iload_n 0, 1), (5, .iload_n 1, 1), (6, .if_icmp .lt 10, 3), (9, .aload_n 2, 1), (10, .iload_n 0, 1), (11, .iload_n 1, 1), (12, .invokestatic 95, 3), (15, .athrow, 1), (16, .iload_n 0, 1), (17, .ireturn, 1)]
def mi_M192 : mi_M := (⟨"jdk/internal/util/Preconditions", "checkIndex", "(IILjava/util/function/BiFunction;)I"⟩, prog_28_method_11_code, 3, (some .int), 16, 0, 3, mi_q192, [], [])
def mi_qL0 : List (Nat × Instr × Nat) := [(0, .new 31, 3), (3, .dup, 1), (4, .invokespecial 96, 3), (7, .astore_n 1, 1), (8, .sipush 1200, 3), (11, .newarray .int, 2), (13, .astore_n 2, 1), (14, .iconst 1, 1), (15, .newarray .int, 2), (17, .dup, 1), (18, .iconst 0, 1), (19, .iconst 0, 1), (20, .iastore, 1), (21, .astore_n 3, 1), (22, .iconst 0, 1), (23, .istore 4, 2), (25, .iload 4, 2), (27, .iconst 3, 1), (28, .if_icmp .ge 99, 3), (31, .bipush 40, 2), (33, .newarray .int, 2), (35, .astore 5, 2), (37, .aload 5, 2), (39, .aload_n 0, 1), (40, .aload_n 3, 1), (41, .iconst 0, 1), (42, .invokestatic 61, 3), (45, .bipush 6, 2), (47, .newarray .int, 2), (49, .dup, 1), (50, .iconst 0, 1), (51, .iconst 0, 1), (52, .iastore, 1), (53, .dup, 1), (54, .iconst 1, 1), (55, .iconst 0, 1), (56, .iastore, 1), (57, .dup, 1), (58, .iconst 2, 1), (59, .iconst 2, 1)]
def mi_qL1 : List (Nat × Instr × Nat) := [(60, .iastore, 1), (61, .dup, 1), (62, .iconst 3, 1), (63, .iconst 0, 1), (64, .iastore, 1), (65, .dup, 1), (66, .iconst 4, 1), (67, .iconst 1, 1), (68, .iastore, 1), (69, .dup, 1), (70, .iconst 5, 1), (71, .iconst 3, 1), (72, .iastore, 1), (73, .astore 6, 2), (75, .aload_n 2, 1), (76, .ldc 97, 2), (78, .invokestatic 21, 3), (81, .aload_n 2, 1), (82, .iload 4, 2), (84, .invokestatic 27, 3), (87, .aload_n 2, 1), (88, .ldc 99, 2), (90, .invokestatic 21, 3), (93, .aload_n 2, 1), (94, .aload 5, 2), (96, .iconst 1, 1), (97, .iconst 0, 1), (98, .aload 6, 2), (100, .invokestatic 86, 3), (103, .aload_n 2, 1), (104, .ldc 101, 2), (106, .invokestatic 21, 3), (109, .aload_n 2, 1), (110, .iload 4, 2), (112, .invokestatic 27, 3), (115, .aload_n 2, 1), (116, .ldc 103, 2), (118, .invokestatic 21, 3), (121, .iinc 4 1, 3), (124, .goto (-99), 3)]
def mi_qL2 : List (Nat × Instr × Nat) := [(127, .aload_n 2, 1), (128, .ldc 105, 2), (130, .invokestatic 21, 3), (133, .aload_n 1, 1), (134, .aload_n 2, 1), (135, .invokestatic 43, 3), (138, .ifCond .eq 20, 3), (141, .aload_n 1, 1), (142, .invokevirtual 47, 3), (145, .ifCond .ne 13, 3), (148, .aload_n 1, 1), (149, .iconst 2, 1), (150, .invokevirtual 30, 3), (153, .bipush 6, 2), (155, .if_icmp .eq 5, 3), (158, .iconst 0, 1), (159, .ireturn, 1), (160, .iconst 0, 1), (161, .istore 4, 2), (163, .iload 4, 2), (165, .bipush 6, 2), (167, .if_icmp .ge 285, 3), (170, .aload_n 1, 1), (171, .iload 4, 2), (173, .iload 4, 2), (175, .invokevirtual 107, 3), (178, .ifCond .eq 37, 3), (181, .aload_n 1, 1), (182, .iload 4, 2), (184, .iconst 1, 1), (185, .invokevirtual 111, 3), (188, .aload_n 1, 1), (189, .iload 4, 2), (191, .iconst 0, 1), (192, .invokevirtual 111, 3), (195, .if_icmp .gt 20, 3), (198, .aload_n 1, 1), (199, .iload 4, 2), (201, .iconst 2, 1), (202, .invokevirtual 111, 3)]
def mi_qL3 : List (Nat × Instr × Nat) := [(205, .aload_n 1, 1), (206, .iload 4, 2), (208, .iconst 0, 1), (209, .invokevirtual 111, 3), (212, .if_icmp .lt 5, 3), (215, .iconst 0, 1), (216, .ireturn, 1), (217, .aload_n 1, 1), (218, .iload 4, 2), (220, .invokevirtual 114, 3), (223, .istore 5, 2), (225, .iload 5, 2), (227, .newarray .int, 2), (229, .astore 6, 2), (231, .iconst 0, 1), (232, .istore 7, 2), (234, .iload 7, 2), (236, .iload 5, 2), (238, .if_icmp .ge 20, 3), (241, .aload 6, 2), (243, .iload 7, 2), (245, .aload_n 1, 1), (246, .iload 7, 2), (248, .invokevirtual 117, 3), (251, .iastore, 1), (252, .iinc 7 1, 3), (255, .goto (-21), 3), (258, .bipush 6, 2), (260, .anewarray 10, 3), (263, .dup, 1), (264, .iconst 0, 1), (265, .ldc 120, 2), (267, .aastore, 1), (268, .dup, 1), (269, .iconst 1, 1), (270, .ldc 122, 2), (272, .aastore, 1), (273, .dup, 1), (274, .iconst 2, 1), (275, .ldc 124, 2)]
def mi_qL4 : List (Nat × Instr × Nat) := [(277, .aastore, 1), (278, .dup, 1), (279, .iconst 3, 1), (280, .ldc 126, 2), (282, .aastore, 1), (283, .dup, 1), (284, .iconst 4, 1), (285, .ldc 128, 2), (287, .aastore, 1), (288, .dup, 1), (289, .iconst 5, 1), (290, .ldc 130, 2), (292, .aastore, 1), (293, .astore 7, 2), (295, .aload_n 1, 1), (296, .aload 7, 2), (298, .iload 4, 2), (300, .aaload, 1), (301, .invokestatic 132, 3), (304, .ifCond .ne 34, 3), (307, .aload_n 1, 1), (308, .aload 6, 2), (310, .invokestatic 135, 3), (313, .ifCond .eq 25, 3), (316, .aload_n 1, 1), (317, .iload 4, 2), (319, .iload 4, 2), (321, .invokevirtual 138, 3), (324, .iload 5, 2), (326, .if_icmp .ne 12, 3), (329, .aload_n 1, 1), (330, .aload 6, 2), (332, .invokestatic 135, 3), (335, .ifCond .ne 5, 3), (338, .iconst 0, 1), (339, .ireturn, 1), (340, .iconst 0, 1), (341, .istore 8, 2), (343, .iload 8, 2), (345, .bipush 6, 2)]
def mi_qL5 : List (Nat × Instr × Nat) := [(347, .if_icmp .ge 99, 3), (350, .aload_n 1, 1), (351, .iload 4, 2), (353, .iload 8, 2), (355, .invokestatic 141, 3), (358, .istore 9, 2), (360, .iload 9, 2), (362, .aload_n 1, 1), (363, .iload 8, 2), (365, .iload 4, 2), (367, .invokestatic 141, 3), (370, .if_icmp .ne 50, 3), (373, .aload_n 1, 1), (374, .iload 4, 2), (376, .iload 8, 2), (378, .invokevirtual 107, 3), (381, .ifCond .eq 41, 3), (384, .aload_n 1, 1), (385, .iload 8, 2), (387, .iload 4, 2), (389, .invokevirtual 107, 3), (392, .aload_n 1, 1), (393, .iload 8, 2), (395, .invokevirtual 114, 3), (398, .iload 5, 2), (400, .if_icmp .ne 16, 3), (403, .aload_n 1, 1), (404, .aload 6, 2), (406, .invokestatic 135, 3), (409, .ifCond .eq 7, 3), (412, .iconst 1, 1), (413, .goto 4, 3), (416, .iconst 0, 1), (417, .if_icmp .eq 5, 3), (420, .iconst 0, 1), (421, .ireturn, 1), (422, .aload_n 1, 1), (423, .iload 4, 2), (425, .iload 8, 2), (427, .invokevirtual 107, 3)]
def mi_qL6 : List (Nat × Instr × Nat) := [(430, .ifCond .eq 10, 3), (433, .iload 9, 2), (435, .ifCond .ne 5, 3), (438, .iconst 0, 1), (439, .ireturn, 1), (440, .iinc 8 1, 3), (443, .goto (-100), 3), (446, .iinc 4 1, 3), (449, .goto (-286), 3), (452, .aload_n 1, 1), (453, .iconst 3, 1), (454, .iconst 0, 1), (455, .invokevirtual 111, 3), (458, .iconst 1, 1), (459, .aload_n 1, 1), (460, .iconst 0, 1), (461, .iconst 0, 1), (462, .invokevirtual 111, 3), (465, .iadd, 1), (466, .aload_n 1, 1), (467, .iconst 1, 1), (468, .iconst 0, 1), (469, .invokevirtual 111, 3), (472, .iadd, 1), (473, .if_icmp .ne 39, 3), (476, .aload_n 1, 1), (477, .iconst 4, 1), (478, .iconst 0, 1), (479, .invokevirtual 111, 3), (482, .iconst 2, 1), (483, .aload_n 1, 1), (484, .iconst 2, 1), (485, .iconst 0, 1), (486, .invokevirtual 111, 3), (489, .iadd, 1), (490, .if_icmp .ne 22, 3), (493, .aload_n 1, 1), (494, .iconst 5, 1), (495, .iconst 0, 1), (496, .invokevirtual 111, 3)]
def mi_qL7 : List (Nat × Instr × Nat) := [(499, .iconst 1, 1), (500, .iconst 2, 1), (501, .aload_n 1, 1), (502, .iconst 0, 1), (503, .iconst 0, 1), (504, .invokevirtual 111, 3), (507, .imul, 1), (508, .iadd, 1), (509, .if_icmp .eq 5, 3), (512, .iconst 0, 1), (513, .ireturn, 1), (514, .aload_n 1, 1), (515, .iconst 4, 1), (516, .iconst 1, 1), (517, .invokevirtual 111, 3), (520, .iconst 1, 1), (521, .aload_n 1, 1), (522, .iconst 2, 1), (523, .iconst 1, 1), (524, .invokevirtual 111, 3), (527, .iadd, 1), (528, .if_icmp .ne 49, 3), (531, .aload_n 1, 1), (532, .iconst 5, 1), (533, .iconst 1, 1), (534, .invokevirtual 111, 3), (537, .iconst 2, 1), (538, .aload_n 1, 1), (539, .iconst 0, 1), (540, .iconst 1, 1), (541, .invokevirtual 111, 3), (544, .imul, 1), (545, .if_icmp .ne 32, 3), (548, .aload_n 1, 1), (549, .iconst 3, 1), (550, .iconst 0, 1), (551, .invokevirtual 144, 3), (554, .iconst 1, 1), (555, .if_icmp .ne 22, 3), (558, .aload_n 1, 1)]
def mi_qL8 : List (Nat × Instr × Nat) := [(559, .iconst 5, 1), (560, .iconst 0, 1), (561, .invokevirtual 144, 3), (564, .iconst 1, 1), (565, .if_icmp .ne 12, 3), (568, .aload_n 1, 1), (569, .iconst 4, 1), (570, .iconst 1, 1), (571, .invokevirtual 144, 3), (574, .ifCond .eq 5, 3), (577, .iconst 0, 1), (578, .ireturn, 1), (579, .aload_n 1, 1), (580, .iconst 3, 1), (581, .invokevirtual 114, 3), (584, .istore 4, 2), (586, .iload 4, 2), (588, .newarray .int, 2), (590, .astore 5, 2), (592, .iconst 0, 1), (593, .istore 6, 2), (595, .iload 6, 2), (597, .iload 4, 2), (599, .if_icmp .ge 20, 3), (602, .aload 5, 2), (604, .iload 6, 2), (606, .aload_n 1, 1), (607, .iload 6, 2), (609, .invokevirtual 117, 3), (612, .iastore, 1), (613, .iinc 6 1, 3), (616, .goto (-21), 3), (619, .aload_n 2, 1), (620, .ldc 147, 2), (622, .invokestatic 21, 3), (625, .iconst 0, 1), (626, .istore 6, 2), (628, .iload 6, 2), (630, .iload 4, 2), (632, .if_icmp .ge 28, 3)]
def mi_qL9 : List (Nat × Instr × Nat) := [(635, .aload_n 2, 1), (636, .iconst 1, 1), (637, .aload_n 2, 1), (638, .iconst 0, 1), (639, .iaload, 1), (640, .iadd, 1), (641, .aload 5, 2), (643, .iload 6, 2), (645, .iaload, 1), (646, .iastore, 1), (647, .aload_n 2, 1), (648, .iconst 0, 1), (649, .dup2, 1), (650, .iaload, 1), (651, .iconst 1, 1), (652, .iadd, 1), (653, .iastore, 1), (654, .iinc 6 1, 3), (657, .goto (-29), 3), (660, .aload_n 2, 1), (661, .ldc 149, 2), (663, .invokestatic 21, 3), (666, .aload_n 1, 1), (667, .aload_n 2, 1), (668, .invokestatic 43, 3), (671, .ifCond .eq 64, 3), (674, .aload_n 1, 1), (675, .invokevirtual 47, 3), (678, .ifCond .ne 57, 3), (681, .aload_n 1, 1), (682, .iconst 2, 1), (683, .invokevirtual 30, 3), (686, .bipush 7, 2), (688, .if_icmp .ne 47, 3), (691, .aload_n 1, 1), (692, .bipush 6, 2), (694, .invokevirtual 114, 3), (697, .iload 4, 2), (699, .if_icmp .ne 36, 3), (702, .aload_n 1, 1)]
def mi_qL10 : List (Nat × Instr × Nat) := [(703, .aload 5, 2), (705, .invokestatic 135, 3), (708, .ifCond .eq 27, 3), (711, .aload_n 1, 1), (712, .bipush 6, 2), (714, .iconst 3, 1), (715, .invokevirtual 107, 3), (718, .ifCond .eq 17, 3), (721, .aload_n 1, 1), (722, .iconst 3, 1), (723, .bipush 6, 2), (725, .invokevirtual 107, 3), (728, .ifCond .eq 7, 3), (731, .iconst 1, 1), (732, .goto 4, 3), (735, .iconst 0, 1), (736, .ireturn, 1)]
def mi_qL : List (Nat × Instr × Nat) := mi_qL0 ++ (mi_qL1 ++ (mi_qL2 ++ (mi_qL3 ++ (mi_qL4 ++ (mi_qL5 ++ (mi_qL6 ++ (mi_qL7 ++ (mi_qL8 ++ (mi_qL9 ++ (mi_qL10))))))))))
/-- the law itself -/
def mi_ML : mi_M := (⟨"TypeLoomLaw", "law", "([I)Z"⟩, code, 10, some .boolean, 11, 4, 1, mi_qL, [], [])
def mi_mt : List mi_M := [mi_M0, mi_M1, mi_M2, mi_M3, mi_M4, mi_M5, mi_M6, mi_M7, mi_M8, mi_M9, mi_M10, mi_M11, mi_M12, mi_M13, mi_M14, mi_M15, mi_M16, mi_M17, mi_M18, mi_M19, mi_M20, mi_M21, mi_M22, mi_M23, mi_M24, mi_M25, mi_M26, mi_M27, mi_M28, mi_M29, mi_M30, mi_M31, mi_M32, mi_M33, mi_M34, mi_M35, mi_M36, mi_M37, mi_M38, mi_M39, mi_M40, mi_M41, mi_M42, mi_M43, mi_M44, mi_M45, mi_M46, mi_M47, mi_M48, mi_M49, mi_M50, mi_M51, mi_M52, mi_M53, mi_M54, mi_M55, mi_M56, mi_M57, mi_M58, mi_M59, mi_M60, mi_M61, mi_M62, mi_M63, mi_M64, mi_M65, mi_M66, mi_M67, mi_M68, mi_M69, mi_M70, mi_M71, mi_M72, mi_M73, mi_M74, mi_M75, mi_M76, mi_M77, mi_M78, mi_M79, mi_M80, mi_M81, mi_M82, mi_M83, mi_M84, mi_M85, mi_M86, mi_M87, mi_M88, mi_M89, mi_M90, mi_M91, mi_M92, mi_M93, mi_M94, mi_M95, mi_M96, mi_M97, mi_M98, mi_M99, mi_M100, mi_M101, mi_M102, mi_M103, mi_M104, mi_M105, mi_M106, mi_M107, mi_M108, mi_M109, mi_M110, mi_M111, mi_M112, mi_M113, mi_M114, mi_M115, mi_M116, mi_M117, mi_M118, mi_M119, mi_M120, mi_M121, mi_M122, mi_M123, mi_M124, mi_M125, mi_M126, mi_M127, mi_M128, mi_M129, mi_M130, mi_M131, mi_M132, mi_M133, mi_M134, mi_M135, mi_M136, mi_M137, mi_M138, mi_M139, mi_M140, mi_M141, mi_M142, mi_M143, mi_M144, mi_M145, mi_M146, mi_M147, mi_M148, mi_M149, mi_M150, mi_M151, mi_M152, mi_M153, mi_M154, mi_M155, mi_M156, mi_M157, mi_M158, mi_M159, mi_M160, mi_M161, mi_M162, mi_M163, mi_M164, mi_M165, mi_M166, mi_M167, mi_M168, mi_M169, mi_M170, mi_M171, mi_M172, mi_M173, mi_M174, mi_M175, mi_M176, mi_M177, mi_M178, mi_M179, mi_M180, mi_M181, mi_M182, mi_M183, mi_M184, mi_M185, mi_M186, mi_M187, mi_M188, mi_M189, mi_M190, mi_M191, mi_M192]
end
section
/-! ===== the words that every method is given; that the tables are the machine's ===== -/
def mi_lk {α : Type} : List (Nat × α) → Nat → Option α
  | [], _ => none
  | q :: l, k => if q.1 == k then some q.2 else mi_lk l k
theorem mi_lk_mem {α : Type} {k : Nat} {v : α} : ∀ {l : List (Nat × α)}, mi_lk l k = some v → (k, v) ∈ l
  | [], h => by cases h
  | q :: l, h => by
    unfold mi_lk at h
    by_cases hq : q.1 == k
    · rw [if_pos hq] at h
      cases h
      rw [← beq_iff_eq.mp hq]
      exact List.mem_cons_self
    · rw [if_neg hq] at h
      exact List.mem_cons_of_mem _ (mi_lk_mem h)
def mi_y (M : mi_M) : MethodName := M.1
def mi_bt (M : mi_M) : ByteArray := M.2.1
def mi_nL (M : mi_M) : Nat := M.2.2.1
def mi_rt (M : mi_M) : Option FieldType := M.2.2.2.1
def mi_ow (M : mi_M) : Nat := M.2.2.2.2.1
def mi_kd (M : mi_M) : Nat := M.2.2.2.2.2.1
def mi_np (M : mi_M) : Nat := M.2.2.2.2.2.2.1
def mi_cd (M : mi_M) : List (Nat × Instr × Nat) := M.2.2.2.2.2.2.2.1
def mi_th (M : mi_M) : List (Nat × Nat × Nat × Nat × Nat × Bool) := M.2.2.2.2.2.2.2.2.1
def mi_hd (M : mi_M) : List (Nat × Nat × Nat × Nat) := M.2.2.2.2.2.2.2.2.2
def mi_hw (M : mi_M) : Cond := if mi_kd M = 3 then .codeWith (mi_y M) (mi_bt M) (mi_nL M) (mi_rt M) (mi_hd M) else .code (mi_y M) (mi_bt M) (mi_nL M) (mi_rt M)
def mi_mw (M : mi_M) : List Cond := mi_hw M :: ((if mi_kd M = 0 ∨ mi_kd M = 3 then [.static (mi_y M)] else [.instanceMethod (mi_y M)]) ++ ((if mi_kd M = 1 then [.selects (mi_y M).cls (mi_y M) (mi_y M)] else []) ++ [.initialized (mi_y M).cls]))
def mi_kw (q : vw_C) : List Cond := u_ws q.1 q.2.1 q.2.2 ++ [.instantiable q.1 q.2.2, .initialized q.1]
def mi_flw (o : Nat) (q : Nat × Nat × Nat) : Cond := match mi_cl[q.2.1]? with
  | some x => .fieldLink (mi_on o) q.1 x.1 (x.2.1 q.2.2).2.1 (x.2.1 q.2.2).2.2.1
  | none => .tt
def mi_nfw (o : Nat) (q : Nat × Nat × Nat) : Cond := match mi_cl[q.2.1]? with
  | some x => .fieldLinkNest (mi_on o) q.1 x.1 (x.2.1 q.2.2).2.1 (x.2.1 q.2.2).2.2.1 "TypeLoom"
  | none => .tt
def mi_alw (o : Nat) (q : Nat × Nat) : Cond := .classLink (mi_on o) q.1 "java/lang/String"
def mi_mlw (o : Nat) (q : Nat × Nat) : Cond := if q.2 = 1000000 then .methodLink (mi_on o) q.1 objectInit else if q.2 = 1000001 then .methodLink (mi_on o) q.1 arraycopyName else if q.2 = 1000002 then .methodLink (mi_on o) q.1 Lib.Math.max.name else if q.2 = 1000003 then .methodLink (mi_on o) q.1 Lib.Math.min.name else match mi_mt[q.2]? with
  | some M => .methodLink (mi_on o) q.1 (mi_y M)
  | none => .tt
def mi_nmw (o : Nat) (q : Nat × Nat) : Cond := match mi_mt[q.2]? with
  | some M => .methodLinkNest (mi_on o) q.1 (mi_y M) "TypeLoom"
  | none => .tt
def mi_klw (o : Nat) (q : Nat × Nat) : Cond := match mi_cl[q.2]? with
  | some x => .classLink (mi_on o) q.1 x.1
  | none => .tt
def mi_xlw (o : Nat) (q : Nat × Nat) : Cond := .classLink (mi_on o) q.1 (mi_xn q.2)
def mi_ilw (o : Nat) (q : Nat × Int32) : Cond := .constant (mi_on o) q.1 q.2
def mi_jlw (o : Nat) (q : Nat × Int64) : Cond := .constantLong (mi_on o) q.1 q.2
def mi_sfw (o : Nat) (q : Nat × Nat) : Cond := if q.2 = 0 then .fieldLink (mi_on o) q.1 "java/lang/String" "value" "[B" else if q.2 = 1 then .fieldLink (mi_on o) q.1 "java/lang/String" "coder" "B" else .tt
def mi_glw (o : Nat) (q : Nat × Nat) : Cond := match mi_st_[q.2]? with
  | some x => .fieldLink (mi_on o) q.1 x.1 x.2.1 x.2.2
  | none => .tt
def mi_lw (o : Nat) : List Cond := (mi_fl o).map (mi_flw o) ++ ((mi_ml o).map (mi_mlw o) ++ ((mi_kl o).map (mi_klw o) ++ ((mi_xl o).map (mi_xlw o) ++ ((mi_al_ o).map (mi_alw o) ++ ((mi_il o).map (mi_ilw o) ++ ((mi_jl o).map (mi_jlw o) ++ ((mi_sf o).map (mi_sfw o) ++ (mi_gl o).map (mi_glw o))))))))
def mi_n3 : List Cond := [.arrayClass .int, .arrayClass .long, .arrayClass .byte, .arrayClass .boolean, .code objectInit ⟨#[0xb1]⟩ 1 none, .instanceMethod objectInit, .initialized "java/lang/IllegalStateException", .initialized "java/lang/IllegalArgumentException", .initialized "java/lang/IndexOutOfBoundsException", .initialized "java/lang/Math", .static Lib.Math.max.name, .code Lib.Math.max.name Lib.Math.max.code 2 (some .int), .static Lib.Math.min.name, .code Lib.Math.min.name Lib.Math.min.code 2 (some .int)]
def mi_xc : List String := ["java/lang/RuntimeException", "java/lang/Exception"]
def mi_no : Nat := 17
/-- the exceptions that are thrown, each with its constructor's link -/
def mi_xs : List (Nat × Nat) := [(0, 90), (1, 101), (2, 135)]
def mi_n4 : List Cond := mi_xs.flatMap (fun q => (vx_atS "TypeLoom" q.2 (mi_xn q.1) mi_xc).filter goodWord)
def mi_need : List Cond := mi_cl.flatMap mi_kw ++ (mi_mt.flatMap mi_mw ++ ((List.range mi_no).flatMap mi_lw ++ (mi_n3 ++ mi_n4)))
/-- words that warmer tables keep, but that are no words of a method -/
def mi_bad : List Cond := (List.range mi_no).flatMap (fun o => (mi_nf o).map (mi_nfw o) ++ (mi_nm o).map (mi_nmw o)) ++ mi_xs.flatMap (fun q => (vx_atS "TypeLoom" q.2 (mi_xn q.1) mi_xc).filter (fun w => !goodWord w))
set_option maxRecDepth 100000 in
theorem mi_g0 : GoodIn lw_tbl (mi_cl.flatMap mi_kw) := goodIn_r _ [495, 497, 499, 501, 503, 505, 507, 509, 511, 513, 515, 517, 418, 103, 131, 133, 123, 90, 460, 462, 464, 466, 468, 470, 472, 474, 476, 478, 480, 444, 105, 336, 338, 340, 342, 344, 346, 348, 350, 352, 354, 356, 358, 360, 362, 364, 263, 97, 408, 410, 412, 414, 399, 102, 433, 435, 437, 439, 424, 104, 381, 383, 385, 387, 389, 391, 393, 395, 368, 101, 200, 202, 204, 206, 208, 210, 212, 214, 138, 91, 237, 239, 241, 243, 245, 247, 249, 251, 253, 255, 257, 259, 220, 96, 533, 535, 537, 539, 541, 543, 545, 521, 106, 559, 561, 563, 565, 567, 569, 571, 573, 575, 577, 579, 115, 89] (by decide +kernel) (by decide +kernel)
set_option maxRecDepth 100000 in
theorem mi_g1_0 : GoodIn lw_tbl (List.flatMap mi_mw [mi_M0, mi_M1, mi_M2, mi_M3, mi_M4, mi_M5, mi_M6, mi_M7, mi_M8, mi_M9]) := goodIn_r _ [118, 117, 89, 1316, 1315, 73, 89, 1518, 1517, 87, 89, 1545, 1543, 1544, 89, 1448, 1446, 1447, 89, 585, 583, 584, 89, 1245, 1243, 1244, 89, 1483, 1481, 1482, 89, 1513, 1511, 1512, 89, 589, 588, 0, 89] rfl (by decide +kernel)
set_option maxRecDepth 100000 in
theorem mi_g1_1 : GoodIn lw_tbl (List.flatMap mi_mw [mi_M10, mi_M11, mi_M12, mi_M13, mi_M14, mi_M15, mi_M16, mi_M17, mi_M18, mi_M19]) := goodIn_r _ [1457, 1455, 1456, 89, 1462, 1461, 86, 89, 1493, 1491, 1492, 89, 1522, 1520, 1521, 89, 1475, 1473, 1474, 89, 1333, 1331, 1332, 89, 421, 420, 103, 1058, 1057, 52, 103, 1106, 1105, 55, 103, 1083, 1082, 54, 103] rfl (by decide +kernel)
set_option maxRecDepth 100000 in
theorem mi_g1_2 : GoodIn lw_tbl (List.flatMap mi_mw [mi_M20, mi_M21, mi_M22, mi_M23, mi_M24, mi_M25, mi_M26, mi_M27, mi_M28, mi_M29]) := goodIn_r _ [883, 882, 39, 103, 1033, 1032, 49, 103, 879, 877, 878, 103, 1054, 1053, 51, 103, 902, 901, 40, 103, 1037, 1036, 50, 103, 906, 905, 41, 103, 126, 125, 90, 608, 606, 607, 90, 738, 736, 737, 90] rfl (by decide +kernel)
set_option maxRecDepth 100000 in
theorem mi_g1_3 : GoodIn lw_tbl (List.flatMap mi_mw [mi_M30, mi_M31, mi_M32, mi_M33, mi_M34, mi_M35, mi_M36, mi_M37, mi_M38, mi_M39]) := goodIn_r _ [447, 446, 105, 1062, 1060, 1061, 105, 1066, 1065, 53, 105, 1239, 1238, 71, 105, 1234, 1233, 70, 105, 1178, 1177, 64, 105, 1222, 1221, 68, 105, 1142, 1140, 1141, 105, 1079, 1077, 1078, 105, 1154, 1153, 61, 105] rfl (by decide +kernel)
set_option maxRecDepth 100000 in
theorem mi_g1_4 : GoodIn lw_tbl (List.flatMap mi_mw [mi_M40, mi_M41, mi_M42, mi_M43, mi_M44, mi_M45, mi_M46, mi_M47, mi_M48, mi_M49]) := goodIn_r _ [1160, 1159, 62, 105, 1218, 1217, 67, 105, 1226, 1225, 69, 105, 266, 265, 97, 1097, 1095, 1096, 97, 962, 960, 961, 97, 966, 964, 965, 97, 1075, 1073, 1074, 97, 1071, 1069, 1070, 97, 597, 595, 596, 97] rfl (by decide +kernel)
set_option maxRecDepth 100000 in
theorem mi_g1_5 : GoodIn lw_tbl (List.flatMap mi_mw [mi_M50, mi_M51, mi_M52, mi_M53, mi_M54, mi_M55, mi_M56, mi_M57, mi_M58, mi_M59]) := goodIn_r _ [977, 975, 976, 97, 271, 270, 97, 1366, 1364, 1365, 97, 1230, 1228, 1229, 97, 969, 968, 97, 1479, 1477, 1478, 97, 1165, 1163, 1164, 97, 973, 971, 972, 97, 402, 401, 102, 747, 746, 13, 102] rfl (by decide +kernel)
set_option maxRecDepth 100000 in
theorem mi_g1_6 : GoodIn lw_tbl (List.flatMap mi_mw [mi_M60, mi_M61, mi_M62, mi_M63, mi_M64, mi_M65, mi_M66, mi_M67, mi_M68, mi_M69]) := goodIn_r _ [807, 806, 25, 102, 863, 862, 35, 102, 871, 870, 37, 102, 859, 858, 34, 102, 795, 794, 22, 102, 799, 798, 23, 102, 783, 782, 19, 102, 787, 786, 20, 102, 791, 790, 21, 102, 823, 822, 27, 102] rfl (by decide +kernel)
set_option maxRecDepth 100000 in
theorem mi_g1_7 : GoodIn lw_tbl (List.flatMap mi_mw [mi_M70, mi_M71, mi_M72, mi_M73, mi_M74, mi_M75, mi_M76, mi_M77, mi_M78, mi_M79]) := goodIn_r _ [730, 729, 10, 102, 734, 733, 11, 102, 803, 802, 24, 102, 779, 778, 18, 102, 855, 854, 33, 102, 721, 719, 720, 102, 1549, 1547, 1548, 102, 847, 846, 31, 102, 867, 866, 36, 102, 725, 724, 9, 102] rfl (by decide +kernel)
set_option maxRecDepth 100000 in
theorem mi_g1_8 : GoodIn lw_tbl (List.flatMap mi_mw [mi_M80, mi_M81, mi_M82, mi_M83, mi_M84, mi_M85, mi_M86, mi_M87, mi_M88, mi_M89]) := goodIn_r _ [875, 874, 38, 102, 775, 774, 17, 102, 851, 850, 32, 102, 755, 754, 14, 102, 427, 426, 104, 1102, 1100, 1101, 104, 887, 885, 886, 104, 1110, 1108, 1109, 104, 922, 920, 921, 104, 1041, 1039, 1040, 104] rfl (by decide +kernel)
set_option maxRecDepth 100000 in
theorem mi_g1_9 : GoodIn lw_tbl (List.flatMap mi_mw [mi_M90, mi_M91, mi_M92, mi_M93, mi_M94, mi_M95, mi_M96, mi_M97, mi_M98, mi_M99]) := goodIn_r _ [914, 912, 913, 104, 918, 916, 917, 104, 1045, 1043, 1044, 104, 371, 370, 101, 843, 841, 842, 101, 751, 749, 750, 101, 898, 896, 897, 101, 593, 591, 592, 101, 819, 818, 26, 101, 893, 891, 892, 101] rfl (by decide +kernel)
set_option maxRecDepth 100000 in
theorem mi_g1_10 : GoodIn lw_tbl (List.flatMap mi_mw [mi_M100, mi_M101, mi_M102, mi_M103, mi_M104, mi_M105, mi_M106, mi_M107, mi_M108, mi_M109]) := goodIn_r _ [815, 813, 814, 101, 1050, 1048, 1049, 101, 839, 837, 838, 101, 1005, 1003, 1004, 101, 141, 140, 91, 632, 631, 4, 91, 624, 623, 2, 91, 645, 644, 91, 638, 637, 91, 635, 634, 91] rfl (by decide +kernel)
set_option maxRecDepth 100000 in
theorem mi_g1_11 : GoodIn lw_tbl (List.flatMap mi_mw [mi_M110, mi_M111, mi_M112, mi_M113, mi_M114, mi_M115, mi_M116, mi_M117, mi_M118, mi_M119]) := goodIn_r _ [910, 908, 909, 91, 717, 715, 716, 91, 649, 648, 6, 91, 811, 809, 810, 91, 620, 619, 1, 91, 763, 761, 762, 91, 612, 610, 611, 91, 657, 656, 8, 91, 628, 627, 3, 91, 642, 641, 5, 91] rfl (by decide +kernel)
set_option maxRecDepth 100000 in
theorem mi_g1_12 : GoodIn lw_tbl (List.flatMap mi_mw [mi_M120, mi_M121, mi_M122, mi_M123, mi_M124, mi_M125, mi_M126, mi_M127, mi_M128, mi_M129]) := goodIn_r _ [223, 222, 96, 930, 928, 929, 96, 926, 924, 925, 96, 601, 599, 600, 96, 1489, 1487, 1488, 96, 942, 941, 42, 96, 319, 317, 318, 96, 938, 936, 937, 96, 1019, 1017, 1018, 96, 307, 305, 306, 96] rfl (by decide +kernel)
set_option maxRecDepth 100000 in
theorem mi_g1_13 : GoodIn lw_tbl (List.flatMap mi_mw [mi_M130, mi_M131, mi_M132, mi_M133, mi_M134, mi_M135, mi_M136, mi_M137, mi_M138, mi_M139]) := goodIn_r _ [934, 932, 933, 96, 1350, 1348, 1349, 96, 1354, 1352, 1353, 96, 1023, 1022, 48, 96, 315, 313, 314, 96, 954, 952, 953, 96, 283, 281, 282, 96, 279, 277, 278, 96, 1093, 1091, 1092, 96, 1467, 1465, 1466, 96] rfl (by decide +kernel)
set_option maxRecDepth 100000 in
theorem mi_g1_14 : GoodIn lw_tbl (List.flatMap mi_mw [mi_M140, mi_M141, mi_M142, mi_M143, mi_M144, mi_M145, mi_M146, mi_M147, mi_M148, mi_M149]) := goodIn_r _ [958, 956, 957, 96, 950, 949, 44, 96, 311, 309, 310, 96, 1087, 1085, 1086, 96, 1471, 1469, 1470, 96, 1386, 1384, 1385, 96, 1358, 1356, 1357, 96, 946, 945, 43, 96, 1014, 1012, 1013, 96, 524, 523, 106] rfl (by decide +kernel)
set_option maxRecDepth 100000 in
theorem mi_g1_15 : GoodIn lw_tbl (List.flatMap mi_mw [mi_M150, mi_M151, mi_M152, mi_M153, mi_M154, mi_M155, mi_M156, mi_M157, mi_M158, mi_M159]) := goodIn_r _ [1380, 1379, 77, 106, 1453, 1451, 1452, 106, 1369, 1368, 106, 1376, 1375, 76, 106, 1391, 1390, 78, 106, 1418, 1417, 83, 106, 1423, 1422, 84, 106, 1344, 1343, 74, 106, 1362, 1361, 75, 106, 1340, 1338, 1339, 106] rfl (by decide +kernel)
set_option maxRecDepth 100000 in
theorem mi_g1_16 : GoodIn lw_tbl (List.flatMap mi_mw [mi_M160, mi_M161, mi_M162, mi_M163, mi_M164, mi_M165, mi_M166, mi_M167, mi_M168, mi_M169]) := goodIn_r _ [1395, 1394, 79, 106, 1411, 1410, 82, 106, 1428, 1427, 85, 106, 1399, 1398, 80, 106, 1404, 1403, 81, 106, 1329, 1327, 1328, 106, 1497, 1495, 1496, 106, 1541, 1540, 88, 1582, 1581, 88, 1562, 1561, 88] rfl (by decide +kernel)
set_option maxRecDepth 100000 in
theorem mi_g1_17 : GoodIn lw_tbl (List.flatMap mi_mw [mi_M170, mi_M171, mi_M172, mi_M173, mi_M174, mi_M175, mi_M176, mi_M177, mi_M178, mi_M179]) := goodIn_r _ [1558, 1557, 88, 1590, 1589, 88, 1509, 1508, 88, 1586, 1585, 88, 1505, 1504, 88, 1500, 1499, 88, 1566, 1565, 88, 1555, 1554, 88, 1414, 1413, 99, 1183, 1182, 99] rfl (by decide +kernel)
set_option maxRecDepth 100000 in
theorem mi_g1_18 : GoodIn lw_tbl (List.flatMap mi_mw [mi_M180, mi_M181, mi_M182, mi_M183, mi_M184, mi_M185, mi_M186, mi_M187, mi_M188, mi_M189]) := goodIn_r _ [157, 155, 156, 92, 167, 166, 92, 151, 149, 150, 92, 662, 660, 661, 92, 666, 664, 665, 92, 161, 159, 160, 92, 147, 145, 146, 92, 673, 672, 93, 164, 163, 93, 670, 669, 93] rfl (by decide +kernel)
set_option maxRecDepth 100000 in
theorem mi_g1_19 : GoodIn lw_tbl (List.flatMap mi_mw [mi_M190, mi_M191, mi_M192]) := goodIn_r _ [678, 677, 93, 604, 603, 98, 172, 171, 94] rfl (by decide +kernel)
theorem mi_g1 : GoodIn lw_tbl (mi_mt.flatMap mi_mw) := by
  have e : mi_mt = [mi_M0, mi_M1, mi_M2, mi_M3, mi_M4, mi_M5, mi_M6, mi_M7, mi_M8, mi_M9] ++ ([mi_M10, mi_M11, mi_M12, mi_M13, mi_M14, mi_M15, mi_M16, mi_M17, mi_M18, mi_M19] ++ ([mi_M20, mi_M21, mi_M22, mi_M23, mi_M24, mi_M25, mi_M26, mi_M27, mi_M28, mi_M29] ++ ([mi_M30, mi_M31, mi_M32, mi_M33, mi_M34, mi_M35, mi_M36, mi_M37, mi_M38, mi_M39] ++ ([mi_M40, mi_M41, mi_M42, mi_M43, mi_M44, mi_M45, mi_M46, mi_M47, mi_M48, mi_M49] ++ ([mi_M50, mi_M51, mi_M52, mi_M53, mi_M54, mi_M55, mi_M56, mi_M57, mi_M58, mi_M59] ++ ([mi_M60, mi_M61, mi_M62, mi_M63, mi_M64, mi_M65, mi_M66, mi_M67, mi_M68, mi_M69] ++ ([mi_M70, mi_M71, mi_M72, mi_M73, mi_M74, mi_M75, mi_M76, mi_M77, mi_M78, mi_M79] ++ ([mi_M80, mi_M81, mi_M82, mi_M83, mi_M84, mi_M85, mi_M86, mi_M87, mi_M88, mi_M89] ++ ([mi_M90, mi_M91, mi_M92, mi_M93, mi_M94, mi_M95, mi_M96, mi_M97, mi_M98, mi_M99] ++ ([mi_M100, mi_M101, mi_M102, mi_M103, mi_M104, mi_M105, mi_M106, mi_M107, mi_M108, mi_M109] ++ ([mi_M110, mi_M111, mi_M112, mi_M113, mi_M114, mi_M115, mi_M116, mi_M117, mi_M118, mi_M119] ++ ([mi_M120, mi_M121, mi_M122, mi_M123, mi_M124, mi_M125, mi_M126, mi_M127, mi_M128, mi_M129] ++ ([mi_M130, mi_M131, mi_M132, mi_M133, mi_M134, mi_M135, mi_M136, mi_M137, mi_M138, mi_M139] ++ ([mi_M140, mi_M141, mi_M142, mi_M143, mi_M144, mi_M145, mi_M146, mi_M147, mi_M148, mi_M149] ++ ([mi_M150, mi_M151, mi_M152, mi_M153, mi_M154, mi_M155, mi_M156, mi_M157, mi_M158, mi_M159] ++ ([mi_M160, mi_M161, mi_M162, mi_M163, mi_M164, mi_M165, mi_M166, mi_M167, mi_M168, mi_M169] ++ ([mi_M170, mi_M171, mi_M172, mi_M173, mi_M174, mi_M175, mi_M176, mi_M177, mi_M178, mi_M179] ++ ([mi_M180, mi_M181, mi_M182, mi_M183, mi_M184, mi_M185, mi_M186, mi_M187, mi_M188, mi_M189] ++ ([mi_M190, mi_M191, mi_M192]))))))))))))))))))) := rfl
  rw [e]
  intro w hw
  obtain ⟨M, hM, hw⟩ := List.mem_flatMap.mp hw
  rcases List.mem_append.mp hM with hM | hM
  · exact mi_g1_0 w (List.mem_flatMap.mpr ⟨M, hM, hw⟩)
  rcases List.mem_append.mp hM with hM | hM
  · exact mi_g1_1 w (List.mem_flatMap.mpr ⟨M, hM, hw⟩)
  rcases List.mem_append.mp hM with hM | hM
  · exact mi_g1_2 w (List.mem_flatMap.mpr ⟨M, hM, hw⟩)
  rcases List.mem_append.mp hM with hM | hM
  · exact mi_g1_3 w (List.mem_flatMap.mpr ⟨M, hM, hw⟩)
  rcases List.mem_append.mp hM with hM | hM
  · exact mi_g1_4 w (List.mem_flatMap.mpr ⟨M, hM, hw⟩)
  rcases List.mem_append.mp hM with hM | hM
  · exact mi_g1_5 w (List.mem_flatMap.mpr ⟨M, hM, hw⟩)
  rcases List.mem_append.mp hM with hM | hM
  · exact mi_g1_6 w (List.mem_flatMap.mpr ⟨M, hM, hw⟩)
  rcases List.mem_append.mp hM with hM | hM
  · exact mi_g1_7 w (List.mem_flatMap.mpr ⟨M, hM, hw⟩)
  rcases List.mem_append.mp hM with hM | hM
  · exact mi_g1_8 w (List.mem_flatMap.mpr ⟨M, hM, hw⟩)
  rcases List.mem_append.mp hM with hM | hM
  · exact mi_g1_9 w (List.mem_flatMap.mpr ⟨M, hM, hw⟩)
  rcases List.mem_append.mp hM with hM | hM
  · exact mi_g1_10 w (List.mem_flatMap.mpr ⟨M, hM, hw⟩)
  rcases List.mem_append.mp hM with hM | hM
  · exact mi_g1_11 w (List.mem_flatMap.mpr ⟨M, hM, hw⟩)
  rcases List.mem_append.mp hM with hM | hM
  · exact mi_g1_12 w (List.mem_flatMap.mpr ⟨M, hM, hw⟩)
  rcases List.mem_append.mp hM with hM | hM
  · exact mi_g1_13 w (List.mem_flatMap.mpr ⟨M, hM, hw⟩)
  rcases List.mem_append.mp hM with hM | hM
  · exact mi_g1_14 w (List.mem_flatMap.mpr ⟨M, hM, hw⟩)
  rcases List.mem_append.mp hM with hM | hM
  · exact mi_g1_15 w (List.mem_flatMap.mpr ⟨M, hM, hw⟩)
  rcases List.mem_append.mp hM with hM | hM
  · exact mi_g1_16 w (List.mem_flatMap.mpr ⟨M, hM, hw⟩)
  rcases List.mem_append.mp hM with hM | hM
  · exact mi_g1_17 w (List.mem_flatMap.mpr ⟨M, hM, hw⟩)
  rcases List.mem_append.mp hM with hM | hM
  · exact mi_g1_18 w (List.mem_flatMap.mpr ⟨M, hM, hw⟩)
  exact mi_g1_19 w (List.mem_flatMap.mpr ⟨M, hM, hw⟩)
set_option maxRecDepth 100000 in
theorem mi_g2 : GoodIn lw_tbl ((List.range mi_no).flatMap mi_lw) := goodIn_r _ [488, 483, 485, 486, 489, 484, 487, 490, 492, 493, 494, 491, 422, 445, 880, 888, 889, 890, 894, 895, 899, 1047, 1051, 1139, 884, 1055, 1076, 1080, 1030, 907, 1011, 1099, 1103, 1002, 1016, 1059, 1068, 963, 1072, 1084, 1089, 1090, 1094, 1107, 1112, 923, 1042, 903, 1006, 1034, 911, 915, 919, 959, 970, 1015, 1038, 423, 443, 130, 128, 127, 453, 454, 455, 449, 450, 451, 452, 458, 456, 457, 448, 1151, 1215, 1157, 1223, 1231, 1236, 1063, 1067, 1155, 1161, 1162, 1181, 1175, 1185, 1207, 1208, 1209, 1219, 1227, 1235, 1179, 1180, 322, 323, 324, 325, 326, 327, 328, 329, 321, 330, 331, 332, 333, 334, 335, 267, 269, 276, 301, 304, 308, 312, 316, 272, 273, 598, 602, 967, 1098, 974, 404, 405, 406, 407, 403, 722, 727, 735, 731, 752, 796, 726, 739, 760, 748, 744, 808, 812, 792, 772, 776, 780, 784, 788, 800, 820, 844, 804, 848, 852, 856, 860, 872, 864, 868, 429, 430, 431, 432, 428, 1046, 1111, 373, 374, 375, 376, 377, 378, 379, 380, 372, 816, 193, 194, 195, 196, 197, 192, 198, 199, 142, 144, 154, 613, 616, 617, 625, 714, 621, 629, 633, 636, 639, 643, 654, 646, 659, 225, 226, 227, 228, 229, 230, 231, 232, 233, 234, 236, 235, 224, 280, 935, 1020, 927, 931, 1024, 1025, 939, 943, 955, 947, 951, 284, 1088, 528, 529, 526, 527, 531, 532, 530, 525, 1341, 1347, 1351, 1383, 1387, 1388, 1392, 1396, 1345, 1346, 1355, 1359, 1371, 1372, 1373, 1377, 1382, 1363, 1367, 1401, 1408, 1415, 1420, 1425, 1412, 1405, 1406, 1381, 1370, 548, 549, 550, 551, 552, 553, 554, 555, 556, 557, 558, 129, 119, 139, 221, 264, 400, 419, 522, 1515, 586, 605, 609, 718, 876, 1240, 1241, 1313, 1334, 1336, 1337, 1326, 1550, 1450, 1459, 1476, 1484, 1485, 1486, 1494, 1546, 1551, 1325, 590, 594, 1463, 1464, 1468, 122, 137, 219, 262, 367, 398, 417, 520, 1429, 1523, 1246, 1501, 1502, 1498, 1503, 1242, 1510, 1519, 1507, 582, 1542, 1556, 1560, 1553, 1580, 1564, 116, 1480, 1454, 1330, 1445, 1539, 1588, 1490, 1584, 1472, 114, 1587, 1570, 1563, 1559, 148, 158, 162, 667, 663, 668, 170, 1605, 1606, 152, 168, 165, 675, 671, 674, 676] (by decide +kernel) (by decide +kernel)
set_option maxRecDepth 100000 in
theorem mi_g3 : GoodIn lw_tbl (mi_n3) := goodIn_r _ [218, 217, 136, 442, 121, 120, 111, 112, 110, 99, 614, 615, 296, 297] (by decide +kernel) (by decide +kernel)
theorem mi_g4_0 : ∀ w ∈ (vx_atS "TypeLoom" 90 (mi_xn 0) mi_xc).filter goodWord, w ∈ lw_tbl := by decide +kernel
theorem mi_g4_1 : ∀ w ∈ (vx_atS "TypeLoom" 101 (mi_xn 1) mi_xc).filter goodWord, w ∈ lw_tbl := by decide +kernel
theorem mi_g4_2 : ∀ w ∈ (vx_atS "TypeLoom" 135 (mi_xn 2) mi_xc).filter goodWord, w ∈ lw_tbl := by decide +kernel
theorem mi_g4 : GoodIn lw_tbl mi_n4 := by
  intro w hw
  obtain ⟨q, hq, hw⟩ := List.mem_flatMap.mp hw
  refine ⟨?_, good_of_word (List.mem_filter.mp hw).2⟩
  simp only [mi_xs, List.mem_cons, List.not_mem_nil, or_false] at hq
  rcases hq with rfl | rfl | rfl
  · exact mi_g4_0 w hw
  · exact mi_g4_1 w hw
  · exact mi_g4_2 w hw
theorem mi_gn : GoodIn lw_tbl mi_need := goodIn_app mi_g0 (goodIn_app mi_g1 (goodIn_app mi_g2 (goodIn_app mi_g3 mi_g4)))
theorem mi_gself : GoodIn mi_need mi_need := fun w h => ⟨h, (mi_gn w h).2⟩
theorem mi_in0 {w : Cond} {q : vw_C} (hq : q ∈ mi_cl) (h : w ∈ mi_kw q) : w ∈ mi_need := List.mem_append_left _ (List.mem_flatMap.mpr ⟨q, hq, h⟩)
theorem mi_in1 {w : Cond} {M : mi_M} (hq : M ∈ mi_mt) (h : w ∈ mi_mw M) : w ∈ mi_need := List.mem_append_right _ (List.mem_append_left _ (List.mem_flatMap.mpr ⟨M, hq, h⟩))
theorem mi_in2 {w : Cond} {o : Nat} (hq : o < mi_no) (h : w ∈ mi_lw o) : w ∈ mi_need := List.mem_append_right _ (List.mem_append_right _ (List.mem_append_left _ (List.mem_flatMap.mpr ⟨o, List.mem_range.mpr hq, h⟩)))
theorem mi_in3 {w : Cond} (h : w ∈ mi_n3) : w ∈ mi_need := List.mem_append_right _ (List.mem_append_right _ (List.mem_append_right _ (List.mem_append_left _ h)))
theorem mi_in4 {w : Cond} (h : w ∈ mi_n4) : w ∈ mi_need := List.mem_append_right _ (List.mem_append_right _ (List.mem_append_right _ (List.mem_append_right _ h)))
/-- a method's row, held against its class file -/
def mi_mok (M : mi_M) : Bool := plainFor (mi_y M) && (decide ((mi_y M).cls ≠ "java/lang/invoke/MethodHandle") && (decide ((mi_y M).cls ≠ "java/lang/invoke/VarHandle") && (decide ((parseMethodDescriptor (mi_y M).desc).map (fun d => d.parameters.length) = some (mi_np M)) && (decide ((mi_y M).cls = mi_on (mi_ow M)) && (decide (mi_ow M < mi_no) && (decide (mi_nL M ≤ 20) && ((!decide (mi_kd M = 2) || decide ((mi_y M).name = "<init>")) && ((mi_cd M).all (fun q => decide (decode (mi_bt M) q.1 = .ok q.2)) && ((mi_th M).all (fun q => decide (decode (mi_bt M) q.1 = .ok (.new q.2.2.1, 3)) && (decide (decode (mi_bt M) (q.1 + 3) = .ok (.dup, 1)) && (decide (decode (mi_bt M) (q.1 + 4) = .ok (.ldc q.2.2.2.1, 2)) && (decide (decode (mi_bt M) (q.1 + 6) = .ok (.invokespecial q.2.2.2.2.1, 3)) && (decide (decode (mi_bt M) (q.1 + 9) = .ok (.athrow, 1)) && (decide ((mi_y M).cls = "TypeLoom") && (decide ((q.2.1, q.2.2.2.2.1) ∈ mi_xs) && (decide (mi_kd M < 3) && (decide (mi_lk (mi_xl (mi_ow M)) q.2.2.1 = some q.2.1) && (decide (q.2.1 < 3) && (match mi_lk (mi_sl (mi_ow M)) q.2.2.2.1 with | some i => decide (i < mi_nS) | none => false)))))))))))) && (decide (mi_kd M = 3) || decide (mi_hd M = []))))))))))
set_option maxRecDepth 100000 in
theorem mi_ok0 : ∀ M ∈ [mi_M0, mi_M1, mi_M2, mi_M3, mi_M4, mi_M5], mi_mok M = true := by decide +kernel
set_option maxRecDepth 100000 in
theorem mi_ok1 : ∀ M ∈ [mi_M6, mi_M7, mi_M8, mi_M9, mi_M10, mi_M11], mi_mok M = true := by decide +kernel
set_option maxRecDepth 100000 in
theorem mi_ok2 : ∀ M ∈ [mi_M12, mi_M13, mi_M14, mi_M15, mi_M16, mi_M17], mi_mok M = true := by decide +kernel
set_option maxRecDepth 100000 in
theorem mi_ok3 : ∀ M ∈ [mi_M18, mi_M19, mi_M20, mi_M21, mi_M22, mi_M23], mi_mok M = true := by decide +kernel
set_option maxRecDepth 100000 in
theorem mi_ok4 : ∀ M ∈ [mi_M24, mi_M25, mi_M26, mi_M27, mi_M28, mi_M29], mi_mok M = true := by decide +kernel
set_option maxRecDepth 100000 in
theorem mi_ok5 : ∀ M ∈ [mi_M30, mi_M31, mi_M32, mi_M33, mi_M34, mi_M35], mi_mok M = true := by decide +kernel
set_option maxRecDepth 100000 in
theorem mi_ok6 : ∀ M ∈ [mi_M36, mi_M37, mi_M38, mi_M39, mi_M40, mi_M41], mi_mok M = true := by decide +kernel
set_option maxRecDepth 100000 in
theorem mi_ok7 : ∀ M ∈ [mi_M42, mi_M43, mi_M44, mi_M45, mi_M46, mi_M47], mi_mok M = true := by decide +kernel
set_option maxRecDepth 100000 in
theorem mi_ok8 : ∀ M ∈ [mi_M48, mi_M49, mi_M50, mi_M51, mi_M52, mi_M53], mi_mok M = true := by decide +kernel
set_option maxRecDepth 100000 in
theorem mi_ok9 : ∀ M ∈ [mi_M54, mi_M55, mi_M56, mi_M57, mi_M58, mi_M59], mi_mok M = true := by decide +kernel
set_option maxRecDepth 100000 in
theorem mi_ok10 : ∀ M ∈ [mi_M60, mi_M61, mi_M62, mi_M63, mi_M64, mi_M65], mi_mok M = true := by decide +kernel
set_option maxRecDepth 100000 in
theorem mi_ok11 : ∀ M ∈ [mi_M66, mi_M67, mi_M68, mi_M69, mi_M70, mi_M71], mi_mok M = true := by decide +kernel
set_option maxRecDepth 100000 in
theorem mi_ok12 : ∀ M ∈ [mi_M72, mi_M73, mi_M74, mi_M75, mi_M76, mi_M77], mi_mok M = true := by decide +kernel
set_option maxRecDepth 100000 in
theorem mi_ok13 : ∀ M ∈ [mi_M78, mi_M79, mi_M80, mi_M81, mi_M82, mi_M83], mi_mok M = true := by decide +kernel
set_option maxRecDepth 100000 in
theorem mi_ok14 : ∀ M ∈ [mi_M84, mi_M85, mi_M86, mi_M87, mi_M88, mi_M89], mi_mok M = true := by decide +kernel
set_option maxRecDepth 100000 in
theorem mi_ok15 : ∀ M ∈ [mi_M90, mi_M91, mi_M92, mi_M93, mi_M94, mi_M95], mi_mok M = true := by decide +kernel
set_option maxRecDepth 100000 in
theorem mi_ok16 : ∀ M ∈ [mi_M96, mi_M97, mi_M98, mi_M99, mi_M100, mi_M101], mi_mok M = true := by decide +kernel
set_option maxRecDepth 100000 in
theorem mi_ok17 : ∀ M ∈ [mi_M102, mi_M103, mi_M104, mi_M105, mi_M106, mi_M107], mi_mok M = true := by decide +kernel
set_option maxRecDepth 100000 in
theorem mi_ok18 : ∀ M ∈ [mi_M108, mi_M109, mi_M110, mi_M111, mi_M112, mi_M113], mi_mok M = true := by decide +kernel
set_option maxRecDepth 100000 in
theorem mi_ok19 : ∀ M ∈ [mi_M114, mi_M115, mi_M116, mi_M117, mi_M118, mi_M119], mi_mok M = true := by decide +kernel
set_option maxRecDepth 100000 in
theorem mi_ok20 : ∀ M ∈ [mi_M120, mi_M121, mi_M122, mi_M123, mi_M124, mi_M125], mi_mok M = true := by decide +kernel
set_option maxRecDepth 100000 in
theorem mi_ok21 : ∀ M ∈ [mi_M126, mi_M127, mi_M128, mi_M129, mi_M130, mi_M131], mi_mok M = true := by decide +kernel
set_option maxRecDepth 100000 in
theorem mi_ok22 : ∀ M ∈ [mi_M132, mi_M133, mi_M134, mi_M135, mi_M136, mi_M137], mi_mok M = true := by decide +kernel
set_option maxRecDepth 100000 in
theorem mi_ok23 : ∀ M ∈ [mi_M138, mi_M139, mi_M140, mi_M141, mi_M142, mi_M143], mi_mok M = true := by decide +kernel
set_option maxRecDepth 100000 in
theorem mi_ok24 : ∀ M ∈ [mi_M144, mi_M145, mi_M146, mi_M147, mi_M148, mi_M149], mi_mok M = true := by decide +kernel
set_option maxRecDepth 100000 in
theorem mi_ok25 : ∀ M ∈ [mi_M150, mi_M151, mi_M152, mi_M153, mi_M154, mi_M155], mi_mok M = true := by decide +kernel
set_option maxRecDepth 100000 in
theorem mi_ok26 : ∀ M ∈ [mi_M156, mi_M157, mi_M158, mi_M159, mi_M160, mi_M161], mi_mok M = true := by decide +kernel
set_option maxRecDepth 100000 in
theorem mi_ok27 : ∀ M ∈ [mi_M162, mi_M163, mi_M164, mi_M165, mi_M166, mi_M167], mi_mok M = true := by decide +kernel
set_option maxRecDepth 100000 in
theorem mi_ok28 : ∀ M ∈ [mi_M168, mi_M169, mi_M170, mi_M171, mi_M172, mi_M173], mi_mok M = true := by decide +kernel
set_option maxRecDepth 100000 in
theorem mi_ok29 : ∀ M ∈ [mi_M174, mi_M175, mi_M176, mi_M177, mi_M178, mi_M179], mi_mok M = true := by decide +kernel
set_option maxRecDepth 100000 in
theorem mi_ok30 : ∀ M ∈ [mi_M180, mi_M181, mi_M182, mi_M183, mi_M184, mi_M185], mi_mok M = true := by decide +kernel
set_option maxRecDepth 100000 in
theorem mi_ok31 : ∀ M ∈ [mi_M186, mi_M187, mi_M188, mi_M189, mi_M190, mi_M191], mi_mok M = true := by decide +kernel
set_option maxRecDepth 100000 in
theorem mi_ok32 : ∀ M ∈ [mi_M192], mi_mok M = true := by decide +kernel
set_option maxRecDepth 100000 in
theorem mi_ok {M : mi_M} (h : M ∈ mi_mt) : mi_mok M = true := by
  have e : mi_mt = [mi_M0, mi_M1, mi_M2, mi_M3, mi_M4, mi_M5] ++ ([mi_M6, mi_M7, mi_M8, mi_M9, mi_M10, mi_M11] ++ ([mi_M12, mi_M13, mi_M14, mi_M15, mi_M16, mi_M17] ++ ([mi_M18, mi_M19, mi_M20, mi_M21, mi_M22, mi_M23] ++ ([mi_M24, mi_M25, mi_M26, mi_M27, mi_M28, mi_M29] ++ ([mi_M30, mi_M31, mi_M32, mi_M33, mi_M34, mi_M35] ++ ([mi_M36, mi_M37, mi_M38, mi_M39, mi_M40, mi_M41] ++ ([mi_M42, mi_M43, mi_M44, mi_M45, mi_M46, mi_M47] ++ ([mi_M48, mi_M49, mi_M50, mi_M51, mi_M52, mi_M53] ++ ([mi_M54, mi_M55, mi_M56, mi_M57, mi_M58, mi_M59] ++ ([mi_M60, mi_M61, mi_M62, mi_M63, mi_M64, mi_M65] ++ ([mi_M66, mi_M67, mi_M68, mi_M69, mi_M70, mi_M71] ++ ([mi_M72, mi_M73, mi_M74, mi_M75, mi_M76, mi_M77] ++ ([mi_M78, mi_M79, mi_M80, mi_M81, mi_M82, mi_M83] ++ ([mi_M84, mi_M85, mi_M86, mi_M87, mi_M88, mi_M89] ++ ([mi_M90, mi_M91, mi_M92, mi_M93, mi_M94, mi_M95] ++ ([mi_M96, mi_M97, mi_M98, mi_M99, mi_M100, mi_M101] ++ ([mi_M102, mi_M103, mi_M104, mi_M105, mi_M106, mi_M107] ++ ([mi_M108, mi_M109, mi_M110, mi_M111, mi_M112, mi_M113] ++ ([mi_M114, mi_M115, mi_M116, mi_M117, mi_M118, mi_M119] ++ ([mi_M120, mi_M121, mi_M122, mi_M123, mi_M124, mi_M125] ++ ([mi_M126, mi_M127, mi_M128, mi_M129, mi_M130, mi_M131] ++ ([mi_M132, mi_M133, mi_M134, mi_M135, mi_M136, mi_M137] ++ ([mi_M138, mi_M139, mi_M140, mi_M141, mi_M142, mi_M143] ++ ([mi_M144, mi_M145, mi_M146, mi_M147, mi_M148, mi_M149] ++ ([mi_M150, mi_M151, mi_M152, mi_M153, mi_M154, mi_M155] ++ ([mi_M156, mi_M157, mi_M158, mi_M159, mi_M160, mi_M161] ++ ([mi_M162, mi_M163, mi_M164, mi_M165, mi_M166, mi_M167] ++ ([mi_M168, mi_M169, mi_M170, mi_M171, mi_M172, mi_M173] ++ ([mi_M174, mi_M175, mi_M176, mi_M177, mi_M178, mi_M179] ++ ([mi_M180, mi_M181, mi_M182, mi_M183, mi_M184, mi_M185] ++ ([mi_M186, mi_M187, mi_M188, mi_M189, mi_M190, mi_M191] ++ ([mi_M192])))))))))))))))))))))))))))))))) := rfl
  rw [e] at h
  rcases List.mem_append.mp h with h | h
  · exact mi_ok0 M h
  rcases List.mem_append.mp h with h | h
  · exact mi_ok1 M h
  rcases List.mem_append.mp h with h | h
  · exact mi_ok2 M h
  rcases List.mem_append.mp h with h | h
  · exact mi_ok3 M h
  rcases List.mem_append.mp h with h | h
  · exact mi_ok4 M h
  rcases List.mem_append.mp h with h | h
  · exact mi_ok5 M h
  rcases List.mem_append.mp h with h | h
  · exact mi_ok6 M h
  rcases List.mem_append.mp h with h | h
  · exact mi_ok7 M h
  rcases List.mem_append.mp h with h | h
  · exact mi_ok8 M h
  rcases List.mem_append.mp h with h | h
  · exact mi_ok9 M h
  rcases List.mem_append.mp h with h | h
  · exact mi_ok10 M h
  rcases List.mem_append.mp h with h | h
  · exact mi_ok11 M h
  rcases List.mem_append.mp h with h | h
  · exact mi_ok12 M h
  rcases List.mem_append.mp h with h | h
  · exact mi_ok13 M h
  rcases List.mem_append.mp h with h | h
  · exact mi_ok14 M h
  rcases List.mem_append.mp h with h | h
  · exact mi_ok15 M h
  rcases List.mem_append.mp h with h | h
  · exact mi_ok16 M h
  rcases List.mem_append.mp h with h | h
  · exact mi_ok17 M h
  rcases List.mem_append.mp h with h | h
  · exact mi_ok18 M h
  rcases List.mem_append.mp h with h | h
  · exact mi_ok19 M h
  rcases List.mem_append.mp h with h | h
  · exact mi_ok20 M h
  rcases List.mem_append.mp h with h | h
  · exact mi_ok21 M h
  rcases List.mem_append.mp h with h | h
  · exact mi_ok22 M h
  rcases List.mem_append.mp h with h | h
  · exact mi_ok23 M h
  rcases List.mem_append.mp h with h | h
  · exact mi_ok24 M h
  rcases List.mem_append.mp h with h | h
  · exact mi_ok25 M h
  rcases List.mem_append.mp h with h | h
  · exact mi_ok26 M h
  rcases List.mem_append.mp h with h | h
  · exact mi_ok27 M h
  rcases List.mem_append.mp h with h | h
  · exact mi_ok28 M h
  rcases List.mem_append.mp h with h | h
  · exact mi_ok29 M h
  rcases List.mem_append.mp h with h | h
  · exact mi_ok30 M h
  rcases List.mem_append.mp h with h | h
  · exact mi_ok31 M h
  exact mi_ok32 M h
end
section
/-! ===== the abstract machine, part two: cells, calls, whole methods ===== -/
abbrev mi_H : Type := List va_E
/-- the script of the law, if it is known -/
abbrev mi_X : Type := Option (Nat × (Nat → Int32))
abbrev mi_Q : Type := Option (Nat × List Value × mi_H × Nat × Nat)
def mi_inb (j : Int32) (n : Nat) : Bool := decide (0 ≤ j.toInt) && decide (j.toInt < (n : Int))
def mi_gf (ci j k pc' : Nat) (r : List Value) (h : mi_H) (c s : Nat) : mi_Q := match h[k]? with
  | some (.inr o) => if o.1 = ci then (match o.2[j]? with
    | some v => some (pc', v :: r, h, c, s)
    | none => none) else none
  | _ => none
/-- a read of a String constant's field: 0 its bytes, 1 its coder -/
def mi_gs (j k pc' : Nat) (r : List Value) (h : mi_H) (c s : Nat) : mi_Q :=
  if k % 4 = 0 ∧ k / 4 < mi_nS then (if j = 0 then some (pc', .retAddr (k + 1) :: r, h, c, s) else if j = 1 then some (pc', .int 0 :: r, h, c, s) else none) else none
def mi_getf (o idx pc' : Nat) (st : List Value) (h : mi_H) (c s : Nat) : mi_Q := match st with
  | .ref k :: r => (match mi_lk (mi_fl o) idx with
    | some x => mi_gf x.1 x.2 k pc' r h c s
    | none => (match mi_lk (mi_nf o) idx with
      | some x => mi_gf x.1 x.2 k pc' r h c s
      | none => none))
  | .retAddr k :: r => (match mi_lk (mi_sf o) idx with
    | some j => mi_gs j k pc' r h c s
    | none => none)
  | _ => none
def mi_fit : FieldType → Value → Bool
  | .object _, v => mi_isA v
  | .array _, v => mi_isA v
  | .float, _ => false
  | ty, v => decide (narrow ty v = v) && fits ty v
def mi_fin (ci j : Nat) : Bool := match mi_cl[ci]? with
  | some q => (q.2.1 j).2.2.2
  | none => true
def mi_pf (M : mi_M) (ci j k pc' : Nat) (v : Value) (r : List Value) (h : mi_H) (c s : Nat) : mi_Q := match h[k]? with
  | some (.inr o) => if o.1 = ci ∧ j < o.2.length ∧ mi_fit (mi_ty ci j) v = true ∧ (mi_fin ci j = false ∨ (mi_kd M = 2 ∧ mi_ow M = ci)) then some (pc', r, h.set k (.inr (ci, o.2.set j v)), c, s) else none
  | _ => none
def mi_putf (M : mi_M) (idx pc' : Nat) (st : List Value) (h : mi_H) (c s : Nat) : mi_Q := match st with
  | v :: .ref k :: r => (match mi_lk (mi_fl (mi_ow M)) idx with
    | some x => mi_pf M x.1 x.2 k pc' v r h c s
    | none => none)
  | _ => none
/-- a load out of an array of ints, bytes or booleans: 0, 2, 3 -/
def mi_ald (t pc' : Nat) (st : List Value) (h : mi_H) (c s : Nat) : mi_Q := match st with
  | .int j :: .ref k :: r => (match h[k]? with
    | some (.inl (t', n, .inl f)) => if t' = t ∧ mi_inb j n = true then some (pc', .int (f j.toNatClampNeg) :: r, h, c, s) else none
    | _ => none)
  | _ => none
def mi_sld (X : mi_X) (pc' : Nat) (st : List Value) (h : mi_H) (c s : Nat) : mi_Q := match X, st with
  | some x, .int j :: .retAddr k :: r => if k = 3 ∧ mi_inb j x.1 = true then some (pc', .int (x.2 j.toNatClampNeg) :: r, h, c, s) else none
  | _, _ => none
def mi_bld (pc' : Nat) (st : List Value) (h : mi_H) (c s : Nat) : mi_Q := match st with
  | .int j :: .retAddr k :: r => if k % 4 = 1 ∧ k / 4 < mi_nS ∧ mi_inb j (mi_byt.getD (k / 4) []).length = true then some (pc', .int ((mi_byt.getD (k / 4) []).getD j.toNatClampNeg 0) :: r, h, c, s) else none
  | _ => none
def mi_lald (pc' : Nat) (st : List Value) (h : mi_H) (c s : Nat) : mi_Q := match st with
  | .int j :: .ref k :: r => (match h[k]? with
    | some (.inl (t', n, .inr (.inl f))) => if t' = 1 ∧ mi_inb j n = true then some (pc', .long (f j.toNatClampNeg) :: r, h, c, s) else none
    | _ => none)
  | _ => none
/-- the row of keywords, a static of the reference: place j is a String constant -/
def mi_ktab : List Nat := []
def mi_ast (t : Nat) (f' : Int32 → Int32) (pc' : Nat) (st : List Value) (h : mi_H) (c s : Nat) : mi_Q := match st with
  | .int x :: .int j :: .ref k :: r => (match h[k]? with
    | some (.inl (t', n, .inl f)) => if t' = t ∧ mi_inb j n = true then some (pc', r, h.set k (.inl (t, n, .inl (upd f j.toNatClampNeg (f' x)))), c, s) else none
    | _ => none)
  | _ => none
def mi_last (pc' : Nat) (st : List Value) (h : mi_H) (c s : Nat) : mi_Q := match st with
  | .long x :: .int j :: .ref k :: r => (match h[k]? with
    | some (.inl (t', n, .inr (.inl f))) => if t' = 1 ∧ mi_inb j n = true then some (pc', r, h.set k (.inl (1, n, .inr (.inl (vp_updL f j.toNatClampNeg x)))), c, s) else none
    | _ => none)
  | _ => none
def mi_alen (X : mi_X) (pc' : Nat) (st : List Value) (h : mi_H) (c s : Nat) : mi_Q := match st with
  | .ref k :: r => (match h[k]? with
    | some (.inl (t', n, .inl _)) => if t' < 4 then some (pc', .int (Int32.ofNat n) :: r, h, c, s) else none
    | some (.inl (t', n, .inr (.inl _))) => if t' < 4 then some (pc', .int (Int32.ofNat n) :: r, h, c, s) else none
    | _ => none)
  | .retAddr k :: r => if k % 4 = 1 ∧ k / 4 < mi_nS then some (pc', .int (Int32.ofNat (mi_byt.getD (k / 4) []).length) :: r, h, c, s) else (match X with
    | some x => if k = 3 then some (pc', .int (Int32.ofNat x.1) :: r, h, c, s) else none
    | none => none)
  | _ => none
/-- what stands in a row of Strings: null or a String constant -/
def mi_qv : Option Nat → Value
  | some q => .retAddr q
  | none => .null
/-- a load out of a row of Strings -/
def mi_qld (pc' : Nat) (st : List Value) (h : mi_H) (c s : Nat) : mi_Q := match st with
  | .int j :: .ref k :: r => (match h[k]? with
    | some (.inl (t', n, .inr (.inr (.inr (.inr f))))) => if t' = 4 ∧ mi_inb j n = true then some (pc', mi_qv (f j.toNatClampNeg) :: r, h, c, s) else none
    | _ => none)
  | _ => none
/-- a String constant into a row of Strings -/
def mi_qst (pc' : Nat) (st : List Value) (h : mi_H) (c s : Nat) : mi_Q := match st with
  | .retAddr q :: .int j :: .ref k :: r => (match h[k]? with
    | some (.inl (t', n, .inr (.inr (.inr (.inr f))))) => if t' = 4 ∧ mi_inb j n = true ∧ q % 4 = 0 ∧ q / 4 < mi_nS then some (pc', r, h.set k (.inl (4, n, .inr (.inr (.inr (.inr (va_up f j.toNatClampNeg (some q))))))), c, s) else none
    | _ => none)
  | _ => none
/-- a new row of Strings -/
def mi_qnw (o idx pc' : Nat) (st : List Value) (h : mi_H) (c s : Nat) : mi_Q := match st with
  | .int n :: r => if (mi_lk (mi_al_ o) idx).isSome = true ∧ mi_inb n 200001 = true then some (pc', .ref h.length :: r, h ++ [.inl (4, n.toNatClampNeg, .inr (.inr (.inr (.inr (fun _ => none)))))], c + 1, s + n.toNatClampNeg) else none
  | _ => none
def mi_nar (t : Nat) (z : Nat → vp_A) (pc' : Nat) (st : List Value) (h : mi_H) (c s : Nat) : mi_Q := match st with
  | .int n :: r => if mi_inb n 200001 = true then some (pc', .ref h.length :: r, h ++ [.inl (t, z n.toNatClampNeg)], c + 1, s + n.toNatClampNeg) else none
  | _ => none
def mi_new (o idx pc' : Nat) (st : List Value) (h : mi_H) (c s : Nat) : mi_Q := match mi_lk (mi_kl o) idx with
  | some ci => (match mi_cl[ci]? with
    | some q => some (pc', .ref h.length :: st, h ++ [.inr (ci, (List.range q.2.2).map (fun j => defaultValue (mi_ty ci j)))], c + 1, s + q.2.2)
    | none => none)
  | none => none
def mi_ldc (o idx pc' : Nat) (st : List Value) (h : mi_H) (c s : Nat) : mi_Q := match mi_lk (mi_il o) idx with
  | some v => some (pc', .int v :: st, h, c, s)
  | none => (match mi_lk (mi_sl o) idx with
    | some i => if i < mi_nS then some (pc', .retAddr (4 * i) :: st, h, c, s) else none
    | none => none)
def mi_ldc2 (o idx pc' : Nat) (st : List Value) (h : mi_H) (c s : Nat) : mi_Q := match mi_lk (mi_jl o) idx with
  | some v => some (pc', .long v :: st, h, c, s)
  | none => none
def mi_gets (o idx pc' : Nat) (st : List Value) (h : mi_H) (c s : Nat) : mi_Q := match mi_lk (mi_gl o) idx with
  | some 1 => some (pc', .float 0 :: st, h, c, s)
  | some 2 => some (pc', .int 1 :: st, h, c, s)
  | _ => none
/-- an instruction that reads or writes cells, or makes one -/
def mi_mem (X : mi_X) (M : mi_M) (i : Instr) (pc : Nat) (st : List Value) (h : mi_H) (c s : Nat) : mi_Q := match i with
  | .getfield idx => mi_getf (mi_ow M) idx (pc + 3) st h c s
  | .putfield idx => mi_putf M idx (pc + 3) st h c s
  | .iaload => (match mi_ald 0 (pc + 1) st h c s with
    | some q => some q
    | none => mi_sld X (pc + 1) st h c s)
  | .baload => (match mi_ald 2 (pc + 1) st h c s with
    | some q => some q
    | none => (match mi_ald 3 (pc + 1) st h c s with
      | some q => some q
      | none => mi_bld (pc + 1) st h c s))
  | .laload => mi_lald (pc + 1) st h c s
  | .aaload => mi_qld (pc + 1) st h c s
  | .iastore => mi_ast 0 (fun x => x) (pc + 1) st h c s
  | .bastore => (match mi_ast 2 (vp_nar .byte) (pc + 1) st h c s with
    | some q => some q
    | none => mi_ast 3 (vp_nar .boolean) (pc + 1) st h c s)
  | .lastore => mi_last (pc + 1) st h c s
  | .aastore => mi_qst (pc + 1) st h c s
  | .arraylength => mi_alen X (pc + 1) st h c s
  | .newarray .int => mi_nar 0 (fun n => (n, .inl (fun _ => 0))) (pc + 2) st h c s
  | .newarray .long => mi_nar 1 (fun n => (n, .inr (.inl (fun _ => 0)))) (pc + 2) st h c s
  | .newarray .byte => mi_nar 2 (fun n => (n, .inl (fun _ => 0))) (pc + 2) st h c s
  | .newarray .boolean => mi_nar 3 (fun n => (n, .inl (fun _ => 0))) (pc + 2) st h c s
  | .new idx => mi_new (mi_ow M) idx (pc + 3) st h c s
  | .anewarray idx => mi_qnw (mi_ow M) idx (pc + 3) st h c s
  | .ldc idx => mi_ldc (mi_ow M) idx (pc + 2) st h c s
  | .ldc_w idx => (match mi_lk (mi_il (mi_ow M)) idx with
    | some v => some (pc + 3, .int v :: st, h, c, s)
    | none => (match mi_lk (mi_sl (mi_ow M)) idx with
      | some i => if i < mi_nS then some (pc + 3, .retAddr (4 * i) :: st, h, c, s) else none
      | none => none))
  | .ldc2_w idx => mi_ldc2 (mi_ow M) idx (pc + 3) st h c s
  | .getstatic idx => mi_gets (mi_ow M) idx (pc + 3) st h c s
  | _ => none
/-- how long each of these is -/
def mi_ml2 : Instr → Nat
  | .iaload => 1
  | .baload => 1
  | .laload => 1
  | .aaload => 1
  | .aastore => 1
  | .iastore => 1
  | .bastore => 1
  | .lastore => 1
  | .arraylength => 1
  | .newarray _ => 2
  | .ldc _ => 2
  | _ => 3
/-- a return: its value, if the method's type takes it -/
def mi_ret (M : mi_M) (i : Instr) (st : List Value) : Option (Option Value) := match i, st with
  | .return_, [] => if mi_rt M = none then some none else none
  | .ireturn, [.int v] => (match mi_rt M with
    | some ty => if decide (narrow ty (.int v) = .int v) && (decide (ty = .int) || (decide (ty = .boolean) || (decide (ty = .byte) || decide (ty = .char)))) then some (some (.int v)) else none
    | none => none)
  | .lreturn, [.long v] => if mi_rt M = some .long then some (some (.long v)) else none
  | .dreturn, [.double v] => if mi_rt M = some .double then some (some (.double v)) else none
  | _, _ => none
def mi_cat (st : List Value) : Nat := (st.map fun v => v.category).sum
/-- the receiver is of the class o -/
def mi_rc (h : mi_H) (v : Value) (o : Nat) : Bool := match v with
  | .ref k => (match h[k]? with
    | some (.inr x) => x.1 == o
    | _ => false)
  | .retAddr k => k % 4 == 0 && (decide (k / 4 < mi_nS) && o == mi_oS)
  | _ => false
def mi_isR : Value → Bool
  | .ref _ => true
  | _ => false
/-- what an instruction calls: the method, its arguments, the stack below -/
def mi_cal (M : mi_M) (i : Instr) (st : List Value) (h : mi_H) : Option (mi_M × List Value × List Value) := match i with
  | .invokevirtual idx => (match mi_lk (mi_ml (mi_ow M)) idx with
    | some k => (match mi_mt[k]? with
      | some M' => if mi_kd M' = 1 ∧ mi_np M' < st.length ∧ mi_cat (st.drop (mi_np M' + 1)) ≤ 8 ∧ mi_rc h (st.getD (mi_np M') .null) (mi_ow M') = true then some (M', (st.take (mi_np M' + 1)).reverse, st.drop (mi_np M' + 1)) else none
      | none => none)
    | none => none)
  | .invokestatic idx => (match mi_lk (mi_ml (mi_ow M)) idx with
    | some k => (match mi_mt[k]? with
      | some M' => if (mi_kd M' = 0 ∨ mi_kd M' = 3) ∧ mi_np M' ≤ st.length ∧ mi_cat (st.drop (mi_np M')) ≤ 8 then some (M', (st.take (mi_np M')).reverse, st.drop (mi_np M')) else none
      | none => none)
    | none => none)
  | .invokespecial idx => (match (match mi_lk (mi_ml (mi_ow M)) idx with
      | some k => some k
      | none => mi_lk (mi_nm (mi_ow M)) idx) with
    | some k => (match mi_mt[k]? with
      | some M' => if mi_kd M' = 2 ∧ mi_rt M' = none ∧ mi_np M' < st.length ∧ mi_cat (st.drop (mi_np M' + 1)) ≤ 8 ∧ mi_isR (st.getD (mi_np M') .null) = true then some (M', (st.take (mi_np M' + 1)).reverse, st.drop (mi_np M' + 1)) else none
      | none => none)
    | none => none)
  | _ => none
/-- calls that need no walk: Object's constructor, Math.max and Math.min of ints -/
def mi_easy (M : mi_M) (i : Instr) (st : List Value) : Option (List Value) := match i, st with
  | .invokespecial idx, .ref _ :: r => if mi_lk (mi_ml (mi_ow M)) idx = some 1000000 ∧ mi_cat r ≤ 8 then some r else none
  | .invokestatic idx, .int y :: .int x :: r => if mi_cat r ≤ 8 then (match mi_lk (mi_ml (mi_ow M)) idx with
    | some 1000002 => some (.int (if x < y then y else x) :: r)
    | some 1000003 => some (.int (if y < x then y else x) :: r)
    | _ => none) else none
  | _, _ => none
/-- the first row of a method's table that covers pc -/
def mi_fnd : List (Nat × Nat × Nat × Nat) → Nat → Option (Nat × Nat × Nat × Nat)
  | [], _ => none
  | q :: l, pc => if (decide (q.1 ≤ pc) && decide (pc < q.2.1)) = true then some q else mi_fnd l pc
/-- where the method catches the exception x that comes out of the call at pc -/
def mi_hnd (M : mi_M) (pc x : Nat) : Option Nat := match mi_fnd (mi_hd M) pc with
  | some q => if mi_lk (mi_xl (mi_ow M)) q.2.2.2 = some x then some q.2.2.1 else none
  | none => none
abbrev mi_Z : Type := (Option Value ⊕ Nat) × mi_H × Nat × Nat
/-- n: how many instructions at most; d: how many calls deep. What is returned, or the exception's number; the cells; how many cells and slots were made -/
def mi_run (X : mi_X) : Nat → Nat → mi_M → Nat → mi_L → List Value → mi_H → Nat → Nat → Option mi_Z
  | 0, _, _, _, _, _, _, _, _ => none
  | n + 1, d, M, pc, l, st, h, c, s => match mi_lk (mi_th M) pc with
    | some t => if 8 ≤ d ∧ mi_cat st ≤ 8 then some (.inr t.1, h, c + 1, s + 6) else none
    | none => match mi_lk (mi_cd M) pc with
      | none => none
      | some (i, len) => match mi_pure (mi_nL M) len i pc l st with
        | some (pc', l', st') => mi_run X n d M pc' l' st' h c s
        | none => match mi_ret M i st with
          | some v => if len = 1 then some (.inl v, h, c, s) else none
          | none => match (if len = mi_ml2 i then mi_mem X M i pc st h c s else none) with
            | some (pc', st', h', c', s') => mi_run X n d M pc' l st' h' c' s'
            | none => if len = 3 then (match d with
              | 0 => none
              | d' + 1 => match mi_easy M i st with
                | some st' => mi_run X n (d' + 1) M (pc + 3) l st' h c s
                | none => match mi_cal M i st h with
                  | none => none
                  | some (M', args, rest) => match (if mi_cat args ≤ mi_nL M' then mi_run X n d' M' 0 (lv_args 0 args) [] h 0 0 else none) with
                    | none => none
                    | some (.inl v, h', c', s') => mi_run X n (d' + 1) M (pc + 3) l (v.toList ++ rest) h' (c + c') (s + s')
                    | some (.inr x, h', c', s') => match (if mi_kd M' = 1 then mi_hnd M pc x else none) with
                      | some p' => mi_run X n (d' + 1) M p' l [.float 0] h' (c + c') (s + s')
                      | none => none) else none
end
section
/-! ===== the instructions that touch cells are the machine's ===== -/
theorem mi_clok {ci : Nat} {q : vw_C} (h : mi_cl[ci]? = some q) : q ∈ mi_cl ∧ (∀ k, k < q.2.2 → parseFieldDescriptor (q.2.1 k).2.2.1 = some (mi_ty ci k)) ∧ (∀ a, a < q.2.2 → ∀ b, b < q.2.2 → a ≠ b → (q.2.1 a).2.1 ≠ (q.2.1 b).2.1) ∧ (∀ k, k < q.2.2 → (q.2.1 k).1 = q.1) ∧ q.1 = mi_on ci := by
  refine ⟨List.mem_of_getElem? h, ?_⟩
  match ci, h with
  | 0, h => cases h; exact ⟨tyX0_ok, nmX0, onX0, rfl⟩
  | 1, h => cases h; exact ⟨tyX1_ok, nmX1, onX1, rfl⟩
  | 2, h => cases h; exact ⟨tyX2_ok, nmX2, onX2, rfl⟩
  | 3, h => cases h; exact ⟨tyX3_ok, nmX3, onX3, rfl⟩
  | 4, h => cases h; exact ⟨tyX4_ok, nmX4, onX4, rfl⟩
  | 5, h => cases h; exact ⟨tyX5_ok, nmX5, onX5, rfl⟩
  | 6, h => cases h; exact ⟨tyX6_ok, nmX6, onX6, rfl⟩
  | 7, h => cases h; exact ⟨tyX7_ok, nmX7, onX7, rfl⟩
  | 8, h => cases h; exact ⟨tyX8_ok, nmX8, onX8, rfl⟩
  | 9, h => cases h; exact ⟨tyX9_ok, nmX9, onX9, rfl⟩
  | 10, h => cases h; exact ⟨tyX10_ok, nmX10, onX10, rfl⟩
  | n + 11, h => cases h
theorem mi_rl_get {ad : List Nat} {cn : Nat → Nat} : ∀ {fs gs : List Value} {j : Nat} {v : Value}, mi_rl ad cn fs gs → fs[j]? = some v → ∃ w : Value, gs[j]? = some w ∧ mi_rv ad cn v w
  | [], _, _, _, _, h => by cases h
  | _ :: _, _, 0, _, ⟨w, _, rfl, a, _⟩, h => by cases h; exact ⟨w, rfl, a⟩
  | _ :: _, _, j + 1, _, ⟨_, _, rfl, _, b⟩, h => by
    obtain ⟨w, h1, h2⟩ := mi_rl_get (j := j) b (by simpa using h)
    exact ⟨w, by simpa using h1, h2⟩
theorem mi_rl_set {ad : List Nat} {cn : Nat → Nat} {v w : Value} (hv : mi_rv ad cn v w) : ∀ {fs gs : List Value} (j : Nat), mi_rl ad cn fs gs → mi_rl ad cn (fs.set j v) (gs.set j w)
  | [], _, _, h => by
    have h' : _ = [] := h
    subst h'
    exact rfl
  | _ :: _, _, 0, ⟨_, gs', rfl, _, b⟩ => ⟨w, gs', rfl, hv, b⟩
  | _ :: _, _, j + 1, ⟨w0, gs', rfl, a, b⟩ => ⟨w0, gs'.set j w, rfl, a, mi_rl_set hv j b⟩
theorem mi_rl_len {ad : List Nat} {cn : Nat → Nat} : ∀ {fs gs : List Value}, mi_rl ad cn fs gs → gs.length = fs.length
  | [], _, h => by
    have h' : _ = [] := h
    subst h'
    rfl
  | _ :: _, _, ⟨_, _, rfl, _, b⟩ => by simp [mi_rl_len b]
/-- what a cell holds, there and here -/
def mi_ro (ids : Nat → ClassId) (ad : List Nat) (cn : Nat → Nat) (a e : va_E) : Prop := match a with
  | .inl (t, n, .inl f) => e = .inl (ids t, n, .inl f)
  | .inl (t, n, .inr (.inl f)) => e = .inl (ids t, n, .inr (.inl f))
  | .inl (t, n, .inr (.inr (.inr (.inr f)))) => e = .inl (ids t, n, .inr (.inr (.inr (.inr (fun i => (f i).map cn)))))
  | .inl _ => False
  | .inr o => ∃ gs, e = .inr (o.1, gs) ∧ mi_rl ad cn o.2 gs
theorem mi_ro_mono {ids : Nat → ClassId} {ad ad' : List Nat} {cn : Nat → Nat} (hle : mi_le ad ad') {a e : va_E} (h : mi_ro ids ad cn a e) : mi_ro ids ad' cn a e := by
  match a, h with
  | .inl (t, n, .inl f), h => exact h
  | .inl (t, n, .inr (.inl f)), h => exact h
  | .inl (t, n, .inr (.inr (.inr (.inr f)))), h => exact h
  | .inr o, ⟨gs, h1, h2⟩ => exact ⟨gs, h1, mi_rl_mono hle h2⟩
def mi_rw (ids : Nat → ClassId) (ad : List Nat) (cn : Nat → Nat) (h : mi_H) (ws : va_W) : Prop := ad.length = h.length ∧ ws.length = h.length ∧ ∀ (k : Nat) (o : va_E), h[k]? = some o → ∃ (a : Nat) (e : va_E), ad[k]? = some a ∧ ws[k]? = some (a, e) ∧ mi_ro ids ad cn o e
theorem mi_rw_set {ids : Nat → ClassId} {ad : List Nat} {cn : Nat → Nat} {h : mi_H} {ws : va_W} (hw : mi_rw ids ad cn h ws) {k a : Nat} (ha : ad[k]? = some a) {o e : va_E} (ho : mi_ro ids ad cn o e) : mi_rw ids ad cn (h.set k o) (ws.set k (a, e)) := by
  obtain ⟨h1, h2, h3⟩ := hw
  refine ⟨by simpa using h1, by simpa using h2, fun j o' hj => ?_⟩
  by_cases hjk : k = j
  · subst hjk
    have hl : k < h.length := by
      have := (List.getElem?_eq_some_iff.mp hj).1
      simpa using this
    rw [List.getElem?_set_self (by simpa using hl)] at hj
    cases hj
    exact ⟨a, e, ha, by rw [List.getElem?_set_self (by omega)], ho⟩
  · rw [List.getElem?_set_ne hjk] at hj
    obtain ⟨a', e', g1, g2, g3⟩ := h3 j o' hj
    exact ⟨a', e', g1, by rw [List.getElem?_set_ne hjk]; exact g2, g3⟩
theorem mi_rw_push {ids : Nat → ClassId} {ad : List Nat} {cn : Nat → Nat} {h : mi_H} {ws : va_W} (hw : mi_rw ids ad cn h ws) {q : Nat} {o e : va_E} (ho : mi_ro ids (ad ++ [q]) cn o e) : mi_rw ids (ad ++ [q]) cn (h ++ [o]) (ws ++ [(q, e)]) := by
  obtain ⟨h1, h2, h3⟩ := hw
  refine ⟨by simp [h1], by simp [h2], fun j o' hj => ?_⟩
  by_cases hl : j < h.length
  · rw [List.getElem?_append_left hl] at hj
    obtain ⟨a', e', g1, g2, g3⟩ := h3 j o' hj
    exact ⟨a', e', mi_le_app _ _ _ _ g1, by rw [List.getElem?_append_left (by omega)]; exact g2, mi_ro_mono (mi_le_app _ _) g3⟩
  · have hz := (List.getElem?_eq_some_iff.mp hj).1
    simp at hz
    have hj2 : j = h.length := by omega
    subst hj2
    rw [List.getElem?_append_right (by omega)] at hj
    simp at hj
    subst hj
    exact ⟨q, e, by rw [List.getElem?_append_right (by omega)]; simp [h1], by rw [List.getElem?_append_right (by omega)]; simp [h2], ho⟩
theorem mi_last_ad {ids : Nat → ClassId} {ad : List Nat} {cn : Nat → Nat} {h : mi_H} {ws : va_W} (hw : mi_rw ids ad cn h ws) (q : Nat) : (ad ++ [q])[h.length]? = some q := by
  rw [← hw.1, List.getElem?_append_right (by omega)]
  simp
def mi_tys (ids : Nat → ClassId) : List (ClassId × FieldType) := [(ids 0, .int), (ids 1, .long), (ids 2, .byte), (ids 3, .boolean), (ids 4, .object "java/lang/String")]
/-- the cells as they are at a point of a method -/
def mi_Wd (D : va_G) (ids : Nat → ClassId) (cn : Nat → Nat) (A : Nat → Prop) (s : State) (ad : List Nat) (h : mi_H) (H : Heap) (locs : List Loc) : Prop := ∃ ws, mi_rw ids ad cn h ws ∧ va_P D mi_cl ws H ∧ va_D A ws ∧ va_S A s.heap H locs
/-- a String constant: number i of mi_sw, the cell cn (4 i), its bytes the cell cn (4 i + 1) -/
def mi_Gs (cn : Nat → Nat) (A : Nat → Prop) (s : State) (H : Heap) : Prop := ∀ i : Nat, i < mi_nS → va_O "java/lang/String" (cn (4 * i)) A s H ∧ va_OF "java/lang/String" "coder" "B" (.int 0) (cn (4 * i)) A s H ∧ va_OF "java/lang/String" "value" "[B" (.ref (cn (4 * i + 1))) (cn (4 * i)) A s H ∧ va_T .byte (cn (4 * i + 1)) (mi_byt.getD i []).length (fun j => .int ((mi_byt.getD i []).getD j 0)) A s H
/-- what is known of cells that nobody writes: String constants, statics, the script -/
def mi_Gc (X : mi_X) (cn : Nat → Nat) (A : Nat → Prop) (s : State) (H : Heap) : Prop :=
  mi_Gs cn A s H ∧ True ∧
  va_Zq "jdk/internal/util/Preconditions" "SIOOBE_FORMATTER" "Ljava/util/function/BiFunction;" A s H ∧ va_Z "java/lang/String" "COMPACT_STRINGS" "Z" (.int 1) A s H ∧
  (match X with | some x => va_X (cn 3) x.1 x.2 s H ∧ cn 3 < H.size ∧ ¬ A (cn 3) | none => True)
theorem mi_inb_ok {j : Int32} {n : Nat} (h : mi_inb j n = true) : vp_in j n := by
  simp only [mi_inb, Bool.and_eq_true, decide_eq_true_eq] at h
  exact vp_in_iff.mpr h
theorem mi_fit_ok {ty : FieldType} {v w : Value} {ad : List Nat} {cn : Nat → Nat} (h : mi_fit ty v = true) (hr : mi_rv ad cn v w) : narrow ty w = w ∧ fits ty w = true := by
  have hp : ∀ t : FieldType, (∀ n, t ≠ .object n) → (∀ n, t ≠ .array n) → mi_fit t v = true → narrow t v = v ∧ fits t v = true ∧ ∃ x : Value, w = v := by
    intro t ht1 ht2 h
    have h' : (decide (narrow t v = v) && fits t v) = true := by
      cases t <;> first | exact h | exact absurd rfl (ht1 _) | exact absurd rfl (ht2 _) | exact absurd h (by decide) | (exact absurd h Bool.false_ne_true)
    have hnf : t ≠ .float := by
      intro q
      subst q
      exact absurd h Bool.false_ne_true
    simp only [Bool.and_eq_true, decide_eq_true_eq] at h'
    refine ⟨h'.1, h'.2, v, ?_⟩
    cases v <;> first
      | exact hr
      | (exfalso; cases t <;> first | exact absurd rfl (ht1 _) | exact absurd rfl (ht2 _) | exact absurd rfl hnf | (exact absurd h'.2 (by simp [fits])))
  cases ty
  case object n => rcases mi_rv_A hr h with rfl | ⟨a, rfl⟩ <;> exact ⟨rfl, rfl⟩
  case array n => rcases mi_rv_A hr h with rfl | ⟨a, rfl⟩ <;> exact ⟨rfl, rfl⟩
  all_goals (obtain ⟨a, b, _, rfl⟩ := hp _ (fun n => by intro q; cases q) (fun n => by intro q; cases q) h; exact ⟨a, b⟩)
end
section
section MIH
variable {p : Program} {l : Launch} {e : Env} {R : Room} {s : State} {m : MethodId} {args : Array Value} {below : List Frame} {meth : Method} {c : Code} {H : Heap} {locs : List Loc} {cells slots : Nat} {Q : State → Prop}
variable {cc : ByteArray} {pc pc' c' s' : Nat} {st st' : List Value} {h h' : mi_H} {ad : List Nat} {cn : Nat → Nat} {ids : Nat → ClassId} {D : va_G} {A : Nat → Prop} {sw : List Value} {ls : Array Slot}
/-- the way on behind an instruction that may write or make cells -/
abbrev mi_KH (p : Program) (l : Launch) (e : Env) (R : Room) (s : State) (m : MethodId) (args : Array Value) (below : List Frame) (meth : Method) (c : Code) (Q : State → Prop) (D : va_G) (ids : Nat → ClassId) (cn : Nat → Nat) (A : Nat → Prop) (ls : Array Slot) (ad : List Nat) (pc' : Nat) (st' : List Value) (h' : mi_H) (c' s' : Nat) : Prop :=
  ∀ (H' : Heap) (locs' : List Loc) (ad' : List Nat) (sw' : List Value), mi_le ad ad' → mi_Wd D ids cn A s ad' h' H' locs' → mi_rl ad' cn st' sw' → W p l e R s m args below meth c H' locs' c' s' Q (F0 m pc' ls sw')

theorem mi_gf_ok (hx : p.tables.exec = Jvm.exec) (hb : c.code = cc) {o : Nat} (ho : o < mi_no) (hown : s.vm.findClass (mi_on o) = some m.cls) (hts : ∀ w ∈ mi_need, w.before args s = true) (hK : va_K D mi_cl (mi_tys ids) s) {ci j k idx : Nat} {q : vw_C} {r : List Value} (hq : mi_cl[ci]? = some q) (hj : j < q.2.2)
    (hlink : (Cond.fieldLink (mi_on o) idx q.1 (q.2.1 j).2.1 (q.2.1 j).2.2.1).before args s = true ∨ (Cond.fieldLinkNest (mi_on o) idx q.1 (q.2.1 j).2.1 (q.2.1 j).2.2.1 "TypeLoom").before args s = true)
    (hd : decode cc pc = .ok (.getfield idx, 3)) (hh : mi_gf ci j k (pc + 3) r h cells slots = some (pc + 3, st', h', c', s')) (hst : st = .ref k :: r) (hw : mi_Wd D ids cn A s ad h H locs) (hs : mi_rl ad cn st sw) (kk : mi_KH p l e R s m args below meth c Q D ids cn A ls ad (pc + 3) st' h' c' s') : W p l e R s m args below meth c H locs cells slots Q (F0 m pc ls sw) := by
  subst hst
  obtain ⟨hqm, hty, hnm, hT1, -⟩ := mi_clok hq
  obtain ⟨ws, hrw, hP, hD, hS⟩ := hw
  obtain ⟨_, rw', rfl, ⟨a, ha, rfl⟩, hr⟩ := hs
  unfold mi_gf at hh
  split at hh
  next ob hob =>
    split at hh
    next hci =>
      split at hh
      next v hv =>
        cases hh
        obtain ⟨a', e', g1, g2, gs, rfl, g4⟩ := hrw.2.2 _ _ hob
        cases g1.symm.trans ha
        obtain ⟨wv, hwv, hrv⟩ := mi_rl_get g4 hv
        subst hci
        have go := kk _ _ _ _ (mi_le_rf _) ⟨ws, hrw, hP, hD, hS⟩ (mi_rl_c hrv hr)
        have hsame : ∀ x, s.fieldFound? (q.2.1 j).1 (q.2.1 j).2.1 (q.2.1 j).2.2.1 = some x → s.fieldFound? q.1 (q.2.1 j).2.1 (q.2.1 j).2.2.1 = some x := fun x hx => by rw [hT1 j hj] at hx; exact hx
        rcases hlink with hlink | hlink
        · exact va_get (C := q.1) (T := q.2.1) (N := q.2.2) (ref := q.1) (index := idx) hx hb hts (fun w hw => mi_in0 hqm (List.mem_append_left _ hw)) hown hK hP k g2 hq j hj hlink hsame hwv hd go
        · exact va_getN (host := "TypeLoom") (C := q.1) (T := q.2.1) (N := q.2.2) (ref := q.1) (index := idx) hx hb hts (fun w hw => mi_in0 hqm (List.mem_append_left _ hw)) hown hK hP k g2 hq j hj hlink hsame hwv hd go
      next => cases hh
    next => cases hh
  next => cases hh
/-- the tables' field rows name fields -/
theorem mi_fl_ok : ∀ o, o < mi_no → ∀ x ∈ mi_fl o, (match mi_cl[x.2.1]? with | some q => decide (x.2.2 < q.2.2) | none => false) = true := by decide +kernel
theorem mi_nf_ok : ∀ o, o < mi_no → ∀ x ∈ mi_nf o, (match mi_cl[x.2.1]? with | some q => decide (x.2.2 < q.2.2) | none => false) = true := by decide +kernel
theorem mi_getf_ok (hx : p.tables.exec = Jvm.exec) (hb : c.code = cc) {o : Nat} (ho : o < mi_no) (hown : s.vm.findClass (mi_on o) = some m.cls) (hts : ∀ w ∈ mi_need, w.before args s = true) (hK : va_K D mi_cl (mi_tys ids) s) (hbad : ∀ w ∈ mi_bad, w.before args s = true) (hA : ∀ a, s.heap.size ≤ a → A a) {X : mi_X} (hG : mi_Gc X cn A s s.heap) {idx : Nat} (hd : decode cc pc = .ok (.getfield idx, 3)) (hh : mi_getf o idx (pc + 3) st h cells slots = some (pc', st', h', c', s')) (hw : mi_Wd D ids cn A s ad h H locs) (hs : mi_rl ad cn st sw) (kk : mi_KH p l e R s m args below meth c Q D ids cn A ls ad (pc + 3) st' h' c' s') : W p l e R s m args below meth c H locs cells slots Q (F0 m pc ls sw) := by
  unfold mi_getf at hh
  split at hh
  next k r =>
    split at hh
    next x hf =>
      have hm := mi_lk_mem hf
      have h1 := mi_fl_ok o ho _ hm
      split at h1
      next q hq =>
        simp only [decide_eq_true_eq] at h1
        have hlink := hts (mi_flw o (idx, x)) (mi_in2 ho (List.mem_append_left _ (List.mem_map.mpr ⟨_, hm, rfl⟩)))
        unfold mi_flw at hlink
        rw [show mi_cl[((idx, x) : Nat × Nat × Nat).2.1]? = some q from hq] at hlink
        have hpc : pc' = pc + 3 := by
          unfold mi_gf at hh
          split at hh <;> first | (cases hh; done) | skip
          split at hh <;> first | (cases hh; done) | skip
          split at hh <;> first | (cases hh; done) | skip
          cases hh; rfl
        subst hpc
        exact mi_gf_ok hx hb ho hown hts hK hq h1 (Or.inl hlink) hd hh rfl hw hs kk
      next => cases h1
    next =>
      split at hh
      next x hf =>
        have hm := mi_lk_mem hf
        have h1 := mi_nf_ok o ho _ hm
        split at h1
        next q hq =>
          simp only [decide_eq_true_eq] at h1
          have hlink := hbad (mi_nfw o (idx, x)) (List.mem_append_left _ (List.mem_flatMap.mpr ⟨o, List.mem_range.mpr ho, List.mem_append_left _ (List.mem_map.mpr ⟨_, hm, rfl⟩)⟩))
          unfold mi_nfw at hlink
          rw [show mi_cl[((idx, x) : Nat × Nat × Nat).2.1]? = some q from hq] at hlink
          have hpc : pc' = pc + 3 := by
            unfold mi_gf at hh
            split at hh <;> first | (cases hh; done) | skip
            split at hh <;> first | (cases hh; done) | skip
            split at hh <;> first | (cases hh; done) | skip
            cases hh; rfl
          subst hpc
          exact mi_gf_ok hx hb ho hown hts hK hq h1 (Or.inr hlink) hd hh rfl hw hs kk
        next => cases h1
      next => cases hh
  next k r =>
    split at hh
    next j hf =>
      have hm := mi_lk_mem hf
      unfold mi_gs at hh
      split at hh
      next hk =>
        obtain ⟨hk4, hkn⟩ := hk
        have hlink := hts (mi_sfw o (idx, j)) (mi_in2 ho (List.mem_append_right _ (List.mem_append_right _ (List.mem_append_right _ (List.mem_append_right _ (List.mem_append_right _ (List.mem_append_right _ (List.mem_append_right _ (List.mem_append_left _ (List.mem_map.mpr ⟨_, hm, rfl⟩))))))))))
        obtain ⟨ws, hrw, hP, hD, hS⟩ := hw
        obtain ⟨_, rw', rfl, rfl, hr⟩ := hs
        have hke : 4 * (k / 4) = k := by omega
        obtain ⟨-, g2, g3, -⟩ := hG.1 (k / 4) hkn
        rw [hke] at g2 g3
        split at hh
        next hj0 =>
          cases hh
          subst hj0
          have hlink : (Cond.fieldLink (mi_on o) idx "java/lang/String" "value" "[B").before args s = true := hlink
          exact vk_getf hx hb g3 hS hown hlink (fun _ hx => hx) hd (kk _ _ _ _ (mi_le_rf _) ⟨ws, hrw, hP, hD, hS⟩ (mi_rl_c rfl hr))
        next =>
          split at hh
          next hj1 =>
            cases hh
            subst hj1
            have hlink : (Cond.fieldLink (mi_on o) idx "java/lang/String" "coder" "B").before args s = true := hlink
            exact vk_getf hx hb g2 hS hown hlink (fun _ hx => hx) hd (kk _ _ _ _ (mi_le_rf _) ⟨ws, hrw, hP, hD, hS⟩ (mi_rl_c rfl hr))
          next => cases hh
      next => cases hh
    next => cases hh
  next => cases hh
theorem mi_putf_ok (hx : p.tables.exec = Jvm.exec) (hb : c.code = cc) {M : mi_M} (ho : mi_ow M < mi_no) (hown : s.vm.findClass (mi_on (mi_ow M)) = some m.cls) (hts : ∀ w ∈ mi_need, w.before args s = true) (hK : va_K D mi_cl (mi_tys ids) s) (hin2 : mi_kd M = 2 → meth.name = "<init>") {idx : Nat} (hd : decode cc pc = .ok (.putfield idx, 3)) (hh : mi_putf M idx (pc + 3) st h cells slots = some (pc', st', h', c', s')) (hw : mi_Wd D ids cn A s ad h H locs) (hs : mi_rl ad cn st sw) (kk : mi_KH p l e R s m args below meth c Q D ids cn A ls ad pc' st' h' c' s') : W p l e R s m args below meth c H locs cells slots Q (F0 m pc ls sw) := by
  unfold mi_putf at hh
  split at hh
  next v k r =>
    split at hh
    next x hf =>
      have hm := mi_lk_mem hf
      have h1 := mi_fl_ok _ ho _ hm
      split at h1
      next q hq =>
        simp only [decide_eq_true_eq] at h1
        have hlink := hts (mi_flw _ (idx, x)) (mi_in2 ho (List.mem_append_left _ (List.mem_map.mpr ⟨_, hm, rfl⟩)))
        unfold mi_flw at hlink
        rw [show mi_cl[((idx, x) : Nat × Nat × Nat).2.1]? = some q from hq] at hlink
        have hq' : mi_cl[x.1]? = some q := hq
        obtain ⟨hqm, hty, hnm, hT1, hqn⟩ := mi_clok hq'
        obtain ⟨ws, hrw, hP, hD, hS⟩ := hw
        obtain ⟨wv, _, rfl, hv, _, rw', rfl, ⟨a, ha, rfl⟩, hr⟩ := hs
        unfold mi_pf at hh
        split at hh
        next ob hob =>
          split at hh
          next hc =>
            obtain ⟨hci, hjl, hfit, hwr⟩ := hc
            cases hh
            obtain ⟨a', e', g1, g2, gs, rfl, g4⟩ := hrw.2.2 _ _ hob
            cases g1.symm.trans ha
            obtain ⟨hn1, hf1⟩ := mi_fit_ok hfit hv
            have hsame : ∀ z, s.fieldFound? (q.2.1 x.2).1 (q.2.1 x.2).2.1 (q.2.1 x.2).2.2.1 = some z → s.fieldFound? q.1 (q.2.1 x.2).2.1 (q.2.1 x.2).2.2.1 = some z := fun z hz => by rw [hT1 x.2 h1] at hz; exact hz
            have hlen : x.2 < gs.length := by rw [mi_rl_len g4]; exact hjl
            have g2' : ws[k]? = some (a, .inr (x.1, gs)) := by rw [← hci]; exact g2
            have fin : ∀ (H1 : Heap) (locs1 : List Loc), va_P D mi_cl (ws.set k (a, .inr (x.1, gs.set x.2 wv))) H1 → va_D A (ws.set k (a, .inr (x.1, gs.set x.2 wv))) → va_S A s.heap H1 locs1 → W p l e R s m args below meth c H1 locs1 cells slots Q (F0 m (pc + 3) ls rw') :=
              fun H1 locs1 hP1 hD1 hS1 => kk _ _ _ _ (mi_le_rf _) ⟨_, mi_rw_set hrw ha ⟨_, rfl, mi_rl_set hv x.2 g4⟩, hP1, hD1, hS1⟩ hr
            have hnf : mi_fin x.1 x.2 = (q.2.1 x.2).2.2.2 := by unfold mi_fin; rw [hq']
            cases hfn : (q.2.1 x.2).2.2.2 with
            | false => exact va_put (C := q.1) (T := q.2.1) (N := q.2.2) (ref := q.1) (index := idx) hx hb hts (fun w hw => mi_in0 hqm (List.mem_append_left _ hw)) (mi_ty x.1) hty hnm hown hK hP hD hS k g2' hq' x.2 h1 hlink hsame hfn (hty x.2 h1) hn1 hf1 hlen hd fin
            | true =>
              rcases hwr with hwr | ⟨hk2, hown2⟩
              · rw [hnf, hfn] at hwr; cases hwr
              · exact va_putF (C := q.1) (T := q.2.1) (N := q.2.2) (ref := q.1) (index := idx) hx hb hts (fun w hw => mi_in0 hqm (List.mem_append_left _ hw)) (mi_ty x.1) hty hnm hown hK hP hD hS k g2' hq' x.2 h1 hlink hsame hfn (hin2 hk2) (by rw [hT1 x.2 h1, hqn, hown2]) (hty x.2 h1) hn1 hf1 hlen hd fin
          next => cases hh
        next => cases hh
      next => cases h1
    next => cases hh
  next => cases hh

theorem mi_iald_ok (hx : p.tables.exec = Jvm.exec) (hb : c.code = cc) (hK : va_K D mi_cl (mi_tys ids) s) (hd : decode cc pc = .ok (.iaload, 1)) (hh : mi_ald 0 (pc + 1) st h cells slots = some (pc', st', h', c', s')) (hw : mi_Wd D ids cn A s ad h H locs) (hs : mi_rl ad cn st sw) (kk : mi_KH p l e R s m args below meth c Q D ids cn A ls ad pc' st' h' c' s') : W p l e R s m args below meth c H locs cells slots Q (F0 m pc ls sw) := by
  unfold mi_ald at hh
  split at hh
  next j k r =>
    obtain ⟨ws, hrw, hP, hD, hS⟩ := hw
    obtain ⟨_, _, rfl, rfl, _, rw', rfl, ⟨a, ha, rfl⟩, hr⟩ := hs
    split at hh
    next t' n f hob =>
      split at hh
      next hc =>
        obtain ⟨rfl, hin⟩ := hc
        cases hh
        obtain ⟨a', e', g1, g2, g3⟩ := hrw.2.2 _ _ hob
        cases g1.symm.trans ha
        have g3 : e' = .inl (ids 0, n, .inl f) := g3
        subst g3
        exact va_iald hx hb hK hP k 0 g2 rfl (mi_inb_ok hin) hd (kk _ _ _ _ (mi_le_rf _) ⟨ws, hrw, hP, hD, hS⟩ (mi_rl_c rfl hr))
      next => cases hh
    next => cases hh
  next => cases hh
theorem mi_bald_ok (hx : p.tables.exec = Jvm.exec) (hb : c.code = cc) (hK : va_K D mi_cl (mi_tys ids) s) (hd : decode cc pc = .ok (.baload, 1)) (hh : mi_ald 2 (pc + 1) st h cells slots = some (pc', st', h', c', s')) (hw : mi_Wd D ids cn A s ad h H locs) (hs : mi_rl ad cn st sw) (kk : mi_KH p l e R s m args below meth c Q D ids cn A ls ad pc' st' h' c' s') : W p l e R s m args below meth c H locs cells slots Q (F0 m pc ls sw) := by
  unfold mi_ald at hh
  split at hh
  next j k r =>
    obtain ⟨ws, hrw, hP, hD, hS⟩ := hw
    obtain ⟨_, _, rfl, rfl, _, rw', rfl, ⟨a, ha, rfl⟩, hr⟩ := hs
    split at hh
    next t' n f hob =>
      split at hh
      next hc =>
        obtain ⟨rfl, hin⟩ := hc
        cases hh
        obtain ⟨a', e', g1, g2, g3⟩ := hrw.2.2 _ _ hob
        cases g1.symm.trans ha
        have g3 : e' = .inl (ids 2, n, .inl f) := g3
        subst g3
        exact va_bald hx hb hK hP k 2 g2 rfl (mi_inb_ok hin) hd (kk _ _ _ _ (mi_le_rf _) ⟨ws, hrw, hP, hD, hS⟩ (mi_rl_c rfl hr))
      next => cases hh
    next => cases hh
  next => cases hh
theorem mi_zald_ok (hx : p.tables.exec = Jvm.exec) (hb : c.code = cc) (hK : va_K D mi_cl (mi_tys ids) s) (hd : decode cc pc = .ok (.baload, 1)) (hh : mi_ald 3 (pc + 1) st h cells slots = some (pc', st', h', c', s')) (hw : mi_Wd D ids cn A s ad h H locs) (hs : mi_rl ad cn st sw) (kk : mi_KH p l e R s m args below meth c Q D ids cn A ls ad pc' st' h' c' s') : W p l e R s m args below meth c H locs cells slots Q (F0 m pc ls sw) := by
  unfold mi_ald at hh
  split at hh
  next j k r =>
    obtain ⟨ws, hrw, hP, hD, hS⟩ := hw
    obtain ⟨_, _, rfl, rfl, _, rw', rfl, ⟨a, ha, rfl⟩, hr⟩ := hs
    split at hh
    next t' n f hob =>
      split at hh
      next hc =>
        obtain ⟨rfl, hin⟩ := hc
        cases hh
        obtain ⟨a', e', g1, g2, g3⟩ := hrw.2.2 _ _ hob
        cases g1.symm.trans ha
        have g3 : e' = .inl (ids 3, n, .inl f) := g3
        subst g3
        exact va_zald hx hb hK hP k 3 g2 rfl (mi_inb_ok hin) hd (kk _ _ _ _ (mi_le_rf _) ⟨ws, hrw, hP, hD, hS⟩ (mi_rl_c rfl hr))
      next => cases hh
    next => cases hh
  next => cases hh
theorem mi_lald_ok (hx : p.tables.exec = Jvm.exec) (hb : c.code = cc) (hK : va_K D mi_cl (mi_tys ids) s) (hd : decode cc pc = .ok (.laload, 1)) (hh : mi_lald (pc + 1) st h cells slots = some (pc', st', h', c', s')) (hw : mi_Wd D ids cn A s ad h H locs) (hs : mi_rl ad cn st sw) (kk : mi_KH p l e R s m args below meth c Q D ids cn A ls ad pc' st' h' c' s') : W p l e R s m args below meth c H locs cells slots Q (F0 m pc ls sw) := by
  unfold mi_lald at hh
  split at hh
  next j k r =>
    obtain ⟨ws, hrw, hP, hD, hS⟩ := hw
    obtain ⟨_, _, rfl, rfl, _, rw', rfl, ⟨a, ha, rfl⟩, hr⟩ := hs
    split at hh
    next t' n f hob =>
      split at hh
      next hc =>
        obtain ⟨rfl, hin⟩ := hc
        cases hh
        obtain ⟨a', e', g1, g2, g3⟩ := hrw.2.2 _ _ hob
        cases g1.symm.trans ha
        have g3 : e' = .inl (ids 1, n, .inr (.inl f)) := g3
        subst g3
        exact va_lald hx hb hK hP k 1 g2 rfl (mi_inb_ok hin) hd (kk _ _ _ _ (mi_le_rf _) ⟨ws, hrw, hP, hD, hS⟩ (mi_rl_c rfl hr))
      next => cases hh
    next => cases hh
  next => cases hh
theorem mi_sld_ok (hx : p.tables.exec = Jvm.exec) (hb : c.code = cc) {X : mi_X} (hG : mi_Gc X cn A s s.heap) (hd : decode cc pc = .ok (.iaload, 1)) (hh : mi_sld X (pc + 1) st h cells slots = some (pc', st', h', c', s')) (hw : mi_Wd D ids cn A s ad h H locs) (hs : mi_rl ad cn st sw) (kk : mi_KH p l e R s m args below meth c Q D ids cn A ls ad pc' st' h' c' s') : W p l e R s m args below meth c H locs cells slots Q (F0 m pc ls sw) := by
  unfold mi_sld at hh
  split at hh
  next x j k r =>
    obtain ⟨ws, hrw, hP, hD, hS⟩ := hw
    obtain ⟨_, _, rfl, rfl, _, rw', rfl, rfl, hr⟩ := hs
    obtain ⟨-, -, -, -, hX, hlt, hnA⟩ := hG
    split at hh
    next hc =>
      obtain ⟨rfl, hin⟩ := hc
      cases hh
      exact va_sld hx hb hX hlt hnA hS (mi_inb_ok hin) hd (kk _ _ _ _ (mi_le_rf _) ⟨ws, hrw, hP, hD, hS⟩ (mi_rl_c rfl hr))
    next => cases hh
  next => cases hh
theorem mi_bld_ok (hx : p.tables.exec = Jvm.exec) (hb : c.code = cc) {X : mi_X} (hG : mi_Gc X cn A s s.heap) (hd : decode cc pc = .ok (.baload, 1)) (hh : mi_bld (pc + 1) st h cells slots = some (pc', st', h', c', s')) (hw : mi_Wd D ids cn A s ad h H locs) (hs : mi_rl ad cn st sw) (kk : mi_KH p l e R s m args below meth c Q D ids cn A ls ad pc' st' h' c' s') : W p l e R s m args below meth c H locs cells slots Q (F0 m pc ls sw) := by
  unfold mi_bld at hh
  split at hh
  next j k r =>
    obtain ⟨ws, hrw, hP, hD, hS⟩ := hw
    obtain ⟨_, _, rfl, rfl, _, rw', rfl, rfl, hr⟩ := hs
    split at hh
    next hc =>
      obtain ⟨hk, hn, hin⟩ := hc
      cases hh
      obtain ⟨-, -, -, g4⟩ := hG.1 (k / 4) hn
      rw [show 4 * (k / 4) + 1 = k by omega] at g4
      exact va_tb hx hb g4 hS (mi_inb_ok hin) rfl hd (kk _ _ _ _ (mi_le_rf _) ⟨ws, hrw, hP, hD, hS⟩ (mi_rl_c rfl hr))
    next => cases hh
  next => cases hh
theorem mi_qv_r {ad : List Nat} {cn : Nat → Nat} (o : Option Nat) : mi_rv ad cn (mi_qv o) (va_rf (o.map cn)) := by
  cases o with
  | none => exact rfl
  | some q => exact rfl
theorem mi_qld_ok (hx : p.tables.exec = Jvm.exec) (hb : c.code = cc) (hK : va_K D mi_cl (mi_tys ids) s) (hd : decode cc pc = .ok (.aaload, 1)) (hh : mi_qld (pc + 1) st h cells slots = some (pc', st', h', c', s')) (hw : mi_Wd D ids cn A s ad h H locs) (hs : mi_rl ad cn st sw) (kk : mi_KH p l e R s m args below meth c Q D ids cn A ls ad pc' st' h' c' s') : W p l e R s m args below meth c H locs cells slots Q (F0 m pc ls sw) := by
  unfold mi_qld at hh
  split at hh
  next j k r =>
    obtain ⟨ws, hrw, hP, hD, hS⟩ := hw
    obtain ⟨_, _, rfl, rfl, _, rw', rfl, ⟨a, ha, rfl⟩, hr⟩ := hs
    split at hh
    next t' n f hob =>
      split at hh
      next hc =>
        obtain ⟨rfl, hin⟩ := hc
        cases hh
        obtain ⟨a', e', g1, g2, g3⟩ := hrw.2.2 _ _ hob
        cases g1.symm.trans ha
        have g3 : e' = .inl (ids 4, n, .inr (.inr (.inr (.inr (fun i => (f i).map cn))))) := g3
        subst g3
        exact va_aldq hx hb hK hP k 4 g2 rfl (mi_inb_ok hin) hd (kk _ _ _ _ (mi_le_rf _) ⟨ws, hrw, hP, hD, hS⟩ (mi_rl_c (mi_qv_r _) hr))
      next => cases hh
    next => cases hh
  next => cases hh
theorem mi_qst_ok (hx : p.tables.exec = Jvm.exec) (hb : c.code = cc) (hK : va_K D mi_cl (mi_tys ids) s) {X : mi_X} (hG : mi_Gc X cn A s s.heap) (hd : decode cc pc = .ok (.aastore, 1)) (hh : mi_qst (pc + 1) st h cells slots = some (pc', st', h', c', s')) (hw : mi_Wd D ids cn A s ad h H locs) (hs : mi_rl ad cn st sw) (kk : mi_KH p l e R s m args below meth c Q D ids cn A ls ad pc' st' h' c' s') : W p l e R s m args below meth c H locs cells slots Q (F0 m pc ls sw) := by
  unfold mi_qst at hh
  split at hh
  next q j k r =>
    obtain ⟨ws, hrw, hP, hD, hS⟩ := hw
    obtain ⟨_, _, rfl, rfl, _, _, rfl, rfl, _, rw', rfl, ⟨a, ha, rfl⟩, hr⟩ := hs
    split at hh
    next t' n f hob =>
      split at hh
      next hc =>
        obtain ⟨rfl, hin, hq4, hqn⟩ := hc
        cases hh
        obtain ⟨a', e', g1, g2, g3⟩ := hrw.2.2 _ _ hob
        cases g1.symm.trans ha
        have g3 : e' = .inl (ids 4, n, .inr (.inr (.inr (.inr (fun i => (f i).map cn))))) := g3
        subst g3
        have hO := (hG.1 (q / 4) hqn).1
        rw [show 4 * (q / 4) = q by omega] at hO
        obtain ⟨cellV, o1, o2, o3, -⟩ := va_O.kept hO hS.2.1
        refine vb_astq (C := "java/lang/String") hx hb hK hP hD hS k 4 g2 rfl ⟨cellV, o1, o2, o3⟩ vb_asgS (mi_inb_ok hin) hd (fun H1 locs1 hP1 hD1 hS1 => kk _ _ _ _ (mi_le_rf _) ⟨_, mi_rw_set hrw ha ?_, hP1, hD1, hS1⟩ hr)
        refine congrArg (fun g : Nat → Option Nat => (Sum.inl (ids 4, n, .inr (.inr (.inr (.inr g)))) : va_E)) (funext fun i => ?_)
        by_cases hi : i = j.toNatClampNeg
        · subst hi
          simp [va_up]
        · simp [va_up, hi]
      next => cases hh
    next => cases hh
  next => cases hh
theorem mi_qnw_ok (hx : p.tables.exec = Jvm.exec) (hb : c.code = cc) {o : Nat} (ho : o < mi_no) (hown : s.vm.findClass (mi_on o) = some m.cls) (hts : ∀ w ∈ mi_need, w.before args s = true) (hAO : va_AO "java/lang/String" s) (hK : va_K D mi_cl (mi_tys ids) s) (hA : ∀ q, s.heap.size ≤ q → A q) (hRc : c' ≤ R.cells) (hRs : s' ≤ R.slots) {idx : Nat} (hd : decode cc pc = .ok (.anewarray idx, 3)) (hh : mi_qnw o idx (pc + 3) st h cells slots = some (pc', st', h', c', s')) (hw : mi_Wd D ids cn A s ad h H locs) (hs : mi_rl ad cn st sw) (kk : mi_KH p l e R s m args below meth c Q D ids cn A ls ad pc' st' h' c' s') : W p l e R s m args below meth c H locs cells slots Q (F0 m pc ls sw) := by
  unfold mi_qnw at hh
  split at hh
  next n r =>
    split at hh
    next hc =>
      obtain ⟨hlk, hin⟩ := hc
      cases hh
      have hin' := mi_inb_ok hin
      have h0 : ¬ n < 0 := fun q => hin' (Or.inl q)
      have h1 : n.toNatClampNeg < 200001 := Nat.not_le.mp fun q => hin' (Or.inr q)
      obtain ⟨ws, hrw, hP, hD, hS⟩ := hw
      obtain ⟨_, rw', rfl, rfl, hr⟩ := hs
      obtain ⟨x, hx1⟩ := Option.isSome_iff_exists.mp hlk
      have hm := mi_lk_mem hx1
      have hlink : (Cond.classLink (mi_on o) idx "java/lang/String").before args s = true := hts (mi_alw o (idx, x)) (mi_in2 ho (List.mem_append_right _ (List.mem_append_right _ (List.mem_append_right _ (List.mem_append_right _ (List.mem_append_left _ (List.mem_map.mpr ⟨_, hm, rfl⟩)))))))
      refine va_newq (C := "java/lang/String") hx hb hown hlink hAO hK hP hD hS hA h0 rfl ?_ hRc hRs hd (fun q cA H1 hK1 hP1 hD1 hS1 => ?_)
      · have := Nat.mul_le_mul (Nat.le_of_lt h1) (Nat.le_refl 4)
        exact Nat.le_trans this (Nat.le_of_ble_eq_true rfl)
      · obtain ⟨_, _, -, -, -, hid2⟩ := (hK1.2 5 _ rfl).2
        obtain ⟨_, _, -, -, -, hid⟩ := (hK.2 4 _ rfl).2
        have hcA : cA = ids 4 := Option.some.inj (hid2.symm.trans hid)
        subst hcA
        exact kk _ _ _ _ (mi_le_app _ q) ⟨_, mi_rw_push hrw (by rfl), hP1, hD1, hS1⟩ (mi_rl_c ⟨q, mi_last_ad hrw q, rfl⟩ (mi_rl_mono (mi_le_app _ q) hr))
    next => cases hh
  next => cases hh

theorem mi_iast_ok (hx : p.tables.exec = Jvm.exec) (hb : c.code = cc) (hK : va_K D mi_cl (mi_tys ids) s) (hd : decode cc pc = .ok (.iastore, 1)) (hh : mi_ast 0 (fun x => x) (pc + 1) st h cells slots = some (pc', st', h', c', s')) (hw : mi_Wd D ids cn A s ad h H locs) (hs : mi_rl ad cn st sw) (kk : mi_KH p l e R s m args below meth c Q D ids cn A ls ad pc' st' h' c' s') : W p l e R s m args below meth c H locs cells slots Q (F0 m pc ls sw) := by
  unfold mi_ast at hh
  split at hh
  next x j k r =>
    obtain ⟨ws, hrw, hP, hD, hS⟩ := hw
    obtain ⟨_, _, rfl, rfl, _, _, rfl, rfl, _, rw', rfl, ⟨a, ha, rfl⟩, hr⟩ := hs
    split at hh
    next t' n f hob =>
      split at hh
      next hc =>
        obtain ⟨rfl, hin⟩ := hc
        cases hh
        obtain ⟨a', e', g1, g2, g3⟩ := hrw.2.2 _ _ hob
        cases g1.symm.trans ha
        have g3 : e' = .inl (ids 0, n, .inl f) := g3
        subst g3
        exact va_iast hx hb hK hP hD hS k 0 g2 rfl (mi_inb_ok hin) hd (fun H1 locs1 hP1 hD1 hS1 => kk _ _ _ _ (mi_le_rf _) ⟨_, mi_rw_set hrw ha (by rfl), hP1, hD1, hS1⟩ hr)
      next => cases hh
    next => cases hh
  next => cases hh
theorem mi_bast_ok (hx : p.tables.exec = Jvm.exec) (hb : c.code = cc) (hK : va_K D mi_cl (mi_tys ids) s) (hd : decode cc pc = .ok (.bastore, 1)) (hh : mi_ast 2 (vp_nar .byte) (pc + 1) st h cells slots = some (pc', st', h', c', s')) (hw : mi_Wd D ids cn A s ad h H locs) (hs : mi_rl ad cn st sw) (kk : mi_KH p l e R s m args below meth c Q D ids cn A ls ad pc' st' h' c' s') : W p l e R s m args below meth c H locs cells slots Q (F0 m pc ls sw) := by
  unfold mi_ast at hh
  split at hh
  next x j k r =>
    obtain ⟨ws, hrw, hP, hD, hS⟩ := hw
    obtain ⟨_, _, rfl, rfl, _, _, rfl, rfl, _, rw', rfl, ⟨a, ha, rfl⟩, hr⟩ := hs
    split at hh
    next t' n f hob =>
      split at hh
      next hc =>
        obtain ⟨rfl, hin⟩ := hc
        cases hh
        obtain ⟨a', e', g1, g2, g3⟩ := hrw.2.2 _ _ hob
        cases g1.symm.trans ha
        have g3 : e' = .inl (ids 2, n, .inl f) := g3
        subst g3
        exact va_bast hx hb hK hP hD hS k 2 g2 rfl (mi_inb_ok hin) hd (fun H1 locs1 hP1 hD1 hS1 => kk _ _ _ _ (mi_le_rf _) ⟨_, mi_rw_set hrw ha (by rfl), hP1, hD1, hS1⟩ hr)
      next => cases hh
    next => cases hh
  next => cases hh
theorem mi_zast_ok (hx : p.tables.exec = Jvm.exec) (hb : c.code = cc) (hK : va_K D mi_cl (mi_tys ids) s) (hd : decode cc pc = .ok (.bastore, 1)) (hh : mi_ast 3 (vp_nar .boolean) (pc + 1) st h cells slots = some (pc', st', h', c', s')) (hw : mi_Wd D ids cn A s ad h H locs) (hs : mi_rl ad cn st sw) (kk : mi_KH p l e R s m args below meth c Q D ids cn A ls ad pc' st' h' c' s') : W p l e R s m args below meth c H locs cells slots Q (F0 m pc ls sw) := by
  unfold mi_ast at hh
  split at hh
  next x j k r =>
    obtain ⟨ws, hrw, hP, hD, hS⟩ := hw
    obtain ⟨_, _, rfl, rfl, _, _, rfl, rfl, _, rw', rfl, ⟨a, ha, rfl⟩, hr⟩ := hs
    split at hh
    next t' n f hob =>
      split at hh
      next hc =>
        obtain ⟨rfl, hin⟩ := hc
        cases hh
        obtain ⟨a', e', g1, g2, g3⟩ := hrw.2.2 _ _ hob
        cases g1.symm.trans ha
        have g3 : e' = .inl (ids 3, n, .inl f) := g3
        subst g3
        exact va_zast hx hb hK hP hD hS k 3 g2 rfl (mi_inb_ok hin) hd (fun H1 locs1 hP1 hD1 hS1 => kk _ _ _ _ (mi_le_rf _) ⟨_, mi_rw_set hrw ha (by rfl), hP1, hD1, hS1⟩ hr)
      next => cases hh
    next => cases hh
  next => cases hh
theorem mi_last_ok (hx : p.tables.exec = Jvm.exec) (hb : c.code = cc) (hK : va_K D mi_cl (mi_tys ids) s) (hd : decode cc pc = .ok (.lastore, 1)) (hh : mi_last (pc + 1) st h cells slots = some (pc', st', h', c', s')) (hw : mi_Wd D ids cn A s ad h H locs) (hs : mi_rl ad cn st sw) (kk : mi_KH p l e R s m args below meth c Q D ids cn A ls ad pc' st' h' c' s') : W p l e R s m args below meth c H locs cells slots Q (F0 m pc ls sw) := by
  unfold mi_last at hh
  split at hh
  next x j k r =>
    obtain ⟨ws, hrw, hP, hD, hS⟩ := hw
    obtain ⟨_, _, rfl, rfl, _, _, rfl, rfl, _, rw', rfl, ⟨a, ha, rfl⟩, hr⟩ := hs
    split at hh
    next t' n f hob =>
      split at hh
      next hc =>
        obtain ⟨rfl, hin⟩ := hc
        cases hh
        obtain ⟨a', e', g1, g2, g3⟩ := hrw.2.2 _ _ hob
        cases g1.symm.trans ha
        have g3 : e' = .inl (ids 1, n, .inr (.inl f)) := g3
        subst g3
        exact va_last hx hb hK hP hD hS k 1 g2 rfl (mi_inb_ok hin) hd (fun H1 locs1 hP1 hD1 hS1 => kk _ _ _ _ (mi_le_rf _) ⟨_, mi_rw_set hrw ha (by rfl), hP1, hD1, hS1⟩ hr)
      next => cases hh
    next => cases hh
  next => cases hh
theorem mi_tys_at {ids : Nat → ClassId} {t : Nat} (h : t < 4) : ∃ ty, (mi_tys ids)[t]? = some (ids t, ty) := by
  match t, h with
  | 0, _ => exact ⟨_, rfl⟩
  | 1, _ => exact ⟨_, rfl⟩
  | 2, _ => exact ⟨_, rfl⟩
  | 3, _ => exact ⟨_, rfl⟩
theorem mi_alen_ok (hx : p.tables.exec = Jvm.exec) (hb : c.code = cc) (hK : va_K D mi_cl (mi_tys ids) s) {X : mi_X} (hG : mi_Gc X cn A s s.heap) (hd : decode cc pc = .ok (.arraylength, 1)) (hh : mi_alen X (pc + 1) st h cells slots = some (pc', st', h', c', s')) (hw : mi_Wd D ids cn A s ad h H locs) (hs : mi_rl ad cn st sw) (kk : mi_KH p l e R s m args below meth c Q D ids cn A ls ad pc' st' h' c' s') : W p l e R s m args below meth c H locs cells slots Q (F0 m pc ls sw) := by
  obtain ⟨ws, hrw, hP, hD, hS⟩ := hw
  unfold mi_alen at hh
  split at hh
  next k r =>
    obtain ⟨_, rw', rfl, ⟨a, ha, rfl⟩, hr⟩ := hs
    split at hh
    next t' n f hob =>
      split at hh
      next hc =>
        cases hh
        obtain ⟨a', e', g1, g2, g3⟩ := hrw.2.2 _ _ hob
        cases g1.symm.trans ha
        have g3 : e' = .inl (ids t', n, .inl f) := g3
        subst g3
        obtain ⟨ty, hty⟩ := mi_tys_at (ids := ids) hc
        exact va_alen hx hb hK hP k t' g2 hty rfl hd (kk _ _ _ _ (mi_le_rf _) ⟨ws, hrw, hP, hD, hS⟩ (mi_rl_c rfl hr))
      next => cases hh
    next t' n f hob =>
      split at hh
      next hc =>
        cases hh
        obtain ⟨a', e', g1, g2, g3⟩ := hrw.2.2 _ _ hob
        cases g1.symm.trans ha
        have g3 : e' = .inl (ids t', n, .inr (.inl f)) := g3
        subst g3
        obtain ⟨ty, hty⟩ := mi_tys_at (ids := ids) hc
        exact va_alen hx hb hK hP k t' g2 hty rfl hd (kk _ _ _ _ (mi_le_rf _) ⟨ws, hrw, hP, hD, hS⟩ (mi_rl_c rfl hr))
      next => cases hh
    next => cases hh
  next k r =>
    obtain ⟨_, rw', rfl, rfl, hr⟩ := hs
    split at hh
    next hc =>
      cases hh
      obtain ⟨-, -, -, g4⟩ := hG.1 (k / 4) hc.2
      rw [show 4 * (k / 4) + 1 = k by omega] at g4
      exact va_tlen hx hb g4 hS rfl hd (kk _ _ _ _ (mi_le_rf _) ⟨ws, hrw, hP, hD, hS⟩ (mi_rl_c rfl hr))
    next =>
      split at hh
      next x =>
        split at hh
        next hc =>
          cases hh
          subst hc
          obtain ⟨-, -, -, -, hX, hlt, hnA⟩ := hG
          exact va_slen hx hb hX hlt hnA hS hd (kk _ _ _ _ (mi_le_rf _) ⟨ws, hrw, hP, hD, hS⟩ (mi_rl_c rfl hr))
        next => cases hh
      next => cases hh
  next => cases hh

end MIH
end
section
section MIH
variable {p : Program} {l : Launch} {e : Env} {R : Room} {s : State} {m : MethodId} {args : Array Value} {below : List Frame} {meth : Method} {c : Code} {H : Heap} {locs : List Loc} {cells slots : Nat} {Q : State → Prop}
variable {cc : ByteArray} {pc pc' c' s' : Nat} {st st' : List Value} {h h' : mi_H} {ad : List Nat} {cn : Nat → Nat} {ids : Nat → ClassId} {D : va_G} {A : Nat → Prop} {sw : List Value} {ls : Array Slot}
theorem mi_nari_ok (hx : p.tables.exec = Jvm.exec) (hb : c.code = cc) (hts : ∀ w ∈ mi_need, w.before args s = true) (hK : va_K D mi_cl (mi_tys ids) s) (hA : ∀ q, s.heap.size ≤ q → A q) (hRc : c' ≤ R.cells) (hRs : s' ≤ R.slots) (hd : decode cc pc = .ok (.newarray .int, 2)) (hh : mi_nar 0 (fun n => (n, .inl (fun _ => 0))) (pc + 2) st h cells slots = some (pc', st', h', c', s')) (hw : mi_Wd D ids cn A s ad h H locs) (hs : mi_rl ad cn st sw) (kk : mi_KH p l e R s m args below meth c Q D ids cn A ls ad pc' st' h' c' s') : W p l e R s m args below meth c H locs cells slots Q (F0 m pc ls sw) := by
  unfold mi_nar at hh
  split at hh
  next n r =>
    split at hh
    next hin =>
      cases hh
      have hin' := mi_inb_ok hin
      have h0 : ¬ n < 0 := fun q => hin' (Or.inl q)
      have h1 : n.toNatClampNeg < 200001 := Nat.not_le.mp fun q => hin' (Or.inr q)
      obtain ⟨ws, hrw, hP, hD, hS⟩ := hw
      obtain ⟨_, rw', rfl, rfl, hr⟩ := hs
      have hwd : (Cond.arrayClass .int).before args s = true := hts _ (mi_in3 (List.mem_of_getElem? (i := 0) rfl))
      have hid : s.vm.findClass ("[" ++ (FieldType.int).toString) = some (ids 0) := (hK.2 0 _ rfl).2
      refine va_newa (atype := .int) (ty := .int) (a0 := (n.toNatClampNeg, .inl (fun _ => 0))) hx hb hwd rfl hK hP hD hS hA (fun cA => rfl) h0 rfl ?_ hRc hRs hd (fun q cA H1 hK1 hP1 hD1 hS1 => ?_)
      · have hcb : componentBytes FieldType.int ≤ 8 := by decide
        have := Nat.mul_le_mul (Nat.le_of_lt h1) hcb
        exact Nat.le_trans this (Nat.le_of_ble_eq_true rfl)
      · have hid2 : s.vm.findClass ("[" ++ (FieldType.int).toString) = some cA := (hK1.2 5 _ rfl).2
        have hcA : cA = ids 0 := Option.some.inj (hid2.symm.trans hid)
        subst hcA
        exact kk _ _ _ _ (mi_le_app _ q) ⟨_, mi_rw_push hrw (by rfl), hP1, hD1, hS1⟩ (mi_rl_c ⟨q, mi_last_ad hrw q, rfl⟩ (mi_rl_mono (mi_le_app _ q) hr))
    next => cases hh
  next => cases hh
theorem mi_narl_ok (hx : p.tables.exec = Jvm.exec) (hb : c.code = cc) (hts : ∀ w ∈ mi_need, w.before args s = true) (hK : va_K D mi_cl (mi_tys ids) s) (hA : ∀ q, s.heap.size ≤ q → A q) (hRc : c' ≤ R.cells) (hRs : s' ≤ R.slots) (hd : decode cc pc = .ok (.newarray .long, 2)) (hh : mi_nar 1 (fun n => (n, .inr (.inl (fun _ => 0)))) (pc + 2) st h cells slots = some (pc', st', h', c', s')) (hw : mi_Wd D ids cn A s ad h H locs) (hs : mi_rl ad cn st sw) (kk : mi_KH p l e R s m args below meth c Q D ids cn A ls ad pc' st' h' c' s') : W p l e R s m args below meth c H locs cells slots Q (F0 m pc ls sw) := by
  unfold mi_nar at hh
  split at hh
  next n r =>
    split at hh
    next hin =>
      cases hh
      have hin' := mi_inb_ok hin
      have h0 : ¬ n < 0 := fun q => hin' (Or.inl q)
      have h1 : n.toNatClampNeg < 200001 := Nat.not_le.mp fun q => hin' (Or.inr q)
      obtain ⟨ws, hrw, hP, hD, hS⟩ := hw
      obtain ⟨_, rw', rfl, rfl, hr⟩ := hs
      have hwd : (Cond.arrayClass .long).before args s = true := hts _ (mi_in3 (List.mem_of_getElem? (i := 1) rfl))
      have hid : s.vm.findClass ("[" ++ (FieldType.long).toString) = some (ids 1) := (hK.2 1 _ rfl).2
      refine va_newa (atype := .long) (ty := .long) (a0 := (n.toNatClampNeg, .inr (.inl (fun _ => 0)))) hx hb hwd rfl hK hP hD hS hA (fun cA => rfl) h0 rfl ?_ hRc hRs hd (fun q cA H1 hK1 hP1 hD1 hS1 => ?_)
      · have hcb : componentBytes FieldType.long ≤ 8 := by decide
        have := Nat.mul_le_mul (Nat.le_of_lt h1) hcb
        exact Nat.le_trans this (Nat.le_of_ble_eq_true rfl)
      · have hid2 : s.vm.findClass ("[" ++ (FieldType.long).toString) = some cA := (hK1.2 5 _ rfl).2
        have hcA : cA = ids 1 := Option.some.inj (hid2.symm.trans hid)
        subst hcA
        exact kk _ _ _ _ (mi_le_app _ q) ⟨_, mi_rw_push hrw (by rfl), hP1, hD1, hS1⟩ (mi_rl_c ⟨q, mi_last_ad hrw q, rfl⟩ (mi_rl_mono (mi_le_app _ q) hr))
    next => cases hh
  next => cases hh
theorem mi_narb_ok (hx : p.tables.exec = Jvm.exec) (hb : c.code = cc) (hts : ∀ w ∈ mi_need, w.before args s = true) (hK : va_K D mi_cl (mi_tys ids) s) (hA : ∀ q, s.heap.size ≤ q → A q) (hRc : c' ≤ R.cells) (hRs : s' ≤ R.slots) (hd : decode cc pc = .ok (.newarray .byte, 2)) (hh : mi_nar 2 (fun n => (n, .inl (fun _ => 0))) (pc + 2) st h cells slots = some (pc', st', h', c', s')) (hw : mi_Wd D ids cn A s ad h H locs) (hs : mi_rl ad cn st sw) (kk : mi_KH p l e R s m args below meth c Q D ids cn A ls ad pc' st' h' c' s') : W p l e R s m args below meth c H locs cells slots Q (F0 m pc ls sw) := by
  unfold mi_nar at hh
  split at hh
  next n r =>
    split at hh
    next hin =>
      cases hh
      have hin' := mi_inb_ok hin
      have h0 : ¬ n < 0 := fun q => hin' (Or.inl q)
      have h1 : n.toNatClampNeg < 200001 := Nat.not_le.mp fun q => hin' (Or.inr q)
      obtain ⟨ws, hrw, hP, hD, hS⟩ := hw
      obtain ⟨_, rw', rfl, rfl, hr⟩ := hs
      have hwd : (Cond.arrayClass .byte).before args s = true := hts _ (mi_in3 (List.mem_of_getElem? (i := 2) rfl))
      have hid : s.vm.findClass ("[" ++ (FieldType.byte).toString) = some (ids 2) := (hK.2 2 _ rfl).2
      refine va_newa (atype := .byte) (ty := .byte) (a0 := (n.toNatClampNeg, .inl (fun _ => 0))) hx hb hwd rfl hK hP hD hS hA (fun cA => rfl) h0 rfl ?_ hRc hRs hd (fun q cA H1 hK1 hP1 hD1 hS1 => ?_)
      · have hcb : componentBytes FieldType.byte ≤ 8 := by decide
        have := Nat.mul_le_mul (Nat.le_of_lt h1) hcb
        exact Nat.le_trans this (Nat.le_of_ble_eq_true rfl)
      · have hid2 : s.vm.findClass ("[" ++ (FieldType.byte).toString) = some cA := (hK1.2 5 _ rfl).2
        have hcA : cA = ids 2 := Option.some.inj (hid2.symm.trans hid)
        subst hcA
        exact kk _ _ _ _ (mi_le_app _ q) ⟨_, mi_rw_push hrw (by rfl), hP1, hD1, hS1⟩ (mi_rl_c ⟨q, mi_last_ad hrw q, rfl⟩ (mi_rl_mono (mi_le_app _ q) hr))
    next => cases hh
  next => cases hh
theorem mi_narz_ok (hx : p.tables.exec = Jvm.exec) (hb : c.code = cc) (hts : ∀ w ∈ mi_need, w.before args s = true) (hK : va_K D mi_cl (mi_tys ids) s) (hA : ∀ q, s.heap.size ≤ q → A q) (hRc : c' ≤ R.cells) (hRs : s' ≤ R.slots) (hd : decode cc pc = .ok (.newarray .boolean, 2)) (hh : mi_nar 3 (fun n => (n, .inl (fun _ => 0))) (pc + 2) st h cells slots = some (pc', st', h', c', s')) (hw : mi_Wd D ids cn A s ad h H locs) (hs : mi_rl ad cn st sw) (kk : mi_KH p l e R s m args below meth c Q D ids cn A ls ad pc' st' h' c' s') : W p l e R s m args below meth c H locs cells slots Q (F0 m pc ls sw) := by
  unfold mi_nar at hh
  split at hh
  next n r =>
    split at hh
    next hin =>
      cases hh
      have hin' := mi_inb_ok hin
      have h0 : ¬ n < 0 := fun q => hin' (Or.inl q)
      have h1 : n.toNatClampNeg < 200001 := Nat.not_le.mp fun q => hin' (Or.inr q)
      obtain ⟨ws, hrw, hP, hD, hS⟩ := hw
      obtain ⟨_, rw', rfl, rfl, hr⟩ := hs
      have hwd : (Cond.arrayClass .boolean).before args s = true := hts _ (mi_in3 (List.mem_of_getElem? (i := 3) rfl))
      have hid : s.vm.findClass ("[" ++ (FieldType.boolean).toString) = some (ids 3) := (hK.2 3 _ rfl).2
      refine va_newa (atype := .boolean) (ty := .boolean) (a0 := (n.toNatClampNeg, .inl (fun _ => 0))) hx hb hwd rfl hK hP hD hS hA (fun cA => rfl) h0 rfl ?_ hRc hRs hd (fun q cA H1 hK1 hP1 hD1 hS1 => ?_)
      · have hcb : componentBytes FieldType.boolean ≤ 8 := by decide
        have := Nat.mul_le_mul (Nat.le_of_lt h1) hcb
        exact Nat.le_trans this (Nat.le_of_ble_eq_true rfl)
      · have hid2 : s.vm.findClass ("[" ++ (FieldType.boolean).toString) = some cA := (hK1.2 5 _ rfl).2
        have hcA : cA = ids 3 := Option.some.inj (hid2.symm.trans hid)
        subst hcA
        exact kk _ _ _ _ (mi_le_app _ q) ⟨_, mi_rw_push hrw (by rfl), hP1, hD1, hS1⟩ (mi_rl_c ⟨q, mi_last_ad hrw q, rfl⟩ (mi_rl_mono (mi_le_app _ q) hr))
    next => cases hh
  next => cases hh
theorem mi_nofl : ∀ i, i < 11 → (match mi_cl[i]? with | some q => (List.range q.2.2).all (fun j => decide (mi_ty i j ≠ .float)) | none => true) = true := by decide +kernel
theorem mi_kl_ok : ∀ o, o < mi_no → ∀ x ∈ mi_kl o, x.2 < 11 := by decide +kernel
theorem mi_dflt {ty : FieldType} (h : ty ≠ .float) (ad : List Nat) (cn : Nat → Nat) : mi_rv ad cn (defaultValue ty) (defaultValue ty) := by
  cases ty <;> first | exact absurd rfl h | rfl
theorem mi_dflts (ad : List Nat) (cn : Nat → Nat) (f : Nat → FieldType) : ∀ (js : List Nat), (∀ j ∈ js, f j ≠ .float) → mi_rl ad cn (js.map (fun j => defaultValue (f j))) (js.map (fun j => defaultValue (f j)))
  | [], _ => rfl
  | j :: js, h => ⟨_, _, rfl, mi_dflt (h j List.mem_cons_self) ad cn, mi_dflts ad cn f js (fun i hi => h i (List.mem_cons_of_mem _ hi))⟩
theorem mi_new_ok (hx : p.tables.exec = Jvm.exec) (hb : c.code = cc) {o : Nat} (ho : o < mi_no) (hown : s.vm.findClass (mi_on o) = some m.cls) (hts : ∀ w ∈ mi_need, w.before args s = true) (hK : va_K D mi_cl (mi_tys ids) s) (hA : ∀ q, s.heap.size ≤ q → A q) (hRc : c' ≤ R.cells) (hRs : s' ≤ R.slots) {idx : Nat} (hd : decode cc pc = .ok (.new idx, 3)) (hh : mi_new o idx (pc + 3) st h cells slots = some (pc', st', h', c', s')) (hw : mi_Wd D ids cn A s ad h H locs) (hs : mi_rl ad cn st sw) (kk : mi_KH p l e R s m args below meth c Q D ids cn A ls ad pc' st' h' c' s') : W p l e R s m args below meth c H locs cells slots Q (F0 m pc ls sw) := by
  unfold mi_new at hh
  split at hh
  next ci hf =>
    have hm := mi_lk_mem hf
    split at hh
    next q hq =>
      cases hh
      obtain ⟨hqm, hty, hnm, hT1, hqn⟩ := mi_clok hq
      obtain ⟨ws, hrw, hP, hD, hS⟩ := hw
      have hci : ci < 11 := mi_kl_ok o ho _ hm
      have hnf := mi_nofl ci hci
      rw [hq] at hnf
      have hnf' : ∀ j ∈ List.range q.2.2, mi_ty ci j ≠ .float := fun j hj => by
        have := List.all_eq_true.mp hnf j hj
        simpa using this
      have hlink := hts (mi_klw o (idx, ci)) (mi_in2 ho (List.mem_append_right _ (List.mem_append_right _ (List.mem_append_left _ (List.mem_map.mpr ⟨_, hm, rfl⟩)))))
      unfold mi_klw at hlink
      rw [show mi_cl[((idx, ci) : Nat × Nat).2]? = some q from hq] at hlink
      refine va_new (C := q.1) (T := q.2.1) (N := q.2.2) (index := idx) (fs := (List.range q.2.2).map (fun j => defaultValue (mi_ty ci j))) hx hb hts (fun w hw => mi_in0 hqm (List.mem_append_left _ hw)) (mi_ty ci) hty hown hlink (hts _ (mi_in0 hqm (List.mem_append_right _ List.mem_cons_self))) (hts _ (mi_in0 hqm (List.mem_append_right _ (List.mem_cons_of_mem _ List.mem_cons_self)))) hK hP hD hS hA hq (fun j hj => ?_) hRc hRs hd (fun z H1 hP1 hD1 hS1 => ?_)
      · show defaultValue (mi_ty ci j) = ((List.range q.2.2).map (fun j => defaultValue (mi_ty ci j))).getD j .null
        rw [List.getD_eq_getElem?_getD, List.getElem?_map, List.getElem?_range hj]
        rfl
      · exact kk _ _ _ _ (mi_le_app _ z) ⟨_, mi_rw_push hrw ⟨_, rfl, mi_dflts _ _ _ _ hnf'⟩, hP1, hD1, hS1⟩ (mi_rl_c ⟨z, mi_last_ad hrw z, rfl⟩ (mi_rl_mono (mi_le_app _ z) hs))
    next => cases hh
  next => cases hh
theorem mi_sl_ok : ∀ o, o < mi_no → ∀ x ∈ mi_sl o, (match mi_sw[x.2]? with | some y => decide (y.1 = mi_on o) && decide (y.2.1 = x.1) | none => false) = true := by decide +kernel
/-- String constants, as the tables have them -/
def mi_Gr (cn : Nat → Nat) (s : State) : Prop := ∀ (i : Nat) (x : String × Nat × String), mi_sw[i]? = some x → vk_R x.1 x.2.1 x.2.2 (cn (4 * i)) s
theorem mi_str {o : Nat} (ho : o < mi_no) (hR : mi_Gr cn s) {idx i : Nat} (hf : mi_lk (mi_sl o) idx = some i) : ∃ tx, vk_R (mi_on o) idx tx (cn (4 * i)) s := by
  have hm := mi_lk_mem hf
  have h1 := mi_sl_ok o ho _ hm
  split at h1
  next y hy =>
    simp only [Bool.and_eq_true, decide_eq_true_eq] at h1
    have h2 := hR _ _ hy
    rw [h1.1, h1.2] at h2
    exact ⟨_, h2⟩
  next => cases h1
theorem mi_il_in {o idx : Nat} {v : Int32} (ho : o < mi_no) (hf : mi_lk (mi_il o) idx = some v) : Cond.constant (mi_on o) idx v ∈ mi_need :=
  mi_in2 ho (List.mem_append_right _ (List.mem_append_right _ (List.mem_append_right _ (List.mem_append_right _ (List.mem_append_right _ (List.mem_append_left _ (List.mem_map.mpr ⟨_, mi_lk_mem hf, rfl⟩)))))))
theorem mi_jl_in {o idx : Nat} {v : Int64} (ho : o < mi_no) (hf : mi_lk (mi_jl o) idx = some v) : Cond.constantLong (mi_on o) idx v ∈ mi_need :=
  mi_in2 ho (List.mem_append_right _ (List.mem_append_right _ (List.mem_append_right _ (List.mem_append_right _ (List.mem_append_right _ (List.mem_append_right _ (List.mem_append_left _ (List.mem_map.mpr ⟨_, mi_lk_mem hf, rfl⟩))))))))
theorem mi_gl_in {o idx g : Nat} (ho : o < mi_no) (hf : mi_lk (mi_gl o) idx = some g) : mi_glw o (idx, g) ∈ mi_need :=
  mi_in2 ho (List.mem_append_right _ (List.mem_append_right _ (List.mem_append_right _ (List.mem_append_right _ (List.mem_append_right _ (List.mem_append_right _ (List.mem_append_right _ (List.mem_append_right _ (List.mem_map.mpr ⟨_, mi_lk_mem hf, rfl⟩)))))))))
theorem mi_ldc_ok (hx : p.tables.exec = Jvm.exec) (hb : c.code = cc) {o : Nat} (ho : o < mi_no) (hown : s.vm.findClass (mi_on o) = some m.cls) (hts : ∀ w ∈ mi_need, w.before args s = true) (hR : mi_Gr cn s) {idx : Nat} (hd : decode cc pc = .ok (.ldc idx, 2)) (hh : mi_ldc o idx (pc + 2) st h cells slots = some (pc', st', h', c', s')) (hw : mi_Wd D ids cn A s ad h H locs) (hs : mi_rl ad cn st sw) (kk : mi_KH p l e R s m args below meth c Q D ids cn A ls ad pc' st' h' c' s') : W p l e R s m args below meth c H locs cells slots Q (F0 m pc ls sw) := by
  unfold mi_ldc at hh
  split at hh
  next v hf =>
    cases hh
    exact lv_ldc hx hb hown (hts _ (mi_il_in ho hf)) hd (kk _ _ _ _ (mi_le_rf _) hw (mi_rl_c rfl hs))
  next =>
    split at hh
    next i hf =>
      split at hh
      next hi =>
        cases hh
        obtain ⟨tx, hq⟩ := mi_str ho hR hf
        exact va_ldcS hx hb hown hq hd (kk _ _ _ _ (mi_le_rf _) hw (mi_rl_c rfl hs))
      next => cases hh
    next => cases hh
theorem mi_ldcw_ok (hx : p.tables.exec = Jvm.exec) (hb : c.code = cc) {o : Nat} (ho : o < mi_no) (hown : s.vm.findClass (mi_on o) = some m.cls) (hts : ∀ w ∈ mi_need, w.before args s = true) (hR : mi_Gr cn s) {idx : Nat} (hd : decode cc pc = .ok (.ldc_w idx, 3)) (hh : (match mi_lk (mi_il o) idx with
    | some v => some (pc + 3, .int v :: st, h, cells, slots)
    | none => (match mi_lk (mi_sl o) idx with
      | some i => if i < mi_nS then some (pc + 3, .retAddr (4 * i) :: st, h, cells, slots) else none
      | none => none)) = some (pc', st', h', c', s')) (hw : mi_Wd D ids cn A s ad h H locs) (hs : mi_rl ad cn st sw) (kk : mi_KH p l e R s m args below meth c Q D ids cn A ls ad pc' st' h' c' s') : W p l e R s m args below meth c H locs cells slots Q (F0 m pc ls sw) := by
  split at hh
  next v hf =>
    cases hh
    exact lv_ldcw hx hb hown (hts _ (mi_il_in ho hf)) hd (kk _ _ _ _ (mi_le_rf _) hw (mi_rl_c rfl hs))
  next =>
    split at hh
    next i hf =>
      split at hh
      next hi =>
        cases hh
        obtain ⟨tx, hq⟩ := mi_str ho hR hf
        intro T hT X
        obtain ⟨t, a1, b1⟩ := kk _ _ _ _ (mi_le_rf _) hw (mi_rl_c (v := .retAddr (4 * i)) rfl hs) T hT X
        exact ⟨t, X.ldcStringW hx hown (text := tx) (a := cn (4 * i)) hq.1 hq.2 (g := F0 m pc ls sw) rfl (by rw [hb]; exact hd) t a1, b1⟩
      next => cases hh
    next => cases hh
theorem mi_ldc2_ok (hx : p.tables.exec = Jvm.exec) (hb : c.code = cc) {o : Nat} (ho : o < mi_no) (hown : s.vm.findClass (mi_on o) = some m.cls) (hts : ∀ w ∈ mi_need, w.before args s = true) {idx : Nat} (hd : decode cc pc = .ok (.ldc2_w idx, 3)) (hh : mi_ldc2 o idx (pc + 3) st h cells slots = some (pc', st', h', c', s')) (hw : mi_Wd D ids cn A s ad h H locs) (hs : mi_rl ad cn st sw) (kk : mi_KH p l e R s m args below meth c Q D ids cn A ls ad pc' st' h' c' s') : W p l e R s m args below meth c H locs cells slots Q (F0 m pc ls sw) := by
  unfold mi_ldc2 at hh
  split at hh
  next v hf =>
    cases hh
    exact lv_ldc2 hx hb hown (hts _ (mi_jl_in ho hf)) hd (kk _ _ _ _ (mi_le_rf _) hw (mi_rl_c rfl hs))
  next => cases hh
theorem mi_gets_ok (hx : p.tables.exec = Jvm.exec) (hb : c.code = cc) {o : Nat} (ho : o < mi_no) (hown : s.vm.findClass (mi_on o) = some m.cls) (hts : ∀ w ∈ mi_need, w.before args s = true) {X : mi_X} (hG : mi_Gc X cn A s s.heap) {idx : Nat} (hd : decode cc pc = .ok (.getstatic idx, 3)) (hh : mi_gets o idx (pc + 3) st h cells slots = some (pc', st', h', c', s')) (hw : mi_Wd D ids cn A s ad h H locs) (hs : mi_rl ad cn st sw) (kk : mi_KH p l e R s m args below meth c Q D ids cn A ls ad pc' st' h' c' s') : W p l e R s m args below meth c H locs cells slots Q (F0 m pc ls sw) := by
  have hS := hw.choose_spec.2.2.2
  unfold mi_gets at hh
  split at hh
  next hf =>
    cases hh
    have hlink : (Cond.fieldLink (mi_on o) idx "jdk/internal/util/Preconditions" "SIOOBE_FORMATTER" "Ljava/util/function/BiFunction;").before args s = true := hts _ (mi_gl_in ho hf)
    obtain ⟨-, -, hZ, -⟩ := hG
    rcases hZ with hZ | ⟨t, hZ⟩
    · exact va_gets hx hb hZ hS hown hlink (fun _ hx => hx) hd (kk _ _ _ _ (mi_le_rf _) hw (mi_rl_c (Or.inl rfl) hs))
    · exact va_gets hx hb hZ hS hown hlink (fun _ hx => hx) hd (kk _ _ _ _ (mi_le_rf _) hw (mi_rl_c (Or.inr ⟨t, rfl⟩) hs))
  next hf =>
    cases hh
    have hlink : (Cond.fieldLink (mi_on o) idx "java/lang/String" "COMPACT_STRINGS" "Z").before args s = true := hts _ (mi_gl_in ho hf)
    obtain ⟨-, -, -, hZ, -⟩ := hG
    exact va_gets hx hb hZ hS hown hlink (fun _ hx => hx) hd (kk _ _ _ _ (mi_le_rf _) hw (mi_rl_c rfl hs))
  next => cases hh
end MIH
end
section
/-! ===== what a method is given, and how a next method is given it ===== -/
def mi_bw : Cond → Bool
  | .declares _ => true
  | .castable _ _ => true
  | .methodLinkNest _ _ _ _ => true
  | .fieldLinkNest _ _ _ _ _ _ => true
  | _ => false
theorem mi_bad_bw : ∀ w ∈ mi_bad, mi_bw w = true := by decide +kernel
theorem mi_bw_on {w : Cond} (h : mi_bw w = true) : w.onTables = true := by
  cases w <;> first | rfl | (exact absurd h (by decide)) | (exact absurd h Bool.false_ne_true)
theorem mi_bw_warm {w : Cond} {s U : State} (h : mi_bw w = true) (hW : s.WarmedH U.vm) (hZ : va_Nw w s) : va_Nw w U := by
  cases w <;> first
    | exact va_Nw.warmD hW hZ
    | exact va_Nw.warmC hW hZ
    | exact va_Nw.warmM hW hZ
    | exact va_Nw.warmF hW hZ
    | (exact absurd h Bool.false_ne_true)
/-- all that is known at a state, but the class's and the reference's own cells; sz0: where the old cells end -/
def mi_Gl (X : mi_X) (cn : Nat → Nat) (ids : Nat → ClassId) (D : va_G) (sz0 : Nat) (U : State) : Prop :=
  va_K D mi_cl (mi_tys ids) U ∧ mi_Gc X cn (fun q => sz0 ≤ q) U U.heap ∧ mi_Gr cn U ∧ (∀ w ∈ mi_bad, va_Nw w U) ∧
  vx_Zq Bundle.tN "UNASSIGNED_STACK" Bundle.steD (fun q => sz0 ≤ q) U U.heap ∧ vx_Zq Bundle.tN "SUPPRESSED_SENTINEL" Bundle.listD (fun q => sz0 ≤ q) U U.heap ∧ va_AO "java/lang/String" U
theorem mi_Gs_next {cn : Nat → Nat} {A : Nat → Prop} {s U : State} (hvm : s.vm.Alike U.vm) (hq : ∀ a : Nat, a < s.heap.size → ¬ A a → U.heap[a]? = s.heap[a]?) (h : mi_Gs cn A s s.heap) : mi_Gs cn A U U.heap := fun i hi => by
  obtain ⟨h1, h2, h3, h4⟩ := h i hi
  exact ⟨va_O.moved hvm (h1.kept hq), va_OF.moved hvm (h2.kept hq), va_OF.moved hvm (h3.kept hq), va_T.moved hvm (h4.kept hq)⟩
theorem mi_Gs_nar {cn : Nat → Nat} {A B : Nat → Prop} {s : State} {H : Heap} (hAB : ∀ q, B q → A q) (h : mi_Gs cn A s H) : mi_Gs cn B s H := fun i hi => by
  obtain ⟨h1, h2, h3, h4⟩ := h i hi
  exact ⟨h1.narrow hAB, h2.narrow hAB, h3.narrow hAB, h4.narrow hAB⟩
theorem mi_Gc_next {X : mi_X} {cn : Nat → Nat} {A : Nat → Prop} {s U : State} (hvm : s.vm.Alike U.vm) (hz : s.heap.size ≤ U.heap.size) (hq : ∀ a : Nat, a < s.heap.size → ¬ A a → U.heap[a]? = s.heap[a]?) (h : mi_Gc X cn A s s.heap) : mi_Gc X cn A U U.heap := by
  obtain ⟨h1, -, h4, h5, h6⟩ := h
  refine ⟨mi_Gs_next hvm hq h1, trivial, va_Zq.moved hvm (h4.kept hq), va_Z.moved hvm (h5.kept hq), ?_⟩
  cases X with
  | none => exact trivial
  | some x =>
    obtain ⟨g1, g2, g3⟩ := h6
    exact ⟨va_X.moved hvm (g1.kept (hq _ g2 g3)), Nat.lt_of_lt_of_le g2 hz, g3⟩
theorem mi_Gc_nar {X : mi_X} {cn : Nat → Nat} {A B : Nat → Prop} {s : State} {H : Heap} (hAB : ∀ q, B q → A q) (h : mi_Gc X cn A s H) : mi_Gc X cn B s H := by
  obtain ⟨h1, -, h4, h5, h6⟩ := h
  refine ⟨mi_Gs_nar hAB h1, trivial, h4.narrow hAB, h5.narrow hAB, ?_⟩
  cases X with
  | none => exact trivial
  | some x => exact ⟨h6.1, h6.2.1, fun q => h6.2.2 (hAB _ q)⟩
theorem mi_Gl_next {X : mi_X} {cn : Nat → Nat} {ids : Nat → ClassId} {D : va_G} {sz0 : Nat} {s U : State} (hW : s.WarmedH U.vm) (hz : s.heap.size ≤ U.heap.size) (hq : ∀ a : Nat, a < s.heap.size → ¬ sz0 ≤ a → U.heap[a]? = s.heap[a]?) (h : mi_Gl X cn ids D sz0 s) : mi_Gl X cn ids D sz0 U := by
  obtain ⟨h1, h2, h3, h4, h5, h6, h7⟩ := h
  have hvm := hW.alike
  exact ⟨va_K.moved hvm h1, mi_Gc_next hvm hz hq h2, fun i x hx => (h3 i x hx).warm hW, fun w hw => mi_bw_warm (mi_bad_bw w hw) hW (h4 w hw), vx_Zq.moved hvm (h5.kept hq), vx_Zq.moved hvm (h6.kept hq), va_AO.moved hvm h7⟩
theorem mi_Gl_call {X : mi_X} {cn : Nat → Nat} {ids : Nat → ClassId} {D : va_G} {sz0 : Nat} {s : State} {g : JFrame} {mk : MethodId} {a : Array Value} (h : mi_Gl X cn ids D sz0 s) : mi_Gl X cn ids D sz0 (s.calling g mk a) :=
  mi_Gl_next (U := s.calling g mk a) (State.WarmedH.refl s) (Nat.le_refl _) (fun _ _ _ => rfl) h
/-- the cells behind a call -/
def mi_Wc (D : va_G) (ids : Nat → ClassId) (cn : Nat → Nat) (ad : List Nat) (h : mi_H) (H : Heap) : Prop := ∃ ws, mi_rw ids ad cn h ws ∧ va_P D mi_cl ws H ∧ va_D (fun _ => True) ws
theorem mi_ws_ad {ids : Nat → ClassId} {ad : List Nat} {cn : Nat → Nat} {h : mi_H} {ws : va_W} (hw : mi_rw ids ad cn h ws) {k : Nat} {q : Nat × va_E} (hk : ws[k]? = some q) : ad[k]? = some q.1 := by
  have hl : k < h.length := by
    have := (List.getElem?_eq_some_iff.mp hk).1
    rw [hw.2.1] at this
    exact this
  obtain ⟨a, e, g1, g2, -⟩ := hw.2.2 k _ (List.getElem?_eq_getElem hl)
  rw [g2] at hk
  cases hk
  exact g1
theorem mi_Wd_of {D : va_G} {ids : Nat → ClassId} {cn : Nat → Nat} {A : Nat → Prop} {s : State} {ad : List Nat} {h : mi_H} {H : Heap} {locs : List Loc} (hc : mi_Wc D ids cn ad h H) (hA : ∀ a ∈ ad, A a) (hS : va_S A s.heap H locs) : mi_Wd D ids cn A s ad h H locs := by
  obtain ⟨ws, h1, h2, h3⟩ := hc
  exact ⟨ws, h1, h2, ⟨h3.1, fun k q hk => hA _ (List.mem_of_getElem? (mi_ws_ad h1 hk))⟩, hS⟩
theorem mi_Wc_of {D : va_G} {ids : Nat → ClassId} {cn : Nat → Nat} {A : Nat → Prop} {s : State} {ad : List Nat} {h : mi_H} {H : Heap} {locs : List Loc} (hw : mi_Wd D ids cn A s ad h H locs) : mi_Wc D ids cn ad h H ∧ (∀ a ∈ ad, A a) ∧ va_S A s.heap H locs := by
  obtain ⟨ws, h1, h2, h3, h4⟩ := hw
  refine ⟨⟨ws, h1, h2, h3.1, fun _ _ _ => trivial⟩, fun a ha => ?_, h4⟩
  obtain ⟨k, hk⟩ := List.mem_iff_getElem?.mp ha
  have hl : k < h.length := by
    have := (List.getElem?_eq_some_iff.mp hk).1
    rw [h1.1] at this
    exact this
  obtain ⟨a', e, g1, g2, -⟩ := h1.2.2 k _ (List.getElem?_eq_getElem hl)
  cases g1.symm.trans hk
  exact h3.2 k _ g2
/-- what a method is given -/
def mi_Fr (p : Program) (l : Launch) (R : Room) (s : State) (m : MethodId) (args : Array Value) (meth : Method) (c : Code) (M : mi_M) (d : Nat) (X : mi_X) (cn : Nat → Nat) (ids : Nat → ClassId) (D : va_G) (A : Nat → Prop) (sz0 : Nat) : Prop :=
  (p.tables.exec = Jvm.exec ∧ c.code = mi_bt M ∧ meth.sig.returnType = mi_rt M ∧ c.maxLocals = mi_nL M ∧ meth.locks = false ∧ (mi_kd M = 2 → meth.name = "<init>") ∧ (mi_kd M ≠ 4 → c.exceptionTable.toList = tableOf (mi_hd M)) ∧ s.vm.findClass (mi_on (mi_ow M)) = some m.cls) ∧
  (∀ w ∈ mi_need, w.before args s = true) ∧ (∀ q, s.heap.size ≤ q → A q) ∧ (∀ q, A q → sz0 ≤ q) ∧ sz0 ≤ s.heap.size ∧ mi_Gl X cn ids D sz0 s ∧ d ≤ R.frames ∧ 40 * d ≤ R.locals ∧ l.stackTraces = false
/-- a method's row is the machine's -/
theorem mi_mok_spec {M : mi_M} (h : mi_mok M = true) : plainFor (mi_y M) = true ∧ (mi_y M).cls ≠ "java/lang/invoke/MethodHandle" ∧ (mi_y M).cls ≠ "java/lang/invoke/VarHandle" ∧ (parseMethodDescriptor (mi_y M).desc).map (fun d => d.parameters.length) = some (mi_np M) ∧ (mi_y M).cls = mi_on (mi_ow M) ∧ mi_ow M < mi_no ∧ mi_nL M ≤ 20 ∧ (mi_kd M = 2 → (mi_y M).name = "<init>") ∧ (∀ q ∈ mi_cd M, decode (mi_bt M) q.1 = .ok q.2) ∧
    (∀ q ∈ mi_th M, decode (mi_bt M) q.1 = .ok (.new q.2.2.1, 3) ∧ decode (mi_bt M) (q.1 + 3) = .ok (.dup, 1) ∧ decode (mi_bt M) (q.1 + 4) = .ok (.ldc q.2.2.2.1, 2) ∧ decode (mi_bt M) (q.1 + 6) = .ok (.invokespecial q.2.2.2.2.1, 3) ∧ decode (mi_bt M) (q.1 + 9) = .ok (.athrow, 1) ∧ (mi_y M).cls = "TypeLoom" ∧ (q.2.1, q.2.2.2.2.1) ∈ mi_xs ∧ mi_kd M < 3 ∧ mi_lk (mi_xl (mi_ow M)) q.2.2.1 = some q.2.1 ∧ q.2.1 < 3 ∧ ∃ i, mi_lk (mi_sl (mi_ow M)) q.2.2.2.1 = some i ∧ i < mi_nS) ∧ (mi_kd M = 3 ∨ mi_hd M = []) := by
  simp only [mi_mok, Bool.and_eq_true, Bool.or_eq_true, decide_eq_true_eq, List.all_eq_true, Bool.not_eq_true', decide_eq_false_iff_not] at h
  have k1 := h.2.2.2.2.2.2.2
  refine ⟨h.1, h.2.1, h.2.2.1, h.2.2.2.1, h.2.2.2.2.1, h.2.2.2.2.2.1, h.2.2.2.2.2.2.1, fun q => k1.1.elim (fun z => absurd q z) id, k1.2.1.1, fun q hq => ?_, k1.2.2⟩
  have a := k1.2.1.2 q hq
  have a5 := a.2.2.2.2
  have a10 := a5.2.2.2.2.2
  refine ⟨a.1, a.2.1, a.2.2.1, a.2.2.2.1, a5.1, a5.2.1, a5.2.2.1, a5.2.2.2.1, a5.2.2.2.2.1, a10.1, ?_⟩
  have a11 := a10.2
  split at a11
  next i hi => exact ⟨i, hi, by simpa using a11⟩
  next => exact absurd a11 (by decide)
theorem mi_gf_pc {ci j k q c s c' s' pc' : Nat} {r st' : List Value} {h h' : mi_H} (hh : mi_gf ci j k q r h c s = some (pc', st', h', c', s')) : pc' = q := by
  unfold mi_gf at hh
  split at hh <;> first | (cases hh; done) | skip
  split at hh <;> first | (cases hh; done) | skip
  split at hh <;> first | (cases hh; done) | skip
  cases hh; rfl
theorem mi_getf_pc {o idx q c s c' s' pc' : Nat} {st st' : List Value} {h h' : mi_H} (hh : mi_getf o idx q st h c s = some (pc', st', h', c', s')) : pc' = q := by
  unfold mi_getf at hh
  split at hh
  next k r =>
    split at hh
    next x hf => exact mi_gf_pc hh
    next =>
      split at hh
      next x hf => exact mi_gf_pc hh
      next => cases hh
  next k r =>
    split at hh
    next j hf =>
      unfold mi_gs at hh
      split at hh
      next hk =>
        split at hh
        next => cases hh; rfl
        next =>
          split at hh
          next => cases hh; rfl
          next => cases hh
      next => cases hh
    next => cases hh
  next => cases hh
section MIG
variable {p : Program} {l : Launch} {e : Env} {R : Room} {s : State} {m : MethodId} {args : Array Value} {below : List Frame} {meth : Method} {c : Code} {H : Heap} {locs : List Loc} {cells slots : Nat} {Q : State → Prop}
variable {pc pc' c' s' d sz0 : Nat} {st st' : List Value} {h h' : mi_H} {ad : List Nat} {cn : Nat → Nat} {ids : Nat → ClassId} {D : va_G} {A : Nat → Prop} {sw : List Value} {ls : Array Slot} {X : mi_X} {M : mi_M}
theorem mi_mem_ok (hM : mi_mok M = true) (F : mi_Fr p l R s m args meth c M d X cn ids D A sz0) {i : Instr} {len : Nat} (hd : decode (mi_bt M) pc = .ok (i, len)) (hlen : len = mi_ml2 i) (hRc : c' ≤ R.cells) (hRs : s' ≤ R.slots) (hh : mi_mem X M i pc st h cells slots = some (pc', st', h', c', s'))
    (hw : mi_Wd D ids cn A s ad h H locs) (hs : mi_rl ad cn st sw) (kk : mi_KH p l e R s m args below meth c Q D ids cn A ls ad pc' st' h' c' s') : W p l e R s m args below meth c H locs cells slots Q (F0 m pc ls sw) := by
  obtain ⟨⟨hx, hb, -, -, -, hin2, -, hown⟩, hts, hA, hA0, -, hGl, -⟩ := F
  obtain ⟨hK, hG0, hR, hbad0, -, -, hAO⟩ := hGl
  have hG : mi_Gc X cn A s s.heap := mi_Gc_nar hA0 hG0
  have hbad : ∀ w ∈ mi_bad, w.before args s = true := fun w hw => va_Nw.use (mi_bw_on (mi_bad_bw w hw)) (hbad0 w hw)
  have ho := (mi_mok_spec hM).2.2.2.2.2.1
  subst hlen
  cases i
  case getfield idx => exact mi_getf_ok hx hb ho hown hts hK hbad hA hG hd hh hw hs (mi_getf_pc hh ▸ kk)
  case putfield idx => exact mi_putf_ok hx hb ho hown hts hK hin2 hd hh hw hs kk
  case iaload =>
    dsimp only [mi_mem] at hh
    split at hh
    next q hq => cases hh; exact mi_iald_ok hx hb hK hd hq hw hs kk
    next => exact mi_sld_ok hx hb hG hd hh hw hs kk
  case baload =>
    dsimp only [mi_mem] at hh
    split at hh
    next q hq => cases hh; exact mi_bald_ok hx hb hK hd hq hw hs kk
    next =>
      split at hh
      next q hq => cases hh; exact mi_zald_ok hx hb hK hd hq hw hs kk
      next => exact mi_bld_ok hx hb hG hd hh hw hs kk
  case laload => exact mi_lald_ok hx hb hK hd hh hw hs kk
  case aaload => exact mi_qld_ok hx hb hK hd hh hw hs kk
  case aastore => exact mi_qst_ok hx hb hK hG hd hh hw hs kk
  case anewarray idx => exact mi_qnw_ok hx hb ho hown hts hAO hK hA hRc hRs hd hh hw hs kk
  case iastore => exact mi_iast_ok hx hb hK hd hh hw hs kk
  case bastore =>
    dsimp only [mi_mem] at hh
    split at hh
    next q hq => cases hh; exact mi_bast_ok hx hb hK hd hq hw hs kk
    next => exact mi_zast_ok hx hb hK hd hh hw hs kk
  case lastore => exact mi_last_ok hx hb hK hd hh hw hs kk
  case arraylength => exact mi_alen_ok hx hb hK hG hd hh hw hs kk
  case newarray at' =>
    cases at'
    case int => exact mi_nari_ok hx hb hts hK hA hRc hRs hd hh hw hs kk
    case long => exact mi_narl_ok hx hb hts hK hA hRc hRs hd hh hw hs kk
    case byte => exact mi_narb_ok hx hb hts hK hA hRc hRs hd hh hw hs kk
    case boolean => exact mi_narz_ok hx hb hts hK hA hRc hRs hd hh hw hs kk
    all_goals (cases hh)
  case new idx => exact mi_new_ok hx hb ho hown hts hK hA hRc hRs hd hh hw hs kk
  case ldc idx => exact mi_ldc_ok hx hb ho hown hts hR hd hh hw hs kk
  case ldc_w idx => exact mi_ldcw_ok hx hb ho hown hts hR hd hh hw hs kk
  case ldc2_w idx => exact mi_ldc2_ok hx hb ho hown hts hd hh hw hs kk
  case getstatic idx => exact mi_gets_ok hx hb ho hown hts hG hd hh hw hs kk
  all_goals (cases hh)
end MIG
end
section
/-! ===== calls: a method's contract out of its run ===== -/
theorem mi_rl_app {ad : List Nat} {cn : Nat → Nat} : ∀ {a b c d : List Value}, mi_rl ad cn a c → mi_rl ad cn b d → mi_rl ad cn (a ++ b) (c ++ d)
  | [], _, _, _, h, h2 => by
    have h' : _ = [] := h
    subst h'
    exact h2
  | _ :: _, _, _, _, ⟨w, ws', rfl, ha, hb⟩, h2 => ⟨w, ws' ++ _, rfl, ha, mi_rl_app hb h2⟩
theorem mi_rl_cat {ad : List Nat} {cn : Nat → Nat} : ∀ {a c : List Value}, mi_rl ad cn a c → (c.map fun v => v.category).sum = mi_cat a
  | [], _, h => by
    have h' : _ = [] := h
    subst h'
    rfl
  | v :: r, _, ⟨w, ws', rfl, ha, hb⟩ => by
    have ih := mi_rl_cat hb
    simp only [mi_cat, List.map_cons, List.sum_cons] at ih ⊢
    rw [ih, mi_rv_cat ha]
theorem mi_split {ad : List Nat} {cn : Nat → Nat} : ∀ (n : Nat) {st sw : List Value}, mi_rl ad cn st sw → n < st.length → ∃ (As : List Value) (b : Value) (rest : List Value), sw = As.reverse ++ b :: rest ∧ As.length = n ∧ mi_rv ad cn (st.getD n .null) b ∧ mi_rl ad cn (st.take (n + 1)).reverse (b :: As) ∧ mi_rl ad cn (st.drop (n + 1)) rest
  | _, [], _, _, hn => absurd hn (Nat.not_lt_zero _)
  | 0, v :: vs, _, ⟨w, ws', rfl, ha, hb⟩, _ => ⟨[], w, ws', rfl, rfl, ha, ⟨w, [], rfl, ha, rfl⟩, hb⟩
  | n + 1, v :: vs, _, ⟨w, ws', rfl, ha, hb⟩, hn => by
    obtain ⟨As, b, rest, rfl, h2, h3, h4, h5⟩ := mi_split n hb (Nat.lt_of_succ_lt_succ hn)
    refine ⟨As ++ [w], b, rest, by simp, by simp [h2], h3, ?_, h5⟩
    have e : ((v :: vs).take (n + 1 + 1)).reverse = (vs.take (n + 1)).reverse ++ [v] := by simp
    rw [e]
    exact mi_rl_app (c := b :: As) h4 ⟨w, [], rfl, ha, rfl⟩
theorem mi_splitS {ad : List Nat} {cn : Nat → Nat} : ∀ (n : Nat) {st sw : List Value}, mi_rl ad cn st sw → n ≤ st.length → ∃ (As : List Value) (rest : List Value), sw = As.reverse ++ rest ∧ As.length = n ∧ mi_rl ad cn (st.take n).reverse As ∧ mi_rl ad cn (st.drop n) rest
  | 0, _, sw, h, _ => ⟨[], sw, rfl, rfl, rfl, h⟩
  | _ + 1, [], _, _, hn => absurd hn (Nat.not_succ_le_zero _)
  | n + 1, v :: vs, _, ⟨w, ws', rfl, ha, hb⟩, hn => by
    obtain ⟨As, rest, rfl, h2, h4, h5⟩ := mi_splitS n hb (Nat.le_of_succ_le_succ hn)
    refine ⟨As ++ [w], rest, by simp, by simp [h2], ?_, h5⟩
    have e : ((v :: vs).take (n + 1)).reverse = (vs.take n).reverse ++ [v] := by simp
    rw [e]
    exact mi_rl_app h4 ⟨w, [], rfl, ha, rfl⟩
theorem mi_args_r {ad : List Nat} {cn : Nat → Nat} : ∀ {a c : List Value} (i : Nat), mi_rl ad cn a c → mi_rn ad cn (lv_args i a) (lv_args i c)
  | [], _, _, h => by
    have h' : _ = [] := h
    subst h'
    exact rfl
  | v :: r, _, i, ⟨w, ws', rfl, ha, hb⟩ => by
    refine ⟨w, _, rfl, ha, ?_⟩
    rw [mi_rv_cat ha]
    exact mi_args_r _ hb
theorem mi_sl_len : ∀ (vs : List Value), (lg_sl vs).length = (vs.map fun v => v.category).sum
  | [] => rfl
  | v :: vs => by
    have ih := mi_sl_len vs
    unfold lg_sl at ih ⊢
    rw [List.flatMap_cons, List.length_append, ih, List.map_cons, List.sum_cons]
    rcases lv_cat v with hc | hc <;> simp [hc]
/-- an answer, there and here -/
def mi_rvo (ad : List Nat) (cn : Nat → Nat) : Option Value → Option Value → Prop
  | none, w => w = none
  | some v, w => ∃ x, w = some x ∧ mi_rv ad cn v x
theorem mi_rvo_st {ad : List Nat} {cn : Nat → Nat} {v w : Option Value} {r rw' : List Value} (h : mi_rvo ad cn v w) (hr : mi_rl ad cn r rw') : mi_rl ad cn (v.toList ++ r) (w.toList ++ rw') := by
  cases v with
  | none =>
    have h' : w = none := h
    subst h'
    exact hr
  | some v =>
    obtain ⟨x, rfl, hx⟩ := h
    exact ⟨x, _, rfl, hx, hr⟩
def mi_Af (ad : List Nat) (sz : Nat) : Nat → Prop := fun q => q ∈ ad ∨ sz ≤ q
def mi_Pc (X : mi_X) (cn : Nat → Nat) (ids : Nat → ClassId) (D : va_G) (sz0 : Nat) (ad : List Nat) (h : mi_H) (sz : Nat) (aw : List Value) : Array Value → State → Prop := va_Pc aw (fun U => U.heap.size = sz ∧ sz0 ≤ sz ∧ (∀ a ∈ ad, sz0 ≤ a) ∧ mi_Gl X cn ids D sz0 U ∧ mi_Wc D ids cn ad h U.heap)
def mi_Qn (cn : Nat → Nat) (ids : Nat → ClassId) (D : va_G) (ad : List Nat) (sz : Nat) (v : Option Value) (h' : mi_H) : Array Value → State → Outcome → State → Prop := fun _ st oc t => (∃ (ad' : List Nat) (w : Option Value), mi_le ad ad' ∧ oc = .returned w ∧ mi_rvo ad' cn v w ∧ mi_Wc D ids cn ad' h' t.heap ∧ ∀ a ∈ ad', mi_Af ad sz a) ∧ va_F (mi_Af ad sz) st t
def mi_Qx (cn : Nat → Nat) (ids : Nat → ClassId) (D : va_G) (ad : List Nat) (sz : Nat) (x : Nat) (h' : mi_H) : String → State → State → Prop := fun E st t => E = mi_xn x ∧ (∃ ad' : List Nat, mi_le ad ad' ∧ mi_Wc D ids cn ad' h' t.heap ∧ ∀ a ∈ ad', mi_Af ad sz a) ∧ va_F (mi_Af ad sz) st t
def mi_Ws (M : mi_M) : List Cond := mi_hw M :: mi_need
theorem mi_Pc_blind {X : mi_X} {cn : Nat → Nat} {ids : Nat → ClassId} {D : va_G} {sz0 : Nat} {ad : List Nat} {h : mi_H} {sz : Nat} {aw : List Value} : FrameBlind (mi_Pc X cn ids D sz0 ad h sz aw) := fun _ _ _ _ hp => ⟨hp.1, hp.2.1, hp.2.2.1, hp.2.2.2.1, mi_Gl_call hp.2.2.2.2.1, hp.2.2.2.2.2⟩
theorem mi_gW {M : mi_M} (h : M ∈ mi_mt) : GoodIn mi_need (mi_Ws M) := fun w hw => by
  rcases List.mem_cons.mp hw with rfl | hw
  · have := mi_in1 h (List.mem_cons_self (a := mi_hw M))
    exact ⟨this, (mi_gn _ this).2⟩
  · exact mi_gself w hw
section MIC
variable {p : Program} {l : Launch} {e : Env} {R : Room} {s : State} {m : MethodId} {args : Array Value} {below : List Frame} {meth : Method} {c : Code} {H : Heap} {locs : List Loc} {cells slots : Nat} {Q : State → Prop}
variable {pc pc' c' s' d sz0 : Nat} {st st' : List Value} {h h' : mi_H} {ad : List Nat} {cn : Nat → Nat} {ids : Nat → ClassId} {D : va_G} {A : Nat → Prop} {sw : List Value} {ls : Array Slot} {X : mi_X} {M : mi_M}
/-- a method's end, where a contract is owed -/
theorem mi_retQ_ok (F : mi_Fr p l R s m args meth c M d X cn ids D A sz0) {i : Instr} {v : Option Value} (hd : decode (mi_bt M) pc = .ok (i, 1)) (hv : mi_ret M i st = some v) (hs : mi_rl ad cn st sw) {Qc : Array Value → State → Outcome → State → Prop} {free : Addr → Prop}
    (hq : ∀ (w : Option Value) (t : State), mi_rvo ad cn v w → t.heap = H → s.WarmedH t.vm → Qc args s (.returned w) t) (hf : ∀ z ∈ locs, free z.base) : W p l e R s m args below meth c H locs cells slots (MQ below Qc args s cells slots free) (F0 m pc ls sw) := by
  obtain ⟨⟨hx, hb, hr, -, hlocks, -⟩, -⟩ := F
  unfold mi_ret at hv
  split at hv
  next =>
    split at hv
    next ht =>
      cases hv
      have hs' : sw = [] := hs
      subst hs'
      exact W.vret hx hb (hr.trans ht) (fun t ht hW => hq none t rfl ht hW) hf hd hlocks
    next => cases hv
  next x =>
    split at hv
    next ty ht =>
      split at hv
      next hc =>
        cases hv
        simp only [Bool.and_eq_true, decide_eq_true_eq] at hc
        obtain ⟨w, rfl, hs'⟩ := mi_rl_i hs
        have hs'' : w = [] := hs'
        subst hs''
        exact W.zret hx hb (hr.trans ht) hc.1 (fun t ht hW => hq _ t ⟨_, rfl, rfl⟩ ht hW) hf hd hlocks
      next => cases hv
    next => cases hv
  next x =>
    split at hv
    next ht =>
      cases hv
      obtain ⟨w, rfl, hs'⟩ := mi_rl_l hs
      have hs'' : w = [] := hs'
      subst hs''
      exact W.lret hx hb (hr.trans ht) (fun t ht hW => hq _ t ⟨_, rfl, rfl⟩ ht hW) hf hd hlocks
    next => cases hv
  next x =>
    split at hv
    next ht =>
      cases hv
      obtain ⟨w, rfl, hs'⟩ := mi_rl_d hs
      have hs'' : w = [] := hs'
      subst hs''
      exact W.dret hx hb (hr.trans ht) (fun t ht hW => hq _ t ⟨_, rfl, rfl⟩ ht hW) hf hd hlocks
    next => cases hv
  next => cases hv
theorem mi_ml_in {o idx k : Nat} {M' : mi_M} (ho : o < mi_no) (hf : mi_lk (mi_ml o) idx = some k) (hM' : mi_mt[k]? = some M') : Cond.methodLink (mi_on o) idx (mi_y M') ∈ mi_need := by
  have h1 : mi_mlw o (idx, k) ∈ mi_need := mi_in2 ho (List.mem_append_right _ (List.mem_append_left _ (List.mem_map.mpr ⟨_, mi_lk_mem hf, rfl⟩)))
  have hk : k < mi_mt.length := (List.getElem?_eq_some_iff.mp hM').1
  have hl : mi_mt.length < 1000000 := by decide +kernel
  unfold mi_mlw at h1
  rw [if_neg (show ¬ ((idx, k) : Nat × Nat).2 = 1000000 by show ¬ k = _; omega), if_neg (show ¬ ((idx, k) : Nat × Nat).2 = 1000001 by show ¬ k = _; omega), if_neg (show ¬ ((idx, k) : Nat × Nat).2 = 1000002 by show ¬ k = _; omega), if_neg (show ¬ ((idx, k) : Nat × Nat).2 = 1000003 by show ¬ k = _; omega), show mi_mt[((idx, k) : Nat × Nat).2]? = some M' from hM'] at h1
  exact h1
theorem mi_nm_in {o idx k : Nat} {M' : mi_M} (ho : o < mi_no) (hf : mi_lk (mi_nm o) idx = some k) (hM' : mi_mt[k]? = some M') : Cond.methodLinkNest (mi_on o) idx (mi_y M') "TypeLoom" ∈ mi_bad := by
  have h1 : mi_nmw o (idx, k) ∈ mi_bad := List.mem_append_left _ (List.mem_flatMap.mpr ⟨o, List.mem_range.mpr ho, List.mem_append_right _ (List.mem_map.mpr ⟨_, mi_lk_mem hf, rfl⟩)⟩)
  unfold mi_nmw at h1
  rw [show mi_mt[((idx, k) : Nat × Nat).2]? = some M' from hM'] at h1
  exact h1
/-- the three calls that need no walk -/
theorem mi_easy_ok (hM : mi_mok M = true) (F : mi_Fr p l R s m args meth c M (d + 1) X cn ids D A sz0) {i : Instr} (hd : decode (mi_bt M) pc = .ok (i, 3)) (hls : ls.size = mi_nL M) (hRc : cells ≤ R.cells) (hRs : slots ≤ R.slots) (hh : mi_easy M i st = some st')
    (hw : mi_Wd D ids cn A s ad h H locs) (hs : mi_rl ad cn st sw) (kk : mi_KH p l e R s m args below meth c Q D ids cn A ls ad (pc + 3) st' h cells slots) : W p l e R s m args below meth c H locs cells slots Q (F0 m pc ls sw) := by
  obtain ⟨⟨hx, hb, -, hml, -, -, -, hown⟩, hts, -, -, -, -, hRf, hRl, -⟩ := F
  have ho := (mi_mok_spec hM).2.2.2.2.2.1
  have lnk : ∀ {idx k : Nat}, mi_lk (mi_ml (mi_ow M)) idx = some k → mi_mlw (mi_ow M) (idx, k) ∈ mi_need := fun hf => mi_in2 ho (List.mem_append_right _ (List.mem_append_left _ (List.mem_map.mpr ⟨_, mi_lk_mem hf, rfl⟩)))
  unfold mi_easy at hh
  split at hh
  next idx k r =>
    split at hh
    next hc =>
      cases hh
      obtain ⟨_, rw', rfl, ⟨a, ha, rfl⟩, hr⟩ := hs
      have h1 : (Cond.methodLink (mi_on (mi_ow M)) idx objectInit).before args s = true := hts _ (lnk hc.1)
      refine W.objInit hx hb hown h1 (hts _ (mi_in3 (List.mem_of_getElem? (i := 5) rfl))) (hts _ (mi_in3 (List.mem_of_getElem? (i := 4) rfl))) rfl (by rw [hml]; exact hls) rfl hd (by omega) ?_ (kk _ _ _ _ (mi_le_rf _) hw hr)
      show 2 * 0 + _ + 12 ≤ _
      have h2 := mi_rl_cat hr
      have h3 := hc.2
      omega
    next => cases hh
  next idx y x r =>
    split at hh
    next hc =>
      obtain ⟨w, rfl, hr⟩ := mi_rl_ii hs
      have h2 := mi_rl_cat hr
      have hini : (Cond.initialized "java/lang/Math").before args s = true := hts _ (mi_in3 (List.mem_of_getElem? (i := 9) rfl))
      split at hh
      next hf =>
        cases hh
        have h1 : (Cond.methodLink (mi_on (mi_ow M)) idx Lib.Math.max.name).before args s = true := hts _ (lnk hf)
        exact va_mmax hx hb (hml.trans hls.symm) hown h1 (hts _ (mi_in3 (List.mem_of_getElem? (i := 10) rfl))) hini (hts _ (mi_in3 (List.mem_of_getElem? (i := 11) rfl))) (by omega) (by omega) hRc hRs hd (kk _ _ _ _ (mi_le_rf _) hw (mi_rl_c rfl hr))
      next hf =>
        cases hh
        have h1 : (Cond.methodLink (mi_on (mi_ow M)) idx Lib.Math.min.name).before args s = true := hts _ (lnk hf)
        exact va_mmin hx hb (hml.trans hls.symm) hown h1 (hts _ (mi_in3 (List.mem_of_getElem? (i := 12) rfl))) hini (hts _ (mi_in3 (List.mem_of_getElem? (i := 13) rfl))) (by omega) (by omega) hRc hRs hd (kk _ _ _ _ (mi_le_rf _) hw (mi_rl_c rfl hr))
      next => cases hh
    next => cases hh
  next => cases hh
/-- behind a call that returned -/
theorem mi_callm {mc ms sz : Nat} {v : Option Value} {a : Array Value} {rest : List Value} {free : Addr → Prop} (hr : va_Run p l e R s m args below meth c H locs cells slots mc ms (F0 m pc ls sw) rest (mi_Qn cn ids D ad sz v h' a) free) (hS : va_S A s.heap H locs) (hA : ∀ q, mi_Af ad sz q → A q) (hf : ∀ q, free q → A q)
    (kk : ∀ (w : Option Value) (ad' : List Nat) (H1 : Heap) (locs1 : List Loc), mi_le ad ad' → mi_rvo ad' cn v w → mi_Wd D ids cn A s ad' h' H1 locs1 → W p l e R s m args below meth c H1 locs1 (cells + mc) (slots + ms) Q (F0 m (pc + 3) ls (w.toList ++ rest))) : W p l e R s m args below meth c H locs cells slots Q (F0 m pc ls sw) := by
  intro T hT X'
  obtain ⟨v0, st₀, t, T', L, h0, X2, hL, e1, e2, ⟨⟨ad', w, hle, ho, hv, hc, hin⟩, hF⟩, st⟩ := hr T hT X'
  cases ho
  obtain ⟨k1, k2, k3⟩ := vx_keep h0 e1 hS (fun q _ hq => hA q hq) hf hL hF
  obtain ⟨t2, a1, b1⟩ := kk _ ad' T'.heap (locs ++ L) hle hv (mi_Wd_of (by rw [e1]; exact hc) (fun a ha => hA a (hin a ha)) k3) T' rfl X2
  exact ⟨t2, st t2 a1, b1⟩
end MIC
end
section
/-! ===== a method's contract out of its run, second half ===== -/
theorem mi_ald_le {t q pc' c s c' s' : Nat} {st st' : List Value} {h h' : mi_H} (hh : mi_ald t q st h c s = some (pc', st', h', c', s')) : c ≤ c' ∧ s ≤ s' := by
  unfold mi_ald at hh
  repeat' split at hh
  all_goals (first | (cases hh; done) | (cases hh; exact ⟨Nat.le_refl _, Nat.le_refl _⟩))
theorem mi_ast_le {t q pc' c s c' s' : Nat} {f : Int32 → Int32} {st st' : List Value} {h h' : mi_H} (hh : mi_ast t f q st h c s = some (pc', st', h', c', s')) : c ≤ c' ∧ s ≤ s' := by
  unfold mi_ast at hh
  repeat' split at hh
  all_goals (first | (cases hh; done) | (cases hh; exact ⟨Nat.le_refl _, Nat.le_refl _⟩))
theorem mi_mem_le {X : mi_X} {M : mi_M} {i : Instr} {pc pc' c s c' s' : Nat} {st st' : List Value} {h h' : mi_H} (hh : mi_mem X M i pc st h c s = some (pc', st', h', c', s')) : c ≤ c' ∧ s ≤ s' := by
  unfold mi_mem at hh
  split at hh
  all_goals (try simp only [mi_getf, mi_gf, mi_gs, mi_putf, mi_pf, mi_sld, mi_bld, mi_lald, mi_last, mi_alen, mi_qld, mi_qst, mi_qnw, mi_nar, mi_new, mi_ldc, mi_ldc2, mi_gets] at hh)
  all_goals (first | exact mi_ast_le hh | exact mi_ald_le hh | skip)
  all_goals (repeat' split at hh)
  all_goals (first | (cases hh; done) | (cases hh; exact ⟨Nat.le_refl _, Nat.le_refl _⟩) | (cases hh; exact ⟨Nat.le_add_right _ _, Nat.le_add_right _ _⟩) | exact mi_ast_le hh | exact mi_ald_le hh | (cases hh; first | exact mi_ald_le (by assumption) | exact mi_ast_le (by assumption)))
/-- what is owed at the end of a run: r is its result -/
def mi_End (p : Program) (l : Launch) (e : Env) (R : Room) (s : State) (m : MethodId) (args : Array Value) (below : List Frame) (meth : Method) (c : Code) (Q : State → Prop) (M : mi_M) (cn : Nat → Nat) (ids : Nat → ClassId) (D : va_G) (A : Nat → Prop) (ad : List Nat) (r : mi_Z) : Prop := match r.1 with
  | .inl v => ∀ (H' : Heap) (locs' : List Loc) (ad' : List Nat) (pc' : Nat) (ls' : Array Slot) (sw' : List Value) (i : Instr) (st' : List Value), mi_le ad ad' → decode (mi_bt M) pc' = .ok (i, 1) → mi_ret M i st' = some v → mi_rl ad' cn st' sw' → mi_Wd D ids cn A s ad' r.2.1 H' locs' → W p l e R s m args below meth c H' locs' r.2.2.1 r.2.2.2 Q (F0 m pc' ls' sw')
  | .inr x => ∃ (Qc : Array Value → State → Outcome → State → Prop) (XC : String → State → State → Prop) (free : Addr → Prop), Q = vx_MQ below Qc XC args s r.2.2.1 r.2.2.2 free ∧ (∀ q, A q → free q) ∧ ∀ (t : State) (ad' : List Nat), mi_le ad ad' → mi_Wc D ids cn ad' r.2.1 t.heap → (∀ a ∈ ad', A a) → va_F A s t → XC (mi_xn x) s t
theorem mi_End_mono {p : Program} {l : Launch} {e : Env} {R : Room} {s : State} {m : MethodId} {args : Array Value} {below : List Frame} {meth : Method} {c : Code} {Q : State → Prop} {M : mi_M} {cn : Nat → Nat} {ids : Nat → ClassId} {D : va_G} {A : Nat → Prop} {ad ad' : List Nat} {r : mi_Z} (hle : mi_le ad ad') (h : mi_End p l e R s m args below meth c Q M cn ids D A ad r) : mi_End p l e R s m args below meth c Q M cn ids D A ad' r := by
  obtain ⟨r1, r2⟩ := r
  cases r1 with
  | inl v => exact fun H' locs' ad1 pc' ls' sw' i st' hle1 => h H' locs' ad1 pc' ls' sw' i st' (mi_le_tr hle hle1)
  | inr x =>
    obtain ⟨Qc, XC, free, h1, h2, h3⟩ := h
    exact ⟨Qc, XC, free, h1, h2, fun t ad1 hle1 => h3 t ad1 (mi_le_tr hle hle1)⟩
/-- a run is the machine's: for runs of n instructions -/
def mi_S (X : mi_X) (n : Nat) : Prop := ∀ (d : Nat) (M : mi_M) (pc : Nat) (la : mi_L) (st : List Value) (h : mi_H) (cells slots : Nat) (r : mi_Z), mi_mok M = true → mi_run X n d M pc la st h cells slots = some r → (cells ≤ r.2.2.1 ∧ slots ≤ r.2.2.2) ∧
  ∀ (p : Program) (l : Launch) (e : Env) (R : Room) (s : State) (m : MethodId) (args : Array Value) (below : List Frame) (meth : Method) (c : Code) (H : Heap) (locs : List Loc) (Q : State → Prop) (cn : Nat → Nat) (ids : Nat → ClassId) (D : va_G) (A : Nat → Prop) (sz0 : Nat) (ad : List Nat) (lv : mi_L) (sw : List Value) (ls : Array Slot),
    mi_Fr p l R s m args meth c M d X cn ids D A sz0 → r.2.2.1 ≤ R.cells → r.2.2.2 ≤ R.slots → lv_has ls (mi_nL M) lv → mi_rn ad cn la lv → mi_Wd D ids cn A s ad h H locs → mi_rl ad cn st sw → mi_End p l e R s m args below meth c Q M cn ids D A ad r →
    W p l e R s m args below meth c H locs cells slots Q (F0 m pc ls sw)
section MIM
variable {l : Launch} {d sz0 sz : Nat} {h h' : mi_H} {ad : List Nat} {cn : Nat → Nat} {ids : Nat → ClassId} {D : va_G} {X : mi_X} {M : mi_M} {av aw : List Value}
theorem mi_FrOf {p : Program} {e : Env} {s s₁ : State} {m : MethodId} {args : Array Value} {below : List Frame} {meth : Method} {c : Code} {rm : Room} (hM : M ∈ mi_mt) (hst : l.stackTraces = false) (hrf : d ≤ rm.frames) (hrl : 40 * d ≤ rm.locals)
    (B : BodyLoose p l (mi_y M) (headSpec (mi_Ws M) rm) (mi_bt M) (mi_nL M) (mi_rt M) e s m args below meth c s₁) (hml : c.maxLocals = mi_nL M) (htab : c.exceptionTable.toList = tableOf (mi_hd M)) (hv : mi_Pc X cn ids D sz0 ad h sz aw args s) : mi_Fr p l (headSpec (mi_Ws M) rm).room s m args meth c M d X cn ids D (mi_Af ad sz) sz0 := by
  obtain ⟨k1, k2, k3, k4, k5, k6, k7, k8, -⟩ := mi_mok_spec (mi_ok hM)
  obtain ⟨-, hsz, hz0, had, hGl, -⟩ := hv
  have hown := findClass_of_methodNamed B.named
  rw [k5] at hown
  refine ⟨⟨B.exec, B.bytes, B.returns, hml, B.notSynchronized, fun q => (name_of_methodNamed B.named B.method).1.trans (k8 q), fun _ => htab, hown⟩, fun w hw => atoms_spec (ws := mi_Ws M) B.pre w (List.mem_cons_of_mem _ hw), fun q hq => Or.inr (by omega), fun q hq => ?_, by omega, hGl, hrf, hrl, hst⟩
  rcases hq with hq | hq
  · exact had q hq
  · omega
set_option maxRecDepth 100000 in
theorem mi_k3 : ∀ M ∈ mi_mt, (¬ mi_kd M = 3) ∨ plainName (mi_y M).cls = true := by decide +kernel
theorem mi_W0 {n : Nat} (ih : mi_S X n) {p : Program} {e : Env} {s : State} {m : MethodId} {args : Array Value} {below : List Frame} {meth : Method} {c : Code} {R : Room} {Q : State → Prop} (hM : M ∈ mi_mt) (F : mi_Fr p l R s m args meth c M d X cn ids D (mi_Af ad sz) sz0) (hv : mi_Pc X cn ids D sz0 ad h sz aw args s)
    {r : mi_Z} (hrun : mi_run X n d M 0 (lv_args 0 av) [] h 0 0 = some r) (hargs : mi_rl ad cn av aw) (hcat : mi_cat av ≤ mi_nL M) (hc : r.2.2.1 ≤ R.cells) (hs : r.2.2.2 ≤ R.slots) (hend : mi_End p l e R s m args below meth c Q M cn ids D (mi_Af ad sz) ad r) : W p l e R s m args below meth c s.heap [] 0 0 Q (entryFrame m args (mi_nL M)) := by
  obtain ⟨hav, -, -, -, -, hWc⟩ := hv
  subst hav
  rw [lg_entry_eq]
  have hl := lv_entry aw (n := mi_nL M) (by rw [mi_sl_len, mi_rl_cat hargs]; exact hcat)
  exact (ih d M 0 _ [] h 0 0 r (mi_ok hM) hrun).2 p l e R s m _ below meth c s.heap [] Q cn ids D _ sz0 ad _ [] _ F hc hs hl (mi_args_r 0 hargs) (mi_Wd_of hWc (fun a ha => Or.inl ha) va_S.rf) rfl hend
theorem mi_met {n : Nat} (ih : mi_S X n) (hM : M ∈ mi_mt) (hst : l.stackTraces = false) {v : Option Value} {mc ms : Nat} (hrun : mi_run X n d M 0 (lv_args 0 av) [] h 0 0 = some (.inl v, h', mc, ms)) (hargs : mi_rl ad cn av aw) (hcat : mi_cat av ≤ mi_nL M) :
    Met l (mi_y M) (mi_Ws M) { frames := d, cells := mc, slots := ms, locals := 40 * d } (mi_Pc X cn ids D sz0 ad h sz aw) (mi_Qn cn ids D ad sz v h') mc ms (mi_Af ad sz) := by
  have hpl := (mi_mok_spec (mi_ok hM)).1
  have hkd := (mi_mok_spec (mi_ok hM)).2.2.2.2.2.2.2.2.2.2
  have body : ∀ (p : Program) (e : Env) (s : State) (m : MethodId) (args : Array Value) (below : List Frame) (meth : Method) (c : Code) (s₁ : State), BodyLoose p l (mi_y M) (headSpec (mi_Ws M) { frames := d, cells := mc, slots := ms, locals := 40 * d }) (mi_bt M) (mi_nL M) (mi_rt M) e s m args below meth c s₁ → c.maxLocals = mi_nL M → c.exceptionTable.toList = tableOf (mi_hd M) → mi_Pc X cn ids D sz0 ad h sz aw args s →
      W p l e (headSpec (mi_Ws M) { frames := d, cells := mc, slots := ms, locals := 40 * d }).room s m args below meth c s.heap [] 0 0 (MQ below (mi_Qn cn ids D ad sz v h') args s mc ms (mi_Af ad sz)) (entryFrame m args (mi_nL M)) := by
    intro p e s m args below meth c s₁ B hml htab hv
    have F := mi_FrOf (d := d) hM hst (Nat.le_refl _) (Nat.le_refl _) B hml htab hv
    refine mi_W0 ih hM F hv hrun hargs hcat (Nat.le_refl _) (Nat.le_refl _) ?_
    intro H' locs' ad' pc' ls' sw' i st' hle hd hr hs hw
    obtain ⟨hWc, hin, hS⟩ := mi_Wc_of hw
    exact mi_retQ_ok F hd hr hs (fun w t hw1 ht hW => ⟨⟨ad', w, hle, rfl, hw1, by rw [ht]; exact hWc, hin⟩, hS.F ht⟩) hS.2.2
  by_cases hk : mi_kd M = 3
  · refine va_MetW (hh := mi_hd M) (cc := mi_bt M) (maxL := mi_nL M) (ret := mi_rt M) (ws' := mi_need) ((mi_k3 M hM).resolve_left (fun q => q hk)) (by unfold mi_Ws mi_hw; rw [if_pos hk]) ?_
    intro p e s m args below meth c s₁ B hml hv
    have hcw : (Cond.codeWith (mi_y M) (mi_bt M) (mi_nL M) (mi_rt M) (mi_hd M)).before args s = true := by
      have h1 := atoms_spec (ws := mi_Ws M) B.pre (mi_hw M) List.mem_cons_self
      unfold mi_hw at h1
      rw [if_pos hk] at h1
      exact h1
    exact body p e s m args below meth c s₁ B hml (vx_table (x := mi_y M) B hcw) hv
  · refine va_MetF (cc := mi_bt M) (maxL := mi_nL M) (ret := mi_rt M) (ws' := mi_need) hpl (by unfold mi_Ws mi_hw; rw [if_neg hk]) ?_
    intro p e s m args below meth c s₁ B hml hv
    have hcw : (Cond.code (mi_y M) (mi_bt M) (mi_nL M) (mi_rt M)).before args s = true := by
      have h1 := atoms_spec (ws := mi_Ws M) B.pre (mi_hw M) List.mem_cons_self
      unfold mi_hw at h1
      rw [if_neg hk] at h1
      exact h1
    have ht : c.exceptionTable.toList = tableOf (mi_hd M) := by
      obtain ⟨meth9, c9, h1, h2, -, -, -, -, h7, -⟩ := Cond.code_spec B.named hcw
      cases Option.some.inj (h1.symm.trans B.method)
      cases Option.some.inj (h2.symm.trans (Stand.of_body B).code)
      rw [Array.isEmpty_iff.mp h7, hkd.resolve_left hk]
      rfl
    exact body p e s m args below meth c s₁ B hml ht hv
end MIM
end
section
/-! ===== the calls themselves ===== -/
section MIX
variable {l : Launch} {d sz0 sz : Nat} {h h' : mi_H} {ad : List Nat} {cn : Nat → Nat} {ids : Nat → ClassId} {D : va_G} {X : mi_X} {M : mi_M} {av aw : List Value}
theorem mi_metx {n : Nat} (ih : mi_S X n) (hM : M ∈ mi_mt) (hst : l.stackTraces = false) (hk : mi_kd M = 1) {x : Nat} {mc ms : Nat} (hrun : mi_run X n d M 0 (lv_args 0 av) [] h 0 0 = some (.inr x, h', mc, ms)) (hargs : mi_rl ad cn av aw) (hcat : mi_cat av ≤ mi_nL M) :
    vx_Met l (mi_y M) (mi_Ws M) { frames := d, cells := mc, slots := ms, locals := 40 * d } (mi_Pc X cn ids D sz0 ad h sz aw) (fun _ _ _ _ => False) (mi_Qx cn ids D ad sz x h') mc ms (mi_Af ad sz) := by
  have hpl := (mi_mok_spec (mi_ok hM)).1
  have hkd := (mi_mok_spec (mi_ok hM)).2.2.2.2.2.2.2.2.2.2
  have hk3 : ¬ mi_kd M = 3 := by omega
  refine vx_ofW (cc := mi_bt M) (maxL := mi_nL M) (ret := mi_rt M) (ws' := mi_need) hpl (by unfold mi_Ws mi_hw; rw [if_neg hk3]) ?_
  intro p e s m args below meth c s₁ B hml htab hv
  have ht : c.exceptionTable.toList = tableOf (mi_hd M) := by
    rw [List.eq_nil_iff_forall_not_mem.mpr (fun a ha => htab a ha), hkd.resolve_left hk3]
    rfl
  have F := mi_FrOf (d := d) hM hst (Nat.le_refl _) (Nat.le_refl _) B hml ht hv
  refine mi_W0 ih hM F hv hrun hargs hcat (Nat.le_refl _) (Nat.le_refl _) ?_
  exact ⟨fun _ _ _ _ => False, mi_Qx cn ids D ad sz x h', mi_Af ad sz, rfl, fun _ hq => hq, fun t ad' hle hWc hin hF => ⟨rfl, ⟨ad', hle, hWc, hin⟩, hF⟩⟩
end MIX
theorem mi_mw1 {M : mi_M} (hM : M ∈ mi_mt) (hk : mi_kd M = 1) : Cond.instanceMethod (mi_y M) ∈ mi_need ∧ Cond.selects (mi_y M).cls (mi_y M) (mi_y M) ∈ mi_need ∧ Cond.initialized (mi_y M).cls ∈ mi_need := by
  have hn : ¬ (mi_kd M = 0 ∨ mi_kd M = 3) := by omega
  refine ⟨mi_in1 hM ?_, mi_in1 hM ?_, mi_in1 hM ?_⟩ <;> unfold mi_mw <;> rw [if_neg hn, if_pos hk] <;> simp
theorem mi_mw2 {M : mi_M} (hM : M ∈ mi_mt) (hk : mi_kd M = 2) : Cond.instanceMethod (mi_y M) ∈ mi_need ∧ Cond.initialized (mi_y M).cls ∈ mi_need := by
  have hn : ¬ (mi_kd M = 0 ∨ mi_kd M = 3) := by omega
  have hn1 : ¬ mi_kd M = 1 := by omega
  refine ⟨mi_in1 hM ?_, mi_in1 hM ?_⟩ <;> unfold mi_mw <;> rw [if_neg hn, if_neg hn1] <;> simp
theorem mi_mw0 {M : mi_M} (hM : M ∈ mi_mt) (hk : mi_kd M = 0 ∨ mi_kd M = 3) : Cond.static (mi_y M) ∈ mi_need ∧ Cond.initialized (mi_y M).cls ∈ mi_need := by
  have hn1 : ¬ mi_kd M = 1 := by omega
  refine ⟨mi_in1 hM ?_, mi_in1 hM ?_⟩ <;> unfold mi_mw <;> rw [if_pos hk, if_neg hn1] <;> simp
theorem mi_gG {w : Cond} {ws : List Cond} (h1 : w ∈ mi_need) (h2 : GoodIn mi_need ws) : GoodIn mi_need (w :: ws) := fun x hx => by
  rcases List.mem_cons.mp hx with rfl | hx
  · exact ⟨h1, (mi_gn _ h1).2⟩
  · exact h2 x hx
section MIY
variable {p : Program} {l : Launch} {e : Env} {R : Room} {s : State} {m : MethodId} {args : Array Value} {below : List Frame} {meth : Method} {c : Code} {H : Heap} {locs : List Loc} {cells slots : Nat} {Q : State → Prop}
variable {pc d sz0 : Nat} {st : List Value} {h h' : mi_H} {ad : List Nat} {cn : Nat → Nat} {ids : Nat → ClassId} {D : va_G} {A : Nat → Prop} {sw : List Value} {ls : Array Slot} {X : mi_X} {M M' : mi_M}
theorem mi_pre (F : mi_Fr p l R s m args meth c M d X cn ids D A sz0) (hw : mi_Wd D ids cn A s ad h H locs) (aw : List Value) : ∀ U : State, U.heap = H → s.WarmedH U.vm → mi_Pc X cn ids D sz0 ad h H.size aw aw.toArray U := by
  obtain ⟨-, -, -, hA0, hz0, hGl, -⟩ := F
  obtain ⟨hWc, hin, hS⟩ := mi_Wc_of hw
  intro U hU hW
  refine ⟨rfl, by rw [hU], Nat.le_trans hz0 hS.1, fun a ha => hA0 a (hin a ha), mi_Gl_next hW (by rw [hU]; exact hS.1) (fun a ha hn => by rw [hU]; exact hS.2.1 a ha (fun q => hn (hA0 a q))) hGl, by rw [hU]; exact hWc⟩
theorem mi_Af_A (F : mi_Fr p l R s m args meth c M d X cn ids D A sz0) (hw : mi_Wd D ids cn A s ad h H locs) : ∀ q, mi_Af ad H.size q → A q := by
  obtain ⟨-, -, hA, -⟩ := F
  obtain ⟨-, hin, hS⟩ := mi_Wc_of hw
  intro q hq
  rcases hq with hq | hq
  · exact hin q hq
  · exact hA q (Nat.le_trans hS.1 hq)
/-- the receiver's class is the method's -/
theorem mi_recv (F : mi_Fr p l R s m args meth c M d X cn ids D A sz0) (hw : mi_Wd D ids cn A s ad h H locs) {v b : Value} {ow : Nat} (hv : mi_rv ad cn v b) (hr : mi_rc h v ow = true) : ∃ a : Nat, b = .ref a ∧ ∃ cellB : Cell, H[a]? = some cellB ∧ cellB.vm.isStatics = false ∧ s.vm.findClass (mi_on ow) = some cellB.cls := by
  obtain ⟨-, -, -, hA0, -, hGl, -⟩ := F
  obtain ⟨ws, hrw, hP, hD, hS⟩ := hw
  unfold mi_rc at hr
  split at hr
  next k =>
    obtain ⟨a, ha, rfl⟩ := hv
    split at hr
    next x hx =>
      obtain ⟨a', e', g1, g2, gs, rfl, g4⟩ := hrw.2.2 _ _ hx
      cases g1.symm.trans ha
      obtain ⟨q, hq, -⟩ := hP k _ g2
      have hq' : mi_cl[x.1]? = some q := hq
      have hx1 : x.1 = ow := beq_iff_eq.mp hr
      obtain ⟨cell, c1, c2, c3⟩ := va_recv hGl.1 hP hq' g2
      rw [(mi_clok hq').2.2.2.2, hx1] at c3
      exact ⟨_, rfl, cell, c1, c2, c3⟩
    next => cases hr
  next k =>
    have hv' : b = .ref (cn k) := hv
    subst hv'
    simp only [Bool.and_eq_true, beq_iff_eq, decide_eq_true_eq] at hr
    obtain ⟨hk, hkn, rfl⟩ := hr
    have hG : mi_Gc X cn A s s.heap := mi_Gc_nar hA0 hGl.2.1
    obtain ⟨g1, -⟩ := hG.1 (k / 4) hkn
    rw [show 4 * (k / 4) = k by omega] at g1
    obtain ⟨cell, c1, c2, c3, -⟩ := g1.kept hS.2.1
    exact ⟨_, rfl, cell, c1, c2, c3⟩
  next => cases hr
/-- what the machine wants of a call that is found by its link -/
theorem mi_cB (hM : mi_mok M = true) (F : mi_Fr p l R s m args meth c M (d + 1) X cn ids D A sz0) (hM' : M' ∈ mi_mt) (hk3 : ¬ mi_kd M' = 3) {idx : Nat} (hl : Cond.methodLink (mi_on (mi_ow M)) idx (mi_y M') ∈ mi_need) (hini : Cond.initialized (mi_y M').cls ∈ mi_need) (mc ms : Nat) :
    CallB R s args (mi_on (mi_ow M)) idx (mi_y M') (mi_bt M') (mi_nL M') (mi_rt M') (mi_Ws M') { frames := d, cells := mc, slots := ms, locals := 40 * d } mc ms (mi_np M') := by
  obtain ⟨-, hts, -, -, -, -, hRf, hRl, -⟩ := F
  obtain ⟨k1, k2, k3, k4, k5, k6, k7, k8, -⟩ := mi_mok_spec (mi_ok hM')
  refine callB_of (ws' := mi_need) (mi_np M') hts (mi_gW hM') (by unfold mi_Ws mi_hw; rw [if_neg hk3]) rfl rfl (hts _ hini) (hts _ hl) ⟨k2, k3, k4⟩ ⟨hRf, ?_⟩
  show 8 + (mi_nL M' + 11) + 40 * d ≤ R.locals
  omega
theorem mi_fix (F : mi_Fr p l R s m args meth c M d X cn ids D A sz0) : CallFix p m c (mi_bt M) (mi_nL M) s args mi_need (mi_on (mi_ow M)) := ⟨F.1.1, F.1.2.1, F.1.2.2.2.1, F.1.2.2.2.2.2.2.2, F.2.1⟩
theorem mi_room {st : List Value} (hr : mi_rl ad cn st sw) (hc : mi_cat st ≤ 8) {g : JFrame} (hg : g.monitorRoom = 0) : 2 * g.monitorRoom + (sw.map fun v => v.category).sum ≤ 8 := by
  rw [hg, mi_rl_cat hr]
  omega
set_option maxHeartbeats 1000000 in
theorem mi_call_ok {n : Nat} (ih : mi_S X n) (hM : mi_mok M = true) (F : mi_Fr p l R s m args meth c M (d + 1) X cn ids D A sz0) {i : Instr} (hd : decode (mi_bt M) pc = .ok (i, 3)) (hls : ls.size = mi_nL M) {av rest : List Value} (hc : mi_cal M i st h = some (M', av, rest)) (hcat : mi_cat av ≤ mi_nL M') {v : Option Value} {mc ms : Nat}
    (hrun : mi_run X n d M' 0 (lv_args 0 av) [] h 0 0 = some (.inl v, h', mc, ms)) (hRc : cells + mc ≤ R.cells) (hRs : slots + ms ≤ R.slots) (hw : mi_Wd D ids cn A s ad h H locs) (hs : mi_rl ad cn st sw)
    (kk : mi_KH p l e R s m args below meth c Q D ids cn A ls ad (pc + 3) (v.toList ++ rest) h' (cells + mc) (slots + ms)) : W p l e R s m args below meth c H locs cells slots Q (F0 m pc ls sw) := by
  have ho := (mi_mok_spec hM).2.2.2.2.2.1
  have hst : l.stackTraces = false := F.2.2.2.2.2.2.2.2
  have hS := (mi_Wc_of hw).2.2
  have hAf := mi_Af_A F hw
  unfold mi_cal at hc
  split at hc
  next idx =>
    split at hc
    next k hk =>
      split at hc
      next M9 hM9 =>
        split at hc
        next hcond =>
          cases hc
          obtain ⟨hk1, hlt, hct, hrc⟩ := hcond
          have hMm : M' ∈ mi_mt := List.mem_of_getElem? hM9
          obtain ⟨As, b, rw', rfl, hAs, hb, hav, hre⟩ := mi_split _ hs hlt
          obtain ⟨a, rfl, hcell⟩ := mi_recv F hw hb hrc
          obtain ⟨i1, i2, i3⟩ := mi_mw1 hMm hk1
          have hcls : mi_on (mi_ow M') = (mi_y M').cls := (mi_mok_spec (mi_ok hMm)).2.2.2.2.1.symm
          rw [hcls] at hcell
          refine mi_callm (va_runV (mi_fix F) (mi_met (sz := H.size) ih hMm hst hrun hav hcat) ⟨mi_cB hM F hMm (by omega) (mi_ml_in ho hk hM9) i3 mc ms, F.2.1 _ i1, F.2.1 _ i2⟩ ⟨mi_Pc_blind, hcell, mi_pre F hw _⟩ rfl hAs hls rfl (mi_room hre hct rfl) hd ⟨hRc, hRs⟩) hS hAf hAf ?_
          exact fun w ad' H1 locs1 hle hv hw1 => kk _ _ _ _ hle hw1 (mi_rvo_st hv (mi_rl_mono hle hre))
        next => cases hc
      next => cases hc
    next => cases hc
  next idx =>
    split at hc
    next k hk =>
      split at hc
      next M9 hM9 =>
        split at hc
        next hcond =>
          cases hc
          obtain ⟨hk1, hlt, hct⟩ := hcond
          have hMm : M' ∈ mi_mt := List.mem_of_getElem? hM9
          obtain ⟨As, rw', rfl, hAs, hav, hre⟩ := mi_splitS _ hs hlt
          obtain ⟨i1, i3⟩ := mi_mw0 hMm hk1
          have fin : ∀ (w : Option Value) (ad' : List Nat) (H1 : Heap) (locs1 : List Loc), mi_le ad ad' → mi_rvo ad' cn v w → mi_Wd D ids cn A s ad' h' H1 locs1 → W p l e R s m args below meth c H1 locs1 (cells + mc) (slots + ms) Q (F0 m (pc + 3) ls (w.toList ++ rw')) :=
            fun w ad' H1 locs1 hle hv hw1 => kk _ _ _ _ hle hw1 (mi_rvo_st hv (mi_rl_mono hle hre))
          by_cases hk3 : mi_kd M' = 3
          · obtain ⟨k1, k2, k3, k4, k5, k6, k7, k8, -⟩ := mi_mok_spec (mi_ok hMm)
            have hRf : d + 1 ≤ R.frames := F.2.2.2.2.2.2.1
            have hRl : 40 * (d + 1) ≤ R.locals := F.2.2.2.2.2.2.2.1
            have cw : vx_CSW R s args (mi_on (mi_ow M)) idx (mi_y M') (mi_bt M') (mi_nL M') (mi_rt M') (mi_hd M') (mi_Ws M') { frames := d, cells := mc, slots := ms, locals := 40 * d } mc ms (mi_np M') :=
              vx_cwSW (ws' := mi_need) (mi_np M') F.2.1 (mi_gG (mi_ml_in ho hk hM9) (mi_gG i1 (mi_gG i3 (mi_gW hMm)))) (by unfold mi_Ws mi_hw; rw [if_pos hk3]) rfl rfl ⟨k2, k3, k4⟩ ⟨hRf, by show 8 + (mi_nL M' + 11) + 40 * d ≤ R.locals; omega⟩
            exact mi_callm (vx_runSW (mi_fix F) (mi_met (sz := H.size) ih hMm hst hrun hav hcat) cw ⟨mi_Pc_blind, mi_pre F hw _⟩ rfl hAs hls rfl (mi_room hre hct rfl) hd ⟨hRc, hRs⟩) hS hAf hAf fin
          · exact mi_callm (va_runS (mi_fix F) (mi_met (sz := H.size) ih hMm hst hrun hav hcat) ⟨mi_cB hM F hMm hk3 (mi_ml_in ho hk hM9) i3 mc ms, F.2.1 _ i1⟩ ⟨mi_Pc_blind, mi_pre F hw _⟩ rfl hAs hls rfl (mi_room hre hct rfl) hd ⟨hRc, hRs⟩) hS hAf hAf fin
        next => cases hc
      next => cases hc
    next => cases hc
  next idx =>
    split at hc
    next k hk =>
      split at hc
      next M9 hM9 =>
        split at hc
        next hcond =>
          cases hc
          obtain ⟨hk1, hrt, hlt, hct, hrc⟩ := hcond
          have hMm : M' ∈ mi_mt := List.mem_of_getElem? hM9
          obtain ⟨As, b, rw', rfl, hAs, hb, hav, hre⟩ := mi_split _ hs hlt
          obtain ⟨k1, k2, k3, k4, k5, k6, k7, k8, -⟩ := mi_mok_spec (mi_ok hMm)
          have hRf : d + 1 ≤ R.frames := F.2.2.2.2.2.2.1
          have hRl : 40 * (d + 1) ≤ R.locals := F.2.2.2.2.2.2.2.1
          obtain ⟨i1, i3⟩ := mi_mw2 hMm hk1
          have hbr : ∃ a : Nat, b = .ref a := by
            generalize st.getD (mi_np M') .null = v0 at hb hrc
            cases v0 <;> first | (exact absurd hrc Bool.false_ne_true) | (obtain ⟨a, -, e⟩ := hb; exact ⟨a, e⟩)
          obtain ⟨a, rfl⟩ := hbr
          have hk3 : ¬ mi_kd M' = 3 := by omega
          have fin : ∀ (w : Option Value) (ad' : List Nat) (H1 : Heap) (locs1 : List Loc), mi_le ad ad' → mi_rvo ad' cn v w → mi_Wd D ids cn A s ad' h' H1 locs1 → W p l e R s m args below meth c H1 locs1 (cells + mc) (slots + ms) Q (F0 m (pc + 3) ls (w.toList ++ rw')) :=
            fun w ad' H1 locs1 hle hv hw1 => kk _ _ _ _ hle hw1 (mi_rvo_st hv (mi_rl_mono hle hre))
          have hmet := mi_met (sz0 := sz0) (ids := ids) (D := D) (sz := H.size) ih hMm hst hrun hav hcat
          split at hk
          next k' hk' =>
            cases hk
            have hB := mi_cB hM F hMm hk3 (mi_ml_in ho hk' hM9) i3 mc ms
            rw [hrt] at hB
            exact mi_callm (va_runI (mi_fix F) hmet ⟨hB, k8 hk1, F.2.1 _ i1⟩ ⟨mi_Pc_blind, mi_pre F hw _⟩ rfl hAs hls rfl (mi_room hre hct rfl) hd ⟨hRc, hRs⟩) hS hAf hAf fin
          next =>
            have hbad := F.2.2.2.2.2.1.2.2.2.1 _ (mi_nm_in ho hk hM9)
            have cw : va_CN R s args (mi_on (mi_ow M)) idx (mi_y M') "TypeLoom" (mi_bt M') (mi_nL M') none (mi_Ws M') { frames := d, cells := mc, slots := ms, locals := 40 * d } mc ms (mi_np M') :=
              va_cnB (ws' := mi_need) (mi_np M') F.2.1 (mi_gW hMm) (by unfold mi_Ws mi_hw; rw [if_neg hk3, hrt]) rfl rfl hbad (F.2.1 _ i3) ⟨k2, k3, k4⟩ ⟨hRf, by show 8 + (mi_nL M' + 11) + 40 * d ≤ R.locals; omega⟩
            exact mi_callm (va_runIN (mi_fix F) hmet ⟨cw, k8 hk1, F.2.1 _ i1⟩ ⟨mi_Pc_blind, mi_pre F hw _⟩ rfl hAs hls rfl (mi_room hre hct rfl) hd ⟨hRc, hRs⟩) hS hAf hAf fin
        next => cases hc
      next => cases hc
    next => cases hc
  next => cases hc
end MIY
end
section
/-! ===== exceptions; and that a run is the machine's ===== -/
theorem mi_xs_ot : ∀ q ∈ mi_xs, (vx_atS "TypeLoom" q.2 (mi_xn q.1) mi_xc).all vx_ot = true := by decide +kernel
theorem mi_xfit : ∀ x, x < 3 → Bundle.fit (mi_xn x) = true := by decide +kernel
theorem mi_xcfit : ∀ n ∈ mi_xc, Bundle.fit n = true := by decide +kernel
theorem mi_xs_all : ∀ x, x < 3 → ∃ q ∈ mi_xs, q.1 = x := by decide +kernel
theorem mi_xl_ok : ∀ o, o < mi_no → ∀ x ∈ mi_xl o, x.1 ≠ 0 ∧ x.2 < 3 := by decide +kernel
theorem mi_xl_in {o idx x : Nat} (ho : o < mi_no) (hf : mi_lk (mi_xl o) idx = some x) : Cond.classLink (mi_on o) idx (mi_xn x) ∈ mi_need :=
  mi_in2 ho (List.mem_append_right _ (List.mem_append_right _ (List.mem_append_right _ (List.mem_append_left _ (List.mem_map.mpr ⟨_, mi_lk_mem hf, rfl⟩)))))
theorem mi_xini {x : Nat} (h : x < 3) : Cond.initialized (mi_xn x) ∈ mi_need := by
  match x, h with
  | 0, _ => exact mi_in3 (List.mem_of_getElem? (i := 6) rfl)
  | 1, _ => exact mi_in3 (List.mem_of_getElem? (i := 7) rfl)
  | 2, _ => exact mi_in3 (List.mem_of_getElem? (i := 8) rfl)
theorem mi_fnd_ok {pc : Nat} {q : Nat × Nat × Nat × Nat} : ∀ {l : List (Nat × Nat × Nat × Nat)}, mi_fnd l pc = some q → ∃ (as bs : List (Nat × Nat × Nat × Nat)), l = as ++ q :: bs ∧ (decide (q.1 ≤ pc) && decide (pc < q.2.1)) = true ∧ ∀ a ∈ as, (decide (a.1 ≤ pc) && decide (pc < a.2.1)) = false
  | [], h => by cases h
  | z :: l, h => by
    unfold mi_fnd at h
    cases hz : (decide (z.1 ≤ pc) && decide (pc < z.2.1)) with
    | true =>
      rw [if_pos hz] at h
      cases h
      exact ⟨[], l, rfl, hz, fun _ ha => nomatch ha⟩
    | false =>
      rw [if_neg (by rw [hz]; exact Bool.false_ne_true)] at h
      obtain ⟨as, bs, h1, h2, h3⟩ := mi_fnd_ok h
      refine ⟨z :: as, bs, by rw [h1]; rfl, h2, fun a ha => ?_⟩
      rcases List.mem_cons.mp ha with rfl | ha
      · exact hz
      · exact h3 a ha
section MIT
variable {p : Program} {l : Launch} {e : Env} {R : Room} {s : State} {m : MethodId} {args : Array Value} {below : List Frame} {meth : Method} {c : Code} {H : Heap} {locs : List Loc} {cells slots : Nat} {Q : State → Prop}
variable {pc d sz0 : Nat} {st : List Value} {h h' : mi_H} {ad : List Nat} {cn : Nat → Nat} {ids : Nat → ClassId} {D : va_G} {A : Nat → Prop} {sw : List Value} {ls : Array Slot} {X : mi_X} {M M' : mi_M}
theorem mi_hat (F : mi_Fr p l R s m args meth c M d X cn ids D A sz0) {q : Nat × Nat} (hq : q ∈ mi_xs) : ∀ w ∈ vx_atS "TypeLoom" q.2 (mi_xn q.1) mi_xc, w.before args s = true := by
  intro w hw
  have hbad := F.2.2.2.2.2.1.2.2.2.1
  cases hg : goodWord w with
  | true => exact F.2.1 w (mi_in4 (List.mem_flatMap.mpr ⟨q, hq, List.mem_filter.mpr ⟨hw, hg⟩⟩))
  | false =>
    have hb : w ∈ mi_bad := List.mem_append_right _ (List.mem_flatMap.mpr ⟨q, hq, List.mem_filter.mpr ⟨hw, by rw [hg]; rfl⟩⟩)
    exact va_Nw.use (mi_bw_on (mi_bad_bw w hb)) (hbad w hb)
theorem mi_throw_ok (hM : mi_mok M = true) (F : mi_Fr p l R s m args meth c M d X cn ids D A sz0) {t : Nat × Nat × Nat × Nat × Bool} (ht : mi_lk (mi_th M) pc = some t) (hd8 : 8 ≤ d) (hct : mi_cat st ≤ 8) (hls : ls.size = mi_nL M) (hRc : cells + 1 ≤ R.cells) (hRs : slots + 6 ≤ R.slots) (hw : mi_Wd D ids cn A s ad h H locs) (hs : mi_rl ad cn st sw)
    {Qc : Array Value → State → Outcome → State → Prop} {XC : String → State → State → Prop} {free : Addr → Prop} (hfree : ∀ q, A q → free q) (hXC : ∀ (t9 : State) (ad' : List Nat), mi_le ad ad' → mi_Wc D ids cn ad' h t9.heap → (∀ a ∈ ad', A a) → va_F A s t9 → XC (mi_xn t.1) s t9) :
    W p l e R s m args below meth c H locs cells slots (vx_MQ below Qc XC args s (cells + 1) (slots + 6) free) (F0 m pc ls sw) := by
  obtain ⟨k1, k2, k3, k4, k5, k6, k7, k8, k9, k10, k11⟩ := mi_mok_spec hM
  obtain ⟨t0, t3, t4, t6, t9, tc, tx, tk, tl, tlt, i, ti, -⟩ := k10 (pc, t) (mi_lk_mem ht)
  have hown := F.1.2.2.2.2.2.2.2
  have hcls : mi_on (mi_ow M) = "TypeLoom" := k5.symm.trans tc
  rw [hcls] at hown
  have hlink := F.2.1 _ (mi_xl_in k6 tl)
  rw [hcls] at hlink
  obtain ⟨tx9, hstr⟩ := mi_str k6 F.2.2.2.2.2.1.2.2.1 ti
  rw [hcls] at hstr
  have hot := mi_xs_ot _ tx
  have hA0 := F.2.2.2.1
  obtain ⟨-, -, -, -, hU, hN, -⟩ := F.2.2.2.2.2.1
  obtain ⟨ws, hrw, hP, hD, hS⟩ := hw
  have hRf := F.2.2.2.2.2.2.1
  have hRl := F.2.2.2.2.2.2.2.1
  have hcat := mi_rl_cat hs
  have hin : ∀ a ∈ ad, A a := (mi_Wc_of (show mi_Wd D ids cn A s ad h H locs from ⟨ws, hrw, hP, hD, hS⟩)).2.1
  refine vx_throwS (own := "TypeLoom") (cls := mi_xn t.1) (text := tx9) (names := mi_xc) (ik := t.2.1) (is := t.2.2.1) (ic := t.2.2.2.1) (sa := cn (4 * i)) (A := A) F.1.1 F.1.2.1 F.2.2.2.2.2.2.2.2 hown (mi_xfit _ tlt) mi_xcfit hlink (F.2.1 _ (mi_xini tlt)) hstr (mi_hat F tx) ?_ (hU.narrow hA0) (hN.narrow hA0) hS (hls.trans F.1.2.2.2.1.symm) t0 t3 t4 t6 t9 ?_ ?_ ?_ hRc hRs F.1.2.2.2.2.1 ?_ (fun z hz => hfree _ (hS.2.2 z hz)) (Nat.le_refl _) (Nat.le_refl _)
  · intro w hw
    rcases List.mem_cons.mp hw with rfl | hw
    · rfl
    · rcases List.mem_cons.mp hw with rfl | hw
      · rfl
      · exact List.all_eq_true.mp hot w hw
  · intro x hx
    rw [F.1.2.2.2.2.2.2.1 (by omega), k11.resolve_left (by omega)] at hx
    cases hx
  · show 2 + 3 < R.frames
    omega
  · show (sw.map fun v => v.category).sum + (13 * (2 + 1) + 43) ≤ R.locals
    omega
  · intro t9 hal hz hk
    refine hXC t9 ad (mi_le_rf _) ⟨ws, hrw, hP.kept (fun k q hq => hk q.1 ((hP k q hq).lt)), hD.1, fun _ _ _ => trivial⟩ hin ⟨Nat.le_trans hS.1 hz, fun q h1 h2 => (hk q (Nat.lt_of_lt_of_le h1 hS.1)).trans (hS.2.1 q h1 h2)⟩
theorem mi_callx_ok {n : Nat} (ih : mi_S X n) (hM : mi_mok M = true) (F : mi_Fr p l R s m args meth c M (d + 1) X cn ids D A sz0) {i : Instr} (hd : decode (mi_bt M) pc = .ok (i, 3)) (hls : ls.size = mi_nL M) {av rest : List Value} (hc : mi_cal M i st h = some (M', av, rest)) (hcat : mi_cat av ≤ mi_nL M') {x p' : Nat} {mc ms : Nat} (hk1 : mi_kd M' = 1) (hhnd : mi_hnd M pc x = some p')
    (hrun : mi_run X n d M' 0 (lv_args 0 av) [] h 0 0 = some (.inr x, h', mc, ms)) (hRc : cells + mc ≤ R.cells) (hRs : slots + ms ≤ R.slots) (hw : mi_Wd D ids cn A s ad h H locs) (hs : mi_rl ad cn st sw)
    (kk : mi_KH p l e R s m args below meth c Q D ids cn A ls ad p' [.float 0] h' (cells + mc) (slots + ms)) : W p l e R s m args below meth c H locs cells slots Q (F0 m pc ls sw) := by
  have ho := (mi_mok_spec hM).2.2.2.2.2.1
  have hst : l.stackTraces = false := F.2.2.2.2.2.2.2.2
  have hS := (mi_Wc_of hw).2.2
  have hAf := mi_Af_A F hw
  unfold mi_cal at hc
  split at hc
  next idx =>
    split at hc
    next k hk =>
      split at hc
      next M9 hM9 =>
        split at hc
        next hcond =>
          cases hc
          obtain ⟨-, hlt, hct, hrc⟩ := hcond
          have hMm : M' ∈ mi_mt := List.mem_of_getElem? hM9
          obtain ⟨As, b, rw', rfl, hAs, hb, hav, hre⟩ := mi_split _ hs hlt
          obtain ⟨a, rfl, hcell⟩ := mi_recv F hw hb hrc
          obtain ⟨i1, i2, i3⟩ := mi_mw1 hMm hk1
          have hcls : mi_on (mi_ow M') = (mi_y M').cls := (mi_mok_spec (mi_ok hMm)).2.2.2.2.1.symm
          rw [hcls] at hcell
          have hr := vx_runV (e := e) (below := below) (meth := meth) (locs := locs) (rest := rw') (g := F0 m pc ls (As.reverse ++ .ref a :: rw')) (mi_fix F) (mi_metx (sz := H.size) (sz0 := sz0) (ids := ids) (D := D) ih hMm hst hk1 hrun hav hcat) ⟨mi_cB hM F hMm (by omega) (mi_ml_in ho hk hM9) i3 mc ms, F.2.1 _ i1, F.2.1 _ i2⟩ ⟨mi_Pc_blind, hcell, mi_pre F hw _⟩ rfl hAs hls rfl (mi_room hre hct rfl) hd ⟨hRc, hRs⟩
          intro T hT X'
          rcases hr T hT X' with ⟨v0, st₀, t, T', L, h0, X2, hL, e1, e2, hF, st2⟩ | ⟨q, st₀, t, T', L, E, ce, h0, X2, hL, e1, e2, ⟨hE, ⟨ad', hle, hWc, hin⟩, hFr⟩, hce, hcv, hcl, st2⟩
          · exact hF.elim
          · obtain ⟨j1, j2, j3⟩ := vx_keep h0 e1 hS (fun q _ hq => hAf q hq) hAf hL hFr
            subst hE
            unfold mi_hnd at hhnd
            split at hhnd
            next z hz =>
              split at hhnd
              next hzx =>
                cases hhnd
                obtain ⟨as, bs, hab, hcov, hpass⟩ := mi_fnd_ok hz
                have hxl := mi_xl_ok _ ho _ (mi_lk_mem hzx)
                obtain ⟨y, hy, hyx⟩ := mi_xs_all x hxl.2
                have hcast : (Cond.castable (mi_xn x) (mi_xn x)).before args s = true := by
                  refine mi_hat F hy _ ?_
                  rw [hyx]
                  exact List.mem_filter.mpr ⟨by simp [Bundle.ownAtoms], by simp [vx_no]⟩
                have hww : vx_W p l e R s m args below meth c T'.heap (locs ++ L) (cells + mc) (slots + ms) Q (F0 m pc ls rw') q := by
                  refine vx_catch (own := mi_on (mi_ow M)) (name := mi_xn x) (E := mi_xn x) (ce := ce) F.1.2.2.2.2.2.2.2 (tableOf as) ⟨z.1, z.2.1, z.2.2.1, z.2.2.2⟩ (tableOf bs) ?_ ?_ hcov hxl.1 (F.2.1 _ (mi_xl_in ho hzx)) hcast (by rw [e1]; exact hce) hcv hcl ?_
                  · have hk4 : mi_kd M ≠ 4 := by
                      rcases (mi_mok_spec hM).2.2.2.2.2.2.2.2.2.2 with hk9 | hk9
                      · omega
                      · rw [hk9] at hab
                        exact absurd (congrArg List.length hab) (by simp)
                    rw [F.1.2.2.2.2.2.2.1 hk4, hab]
                    simp [tableOf]
                  · intro y9 hy9
                    obtain ⟨a9, ha9, rfl⟩ := List.mem_map.mp hy9
                    exact Or.inl (hpass a9 ha9)
                  · exact kk _ _ ad' _ hle (mi_Wd_of (by rw [e1]; exact hWc) (fun a ha => hAf a (hin a ha)) j3) (mi_rl_c (v := .float 0) (Or.inr ⟨q, rfl⟩) rfl)
                obtain ⟨t2, a1, b1⟩ := hww T' rfl X2
                exact ⟨t2, st2.trans a1, b1⟩
              next => cases hhnd
            next => cases hhnd
        next => cases hc
      next => cases hc
    next => cases hc
  next idx =>
    exfalso
    split at hc
    next k hk =>
      split at hc
      next M9 hM9 =>
        split at hc
        next hcond => cases hc; omega
        next => cases hc
      next => cases hc
    next => cases hc
  next idx =>
    exfalso
    split at hc
    next k hk =>
      split at hc
      next M9 hM9 =>
        split at hc
        next hcond => cases hc; omega
        next => cases hc
      next => cases hc
    next => cases hc
  next => cases hc
end MIT
end
section
/-! ===== a run of the abstract machine is the machine's ===== -/
theorem mi_run_0 {X : mi_X} {d : Nat} {M : mi_M} {pc : Nat} {la : mi_L} {st : List Value} {h : mi_H} {c s : Nat} : mi_run X 0 d M pc la st h c s = none := rfl
theorem mi_dec {M : mi_M} (hM : mi_mok M = true) {pc len : Nat} {i : Instr} (hi : mi_lk (mi_cd M) pc = some (i, len)) : decode (mi_bt M) pc = .ok (i, len) :=
  (mi_mok_spec hM).2.2.2.2.2.2.2.2.1 (pc, (i, len)) (mi_lk_mem hi)
set_option maxHeartbeats 1000000 in
theorem mi_sound (X : mi_X) : ∀ n, mi_S X n
  | 0 => fun d M pc la st h cells slots r hM hrun => by
    rw [mi_run_0] at hrun
    cases hrun
  | n + 1 => fun d M pc la st h cells slots r hM hrun => by
    have ih := mi_sound X n
    unfold mi_run at hrun
    split at hrun
    next t ht =>
      split at hrun
      next hc =>
        cases hrun
        refine ⟨⟨Nat.le_add_right _ _, Nat.le_add_right _ _⟩, ?_⟩
        intro p l e R s m args below meth c H locs Q cn ids D A sz0 ad lv sw ls F hRc hRs hl hn hw hs hend
        obtain ⟨Qc, XC, free, rfl, hfree, hXC⟩ := hend
        exact mi_throw_ok hM F ht hc.1 hc.2 hl.1 hRc hRs hw hs hfree hXC
      next => cases hrun
    next =>
      split at hrun
      next => cases hrun
      next i len hi =>
        have hd : decode (mi_bt M) pc = .ok (i, len) := mi_dec hM hi
        split at hrun
        next pc' l' st' hp =>
          obtain ⟨hle, hW⟩ := ih d M pc' l' st' h cells slots r hM hrun
          refine ⟨hle, ?_⟩
          intro p l e R s m args below meth c H locs Q cn ids D A sz0 ad lv sw ls F hRc hRs hl hn hw hs hend
          exact mi_pure_ok F.1.1 F.1.2.1 hd hp hl hn hs (fun ls' lv' sw' hl' hn' hs' => hW p l e R s m args below meth c H locs Q cn ids D A sz0 ad lv' sw' ls' F hRc hRs hl' hn' hw hs' hend)
        next =>
          split at hrun
          next v hv =>
            split at hrun
            next hlen =>
              cases hrun
              subst hlen
              refine ⟨⟨Nat.le_refl _, Nat.le_refl _⟩, ?_⟩
              intro p l e R s m args below meth c H locs Q cn ids D A sz0 ad lv sw ls F hRc hRs hl hn hw hs hend
              exact hend H locs ad pc ls sw i st (mi_le_rf _) hd hv hs hw
            next => cases hrun
          next =>
            split at hrun
            next pc' st' h' c' s' hmem =>
              split at hmem
              next hlen =>
                obtain ⟨hle, hW⟩ := ih d M pc' la st' h' c' s' r hM hrun
                have hmo := mi_mem_le hmem
                refine ⟨⟨Nat.le_trans hmo.1 hle.1, Nat.le_trans hmo.2 hle.2⟩, ?_⟩
                intro p l e R s m args below meth c H locs Q cn ids D A sz0 ad lv sw ls F hRc hRs hl hn hw hs hend
                exact mi_mem_ok hM F hd hlen (Nat.le_trans hle.1 hRc) (Nat.le_trans hle.2 hRs) hmem hw hs (fun H' locs' ad' sw' hle' hw' hs' => hW p l e R s m args below meth c H' locs' Q cn ids D A sz0 ad' lv sw' ls F hRc hRs hl (mi_rn_mono hle' hn) hw' hs' (mi_End_mono hle' hend))
              next => cases hmem
            next =>
              split at hrun
              next hlen =>
                subst hlen
                split at hrun
                next => cases hrun
                next d' =>
                  split at hrun
                  next st' he =>
                    obtain ⟨hle, hW⟩ := ih (d' + 1) M (pc + 3) la st' h cells slots r hM hrun
                    refine ⟨hle, ?_⟩
                    intro p l e R s m args below meth c H locs Q cn ids D A sz0 ad lv sw ls F hRc hRs hl hn hw hs hend
                    exact mi_easy_ok hM F hd hl.1 (Nat.le_trans hle.1 hRc) (Nat.le_trans hle.2 hRs) he hw hs (fun H' locs' ad' sw' hle' hw' hs' => hW p l e R s m args below meth c H' locs' Q cn ids D A sz0 ad' lv sw' ls F hRc hRs hl (mi_rn_mono hle' hn) hw' hs' (mi_End_mono hle' hend))
                  next =>
                    split at hrun
                    next => cases hrun
                    next M' av rest hcal =>
                      split at hrun
                      next => cases hrun
                      next v h' c' s' hcr =>
                        split at hcr
                        next hcat =>
                          obtain ⟨hle, hW⟩ := ih (d' + 1) M (pc + 3) la (v.toList ++ rest) h' (cells + c') (slots + s') r hM hrun
                          refine ⟨⟨Nat.le_trans (Nat.le_add_right _ _) hle.1, Nat.le_trans (Nat.le_add_right _ _) hle.2⟩, ?_⟩
                          intro p l e R s m args below meth c H locs Q cn ids D A sz0 ad lv sw ls F hRc hRs hl hn hw hs hend
                          exact mi_call_ok ih hM F hd hl.1 hcal hcat hcr (Nat.le_trans hle.1 hRc) (Nat.le_trans hle.2 hRs) hw hs (fun H' locs' ad' sw' hle' hw' hs' => hW p l e R s m args below meth c H' locs' Q cn ids D A sz0 ad' lv sw' ls F hRc hRs hl (mi_rn_mono hle' hn) hw' hs' (mi_End_mono hle' hend))
                        next => cases hcr
                      next x h' c' s' hcr =>
                        split at hcr
                        next hcat =>
                          split at hrun
                          next p' hp' =>
                            split at hp'
                            next hk1 =>
                              obtain ⟨hle, hW⟩ := ih (d' + 1) M p' la [.float 0] h' (cells + c') (slots + s') r hM hrun
                              refine ⟨⟨Nat.le_trans (Nat.le_add_right _ _) hle.1, Nat.le_trans (Nat.le_add_right _ _) hle.2⟩, ?_⟩
                              intro p l e R s m args below meth c H locs Q cn ids D A sz0 ad lv sw ls F hRc hRs hl hn hw hs hend
                              exact mi_callx_ok ih hM F hd hl.1 hcal hcat hk1 hp' hcr (Nat.le_trans hle.1 hRc) (Nat.le_trans hle.2 hRs) hw hs (fun H' locs' ad' sw' hle' hw' hs' => hW p l e R s m args below meth c H' locs' Q cn ids D A sz0 ad' lv sw' ls F hRc hRs hl (mi_rn_mono hle' hn) hw' hs' (mi_End_mono hle' hend))
                            next => cases hp'
                          next => cases hrun
                        next => cases hcr
              next => cases hrun
end
