section
-- ===== PART A: goes FIRST, ahead of the names: the tables' words, and 'selects' of the private methods out of them =====
/-- a private method of a class that the tables say can be made, by its rows of tables_1 -/
def lw_okq (q : MethodName × Nat) : Prop := (q.1.cls ≠ "java/lang/invoke/MethodHandle" ∧ q.1.cls ≠ "java/lang/invoke/VarHandle") ∧ Cond.instantiable q.1.cls q.2 ∈ tables_1 ∧ Cond.privateMethod q.1 ∈ tables_1 ∧ Cond.instanceMethod q.1 ∈ tables_1
theorem lw_p0 : lw_okq (⟨"TypeLoom", "forgetProgram", "()V"⟩, 11) := ⟨⟨by decide +kernel, by decide +kernel⟩, List.mem_of_getElem? (i := 28) (by decide +kernel), List.mem_of_getElem? (i := 501) (by decide +kernel), List.mem_of_getElem? (i := 502) (by decide +kernel)⟩
theorem lw_p1 : lw_okq (⟨"TypeLoom$Tokens", "pastBlanks", "(I)I"⟩, 8) := ⟨⟨by decide +kernel, by decide +kernel⟩, List.mem_of_getElem? (i := 52) (by decide +kernel), List.mem_of_getElem? (i := 532) (by decide +kernel), List.mem_of_getElem? (i := 533) (by decide +kernel)⟩
theorem lw_p2 : lw_okq (⟨"TypeLoom$Tokens", "byteOf", "(I)I"⟩, 8) := ⟨⟨by decide +kernel, by decide +kernel⟩, List.mem_of_getElem? (i := 52) (by decide +kernel), List.mem_of_getElem? (i := 536) (by decide +kernel), List.mem_of_getElem? (i := 537) (by decide +kernel)⟩
theorem lw_p3 : lw_okq (⟨"TypeLoom$Tokens", "readToken", "(I)I"⟩, 8) := ⟨⟨by decide +kernel, by decide +kernel⟩, List.mem_of_getElem? (i := 52) (by decide +kernel), List.mem_of_getElem? (i := 540) (by decide +kernel), List.mem_of_getElem? (i := 541) (by decide +kernel)⟩
theorem lw_p4 : lw_okq (⟨"TypeLoom$Tokens", "add", "(IIIJ)I"⟩, 8) := ⟨⟨by decide +kernel, by decide +kernel⟩, List.mem_of_getElem? (i := 52) (by decide +kernel), List.mem_of_getElem? (i := 544) (by decide +kernel), List.mem_of_getElem? (i := 545) (by decide +kernel)⟩
theorem lw_p5 : lw_okq (⟨"TypeLoom$Tokens", "readWord", "(II)I"⟩, 8) := ⟨⟨by decide +kernel, by decide +kernel⟩, List.mem_of_getElem? (i := 52) (by decide +kernel), List.mem_of_getElem? (i := 554) (by decide +kernel), List.mem_of_getElem? (i := 555) (by decide +kernel)⟩
theorem lw_p6 : lw_okq (⟨"TypeLoom$Tokens", "kindOfWord", "(J)I"⟩, 8) := ⟨⟨by decide +kernel, by decide +kernel⟩, List.mem_of_getElem? (i := 52) (by decide +kernel), List.mem_of_getElem? (i := 561) (by decide +kernel), List.mem_of_getElem? (i := 562) (by decide +kernel)⟩
theorem lw_p7 : lw_okq (⟨"TypeLoom$Tokens", "readNumber", "(I)I"⟩, 8) := ⟨⟨by decide +kernel, by decide +kernel⟩, List.mem_of_getElem? (i := 52) (by decide +kernel), List.mem_of_getElem? (i := 565) (by decide +kernel), List.mem_of_getElem? (i := 566) (by decide +kernel)⟩
theorem lw_p8 : lw_okq (⟨"TypeLoom$Tokens", "readSymbol", "(II)I"⟩, 8) := ⟨⟨by decide +kernel, by decide +kernel⟩, List.mem_of_getElem? (i := 52) (by decide +kernel), List.mem_of_getElem? (i := 569) (by decide +kernel), List.mem_of_getElem? (i := 570) (by decide +kernel)⟩
theorem lw_p9 : lw_okq (⟨"TypeLoom$Parser", "start", "(LTypeLoom$Steps;)V"⟩, 4) := ⟨⟨by decide +kernel, by decide +kernel⟩, List.mem_of_getElem? (i := 313) (by decide +kernel), List.mem_of_getElem? (i := 637) (by decide +kernel), List.mem_of_getElem? (i := 638) (by decide +kernel)⟩
theorem lw_p10 : lw_okq (⟨"TypeLoom$Parser", "item", "()V"⟩, 4) := ⟨⟨by decide +kernel, by decide +kernel⟩, List.mem_of_getElem? (i := 313) (by decide +kernel), List.mem_of_getElem? (i := 642) (by decide +kernel), List.mem_of_getElem? (i := 643) (by decide +kernel)⟩
theorem lw_p11 : lw_okq (⟨"TypeLoom$Parser", "kind", "()I"⟩, 4) := ⟨⟨by decide +kernel, by decide +kernel⟩, List.mem_of_getElem? (i := 313) (by decide +kernel), List.mem_of_getElem? (i := 646) (by decide +kernel), List.mem_of_getElem? (i := 647) (by decide +kernel)⟩
theorem lw_p12 : lw_okq (⟨"TypeLoom$Parser", "typeItem", "()V"⟩, 4) := ⟨⟨by decide +kernel, by decide +kernel⟩, List.mem_of_getElem? (i := 313) (by decide +kernel), List.mem_of_getElem? (i := 655) (by decide +kernel), List.mem_of_getElem? (i := 656) (by decide +kernel)⟩
theorem lw_p13 : lw_okq (⟨"TypeLoom$Parser", "add", "(IIII)I"⟩, 4) := ⟨⟨by decide +kernel, by decide +kernel⟩, List.mem_of_getElem? (i := 313) (by decide +kernel), List.mem_of_getElem? (i := 659) (by decide +kernel), List.mem_of_getElem? (i := 660) (by decide +kernel)⟩
theorem lw_p14 : lw_okq (⟨"TypeLoom$Parser", "take", "(I)V"⟩, 4) := ⟨⟨by decide +kernel, by decide +kernel⟩, List.mem_of_getElem? (i := 313) (by decide +kernel), List.mem_of_getElem? (i := 667) (by decide +kernel), List.mem_of_getElem? (i := 668) (by decide +kernel)⟩
theorem lw_p15 : lw_okq (⟨"TypeLoom$Parser", "fail", "()V"⟩, 4) := ⟨⟨by decide +kernel, by decide +kernel⟩, List.mem_of_getElem? (i := 313) (by decide +kernel), List.mem_of_getElem? (i := 671) (by decide +kernel), List.mem_of_getElem? (i := 672) (by decide +kernel)⟩
def lw_privs_1 : List (MethodName × Nat) := [(⟨"TypeLoom", "forgetProgram", "()V"⟩, 11), (⟨"TypeLoom$Tokens", "pastBlanks", "(I)I"⟩, 8), (⟨"TypeLoom$Tokens", "byteOf", "(I)I"⟩, 8), (⟨"TypeLoom$Tokens", "readToken", "(I)I"⟩, 8), (⟨"TypeLoom$Tokens", "add", "(IIIJ)I"⟩, 8), (⟨"TypeLoom$Tokens", "readWord", "(II)I"⟩, 8), (⟨"TypeLoom$Tokens", "kindOfWord", "(J)I"⟩, 8), (⟨"TypeLoom$Tokens", "readNumber", "(I)I"⟩, 8), (⟨"TypeLoom$Tokens", "readSymbol", "(II)I"⟩, 8), (⟨"TypeLoom$Parser", "start", "(LTypeLoom$Steps;)V"⟩, 4), (⟨"TypeLoom$Parser", "item", "()V"⟩, 4), (⟨"TypeLoom$Parser", "kind", "()I"⟩, 4), (⟨"TypeLoom$Parser", "typeItem", "()V"⟩, 4), (⟨"TypeLoom$Parser", "add", "(IIII)I"⟩, 4), (⟨"TypeLoom$Parser", "take", "(I)V"⟩, 4), (⟨"TypeLoom$Parser", "fail", "()V"⟩, 4)]
theorem lw_r1 : ∀ q ∈ lw_privs_1, lw_okq q := List.forall_mem_cons.mpr ⟨lw_p0, List.forall_mem_cons.mpr ⟨lw_p1, List.forall_mem_cons.mpr ⟨lw_p2, List.forall_mem_cons.mpr ⟨lw_p3, List.forall_mem_cons.mpr ⟨lw_p4, List.forall_mem_cons.mpr ⟨lw_p5, List.forall_mem_cons.mpr ⟨lw_p6, List.forall_mem_cons.mpr ⟨lw_p7, List.forall_mem_cons.mpr ⟨lw_p8, List.forall_mem_cons.mpr ⟨lw_p9, List.forall_mem_cons.mpr ⟨lw_p10, List.forall_mem_cons.mpr ⟨lw_p11, List.forall_mem_cons.mpr ⟨lw_p12, List.forall_mem_cons.mpr ⟨lw_p13, List.forall_mem_cons.mpr ⟨lw_p14, List.forall_mem_cons.mpr ⟨lw_p15, fun _ h => absurd h List.not_mem_nil⟩⟩⟩⟩⟩⟩⟩⟩⟩⟩⟩⟩⟩⟩⟩⟩
theorem lw_p16 : lw_okq (⟨"TypeLoom$Parser", "constructor", "()V"⟩, 4) := ⟨⟨by decide +kernel, by decide +kernel⟩, List.mem_of_getElem? (i := 313) (by decide +kernel), List.mem_of_getElem? (i := 683) (by decide +kernel), List.mem_of_getElem? (i := 684) (by decide +kernel)⟩
theorem lw_p17 : lw_okq (⟨"TypeLoom$Parser", "startsPart", "()Z"⟩, 4) := ⟨⟨by decide +kernel, by decide +kernel⟩, List.mem_of_getElem? (i := 313) (by decide +kernel), List.mem_of_getElem? (i := 687) (by decide +kernel), List.mem_of_getElem? (i := 688) (by decide +kernel)⟩
theorem lw_p18 : lw_okq (⟨"TypeLoom$Parser", "part", "(I)V"⟩, 4) := ⟨⟨by decide +kernel, by decide +kernel⟩, List.mem_of_getElem? (i := 313) (by decide +kernel), List.mem_of_getElem? (i := 691) (by decide +kernel), List.mem_of_getElem? (i := 692) (by decide +kernel)⟩
theorem lw_p19 : lw_okq (⟨"TypeLoom$Parser", "form", "(I)V"⟩, 4) := ⟨⟨by decide +kernel, by decide +kernel⟩, List.mem_of_getElem? (i := 313) (by decide +kernel), List.mem_of_getElem? (i := 695) (by decide +kernel), List.mem_of_getElem? (i := 696) (by decide +kernel)⟩
theorem lw_p20 : lw_okq (⟨"TypeLoom$Parser", "formPair", "(I)V"⟩, 4) := ⟨⟨by decide +kernel, by decide +kernel⟩, List.mem_of_getElem? (i := 313) (by decide +kernel), List.mem_of_getElem? (i := 699) (by decide +kernel), List.mem_of_getElem? (i := 700) (by decide +kernel)⟩
theorem lw_p21 : lw_okq (⟨"TypeLoom$Parser", "formUse", "(I)V"⟩, 4) := ⟨⟨by decide +kernel, by decide +kernel⟩, List.mem_of_getElem? (i := 313) (by decide +kernel), List.mem_of_getElem? (i := 703) (by decide +kernel), List.mem_of_getElem? (i := 704) (by decide +kernel)⟩
theorem lw_p22 : lw_okq (⟨"TypeLoom$Parser", "definition", "()V"⟩, 4) := ⟨⟨by decide +kernel, by decide +kernel⟩, List.mem_of_getElem? (i := 313) (by decide +kernel), List.mem_of_getElem? (i := 707) (by decide +kernel), List.mem_of_getElem? (i := 708) (by decide +kernel)⟩
theorem lw_p23 : lw_okq (⟨"TypeLoom$Parser", "expression", "(I)I"⟩, 4) := ⟨⟨by decide +kernel, by decide +kernel⟩, List.mem_of_getElem? (i := 313) (by decide +kernel), List.mem_of_getElem? (i := 711) (by decide +kernel), List.mem_of_getElem? (i := 712) (by decide +kernel)⟩
theorem lw_p24 : lw_okq (⟨"TypeLoom$Parser", "let", "(I)I"⟩, 4) := ⟨⟨by decide +kernel, by decide +kernel⟩, List.mem_of_getElem? (i := 313) (by decide +kernel), List.mem_of_getElem? (i := 715) (by decide +kernel), List.mem_of_getElem? (i := 716) (by decide +kernel)⟩
theorem lw_p25 : lw_okq (⟨"TypeLoom$Parser", "addExpression", "(IIII)I"⟩, 4) := ⟨⟨by decide +kernel, by decide +kernel⟩, List.mem_of_getElem? (i := 313) (by decide +kernel), List.mem_of_getElem? (i := 719) (by decide +kernel), List.mem_of_getElem? (i := 720) (by decide +kernel)⟩
theorem lw_p26 : lw_okq (⟨"TypeLoom$Steps", "has", "(I)Z"⟩, 8) := ⟨⟨by decide +kernel, by decide +kernel⟩, List.mem_of_getElem? (i := 282) (by decide +kernel), List.mem_of_getElem? (i := 731) (by decide +kernel), List.mem_of_getElem? (i := 732) (by decide +kernel)⟩
theorem lw_p27 : lw_okq (⟨"TypeLoom$Parser", "fun", "(I)I"⟩, 4) := ⟨⟨by decide +kernel, by decide +kernel⟩, List.mem_of_getElem? (i := 313) (by decide +kernel), List.mem_of_getElem? (i := 735) (by decide +kernel), List.mem_of_getElem? (i := 736) (by decide +kernel)⟩
theorem lw_p28 : lw_okq (⟨"TypeLoom$Parser", "condition", "(I)I"⟩, 4) := ⟨⟨by decide +kernel, by decide +kernel⟩, List.mem_of_getElem? (i := 313) (by decide +kernel), List.mem_of_getElem? (i := 739) (by decide +kernel), List.mem_of_getElem? (i := 740) (by decide +kernel)⟩
theorem lw_p29 : lw_okq (⟨"TypeLoom$Parser", "cases", "(I)I"⟩, 4) := ⟨⟨by decide +kernel, by decide +kernel⟩, List.mem_of_getElem? (i := 313) (by decide +kernel), List.mem_of_getElem? (i := 743) (by decide +kernel), List.mem_of_getElem? (i := 744) (by decide +kernel)⟩
theorem lw_p30 : lw_okq (⟨"TypeLoom$Parser", "choice", "(IIII)I"⟩, 4) := ⟨⟨by decide +kernel, by decide +kernel⟩, List.mem_of_getElem? (i := 313) (by decide +kernel), List.mem_of_getElem? (i := 747) (by decide +kernel), List.mem_of_getElem? (i := 748) (by decide +kernel)⟩
theorem lw_p31 : lw_okq (⟨"TypeLoom$Parser", "relation", "(I)I"⟩, 4) := ⟨⟨by decide +kernel, by decide +kernel⟩, List.mem_of_getElem? (i := 313) (by decide +kernel), List.mem_of_getElem? (i := 759) (by decide +kernel), List.mem_of_getElem? (i := 760) (by decide +kernel)⟩
def lw_privs_2 : List (MethodName × Nat) := [(⟨"TypeLoom$Parser", "constructor", "()V"⟩, 4), (⟨"TypeLoom$Parser", "startsPart", "()Z"⟩, 4), (⟨"TypeLoom$Parser", "part", "(I)V"⟩, 4), (⟨"TypeLoom$Parser", "form", "(I)V"⟩, 4), (⟨"TypeLoom$Parser", "formPair", "(I)V"⟩, 4), (⟨"TypeLoom$Parser", "formUse", "(I)V"⟩, 4), (⟨"TypeLoom$Parser", "definition", "()V"⟩, 4), (⟨"TypeLoom$Parser", "expression", "(I)I"⟩, 4), (⟨"TypeLoom$Parser", "let", "(I)I"⟩, 4), (⟨"TypeLoom$Parser", "addExpression", "(IIII)I"⟩, 4), (⟨"TypeLoom$Steps", "has", "(I)Z"⟩, 8), (⟨"TypeLoom$Parser", "fun", "(I)I"⟩, 4), (⟨"TypeLoom$Parser", "condition", "(I)I"⟩, 4), (⟨"TypeLoom$Parser", "cases", "(I)I"⟩, 4), (⟨"TypeLoom$Parser", "choice", "(IIII)I"⟩, 4), (⟨"TypeLoom$Parser", "relation", "(I)I"⟩, 4)]
theorem lw_r2 : ∀ q ∈ lw_privs_2, lw_okq q := List.forall_mem_cons.mpr ⟨lw_p16, List.forall_mem_cons.mpr ⟨lw_p17, List.forall_mem_cons.mpr ⟨lw_p18, List.forall_mem_cons.mpr ⟨lw_p19, List.forall_mem_cons.mpr ⟨lw_p20, List.forall_mem_cons.mpr ⟨lw_p21, List.forall_mem_cons.mpr ⟨lw_p22, List.forall_mem_cons.mpr ⟨lw_p23, List.forall_mem_cons.mpr ⟨lw_p24, List.forall_mem_cons.mpr ⟨lw_p25, List.forall_mem_cons.mpr ⟨lw_p26, List.forall_mem_cons.mpr ⟨lw_p27, List.forall_mem_cons.mpr ⟨lw_p28, List.forall_mem_cons.mpr ⟨lw_p29, List.forall_mem_cons.mpr ⟨lw_p30, List.forall_mem_cons.mpr ⟨lw_p31, fun _ h => absurd h List.not_mem_nil⟩⟩⟩⟩⟩⟩⟩⟩⟩⟩⟩⟩⟩⟩⟩⟩
theorem lw_p32 : lw_okq (⟨"TypeLoom$Parser", "sum", "(I)I"⟩, 4) := ⟨⟨by decide +kernel, by decide +kernel⟩, List.mem_of_getElem? (i := 313) (by decide +kernel), List.mem_of_getElem? (i := 763) (by decide +kernel), List.mem_of_getElem? (i := 764) (by decide +kernel)⟩
theorem lw_p33 : lw_okq (⟨"TypeLoom$Parser", "product", "(I)I"⟩, 4) := ⟨⟨by decide +kernel, by decide +kernel⟩, List.mem_of_getElem? (i := 313) (by decide +kernel), List.mem_of_getElem? (i := 767) (by decide +kernel), List.mem_of_getElem? (i := 768) (by decide +kernel)⟩
theorem lw_p34 : lw_okq (⟨"TypeLoom$Parser", "call", "(I)I"⟩, 4) := ⟨⟨by decide +kernel, by decide +kernel⟩, List.mem_of_getElem? (i := 313) (by decide +kernel), List.mem_of_getElem? (i := 771) (by decide +kernel), List.mem_of_getElem? (i := 772) (by decide +kernel)⟩
theorem lw_p35 : lw_okq (⟨"TypeLoom$Parser", "atom", "(I)I"⟩, 4) := ⟨⟨by decide +kernel, by decide +kernel⟩, List.mem_of_getElem? (i := 313) (by decide +kernel), List.mem_of_getElem? (i := 775) (by decide +kernel), List.mem_of_getElem? (i := 776) (by decide +kernel)⟩
theorem lw_p36 : lw_okq (⟨"TypeLoom$Parser", "single", "(II)I"⟩, 4) := ⟨⟨by decide +kernel, by decide +kernel⟩, List.mem_of_getElem? (i := 313) (by decide +kernel), List.mem_of_getElem? (i := 779) (by decide +kernel), List.mem_of_getElem? (i := 780) (by decide +kernel)⟩
theorem lw_p37 : lw_okq (⟨"TypeLoom$Parser", "bracket", "(I)I"⟩, 4) := ⟨⟨by decide +kernel, by decide +kernel⟩, List.mem_of_getElem? (i := 313) (by decide +kernel), List.mem_of_getElem? (i := 783) (by decide +kernel), List.mem_of_getElem? (i := 784) (by decide +kernel)⟩
theorem lw_p38 : lw_okq (⟨"TypeLoom$Parser", "startsAtom", "()Z"⟩, 4) := ⟨⟨by decide +kernel, by decide +kernel⟩, List.mem_of_getElem? (i := 313) (by decide +kernel), List.mem_of_getElem? (i := 787) (by decide +kernel), List.mem_of_getElem? (i := 788) (by decide +kernel)⟩
theorem lw_p39 : lw_okq (⟨"TypeLoom$Checker", "leaveDefinition", "()V"⟩, 12) := ⟨⟨by decide +kernel, by decide +kernel⟩, List.mem_of_getElem? (i := 332) (by decide +kernel), List.mem_of_getElem? (i := 795) (by decide +kernel), List.mem_of_getElem? (i := 796) (by decide +kernel)⟩
theorem lw_p40 : lw_okq (⟨"TypeLoom$Checker", "typeOfExpression", "(III)I"⟩, 12) := ⟨⟨by decide +kernel, by decide +kernel⟩, List.mem_of_getElem? (i := 332) (by decide +kernel), List.mem_of_getElem? (i := 814) (by decide +kernel), List.mem_of_getElem? (i := 815) (by decide +kernel)⟩
theorem lw_p41 : lw_okq (⟨"TypeLoom$Checker", "typeOfName", "(I)I"⟩, 12) := ⟨⟨by decide +kernel, by decide +kernel⟩, List.mem_of_getElem? (i := 332) (by decide +kernel), List.mem_of_getElem? (i := 818) (by decide +kernel), List.mem_of_getElem? (i := 819) (by decide +kernel)⟩
theorem lw_p42 : lw_okq (⟨"TypeLoom$Types", "enter", "(II)I"⟩, 12) := ⟨⟨by decide +kernel, by decide +kernel⟩, List.mem_of_getElem? (i := 134) (by decide +kernel), List.mem_of_getElem? (i := 854) (by decide +kernel), List.mem_of_getElem? (i := 855) (by decide +kernel)⟩
theorem lw_p43 : lw_okq (⟨"TypeLoom$Types", "twinOf", "(IZ)I"⟩, 12) := ⟨⟨by decide +kernel, by decide +kernel⟩, List.mem_of_getElem? (i := 134) (by decide +kernel), List.mem_of_getElem? (i := 858) (by decide +kernel), List.mem_of_getElem? (i := 859) (by decide +kernel)⟩
theorem lw_p44 : lw_okq (⟨"TypeLoom$Types", "noteOfKid", "(II)I"⟩, 12) := ⟨⟨by decide +kernel, by decide +kernel⟩, List.mem_of_getElem? (i := 134) (by decide +kernel), List.mem_of_getElem? (i := 862) (by decide +kernel), List.mem_of_getElem? (i := 863) (by decide +kernel)⟩
theorem lw_p45 : lw_okq (⟨"TypeLoom$Checker", "tellAtToken", "(II)V"⟩, 12) := ⟨⟨by decide +kernel, by decide +kernel⟩, List.mem_of_getElem? (i := 332) (by decide +kernel), List.mem_of_getElem? (i := 899) (by decide +kernel), List.mem_of_getElem? (i := 900) (by decide +kernel)⟩
theorem lw_p46 : lw_okq (⟨"TypeLoom$Checker", "typeOfCapital", "(I)I"⟩, 12) := ⟨⟨by decide +kernel, by decide +kernel⟩, List.mem_of_getElem? (i := 332) (by decide +kernel), List.mem_of_getElem? (i := 905) (by decide +kernel), List.mem_of_getElem? (i := 906) (by decide +kernel)⟩
theorem lw_p47 : lw_okq (⟨"TypeLoom$Checker", "typeOfCall", "(II)I"⟩, 12) := ⟨⟨by decide +kernel, by decide +kernel⟩, List.mem_of_getElem? (i := 332) (by decide +kernel), List.mem_of_getElem? (i := 922) (by decide +kernel), List.mem_of_getElem? (i := 923) (by decide +kernel)⟩
def lw_privs_3 : List (MethodName × Nat) := [(⟨"TypeLoom$Parser", "sum", "(I)I"⟩, 4), (⟨"TypeLoom$Parser", "product", "(I)I"⟩, 4), (⟨"TypeLoom$Parser", "call", "(I)I"⟩, 4), (⟨"TypeLoom$Parser", "atom", "(I)I"⟩, 4), (⟨"TypeLoom$Parser", "single", "(II)I"⟩, 4), (⟨"TypeLoom$Parser", "bracket", "(I)I"⟩, 4), (⟨"TypeLoom$Parser", "startsAtom", "()Z"⟩, 4), (⟨"TypeLoom$Checker", "leaveDefinition", "()V"⟩, 12), (⟨"TypeLoom$Checker", "typeOfExpression", "(III)I"⟩, 12), (⟨"TypeLoom$Checker", "typeOfName", "(I)I"⟩, 12), (⟨"TypeLoom$Types", "enter", "(II)I"⟩, 12), (⟨"TypeLoom$Types", "twinOf", "(IZ)I"⟩, 12), (⟨"TypeLoom$Types", "noteOfKid", "(II)I"⟩, 12), (⟨"TypeLoom$Checker", "tellAtToken", "(II)V"⟩, 12), (⟨"TypeLoom$Checker", "typeOfCapital", "(I)I"⟩, 12), (⟨"TypeLoom$Checker", "typeOfCall", "(II)I"⟩, 12)]
theorem lw_r3 : ∀ q ∈ lw_privs_3, lw_okq q := List.forall_mem_cons.mpr ⟨lw_p32, List.forall_mem_cons.mpr ⟨lw_p33, List.forall_mem_cons.mpr ⟨lw_p34, List.forall_mem_cons.mpr ⟨lw_p35, List.forall_mem_cons.mpr ⟨lw_p36, List.forall_mem_cons.mpr ⟨lw_p37, List.forall_mem_cons.mpr ⟨lw_p38, List.forall_mem_cons.mpr ⟨lw_p39, List.forall_mem_cons.mpr ⟨lw_p40, List.forall_mem_cons.mpr ⟨lw_p41, List.forall_mem_cons.mpr ⟨lw_p42, List.forall_mem_cons.mpr ⟨lw_p43, List.forall_mem_cons.mpr ⟨lw_p44, List.forall_mem_cons.mpr ⟨lw_p45, List.forall_mem_cons.mpr ⟨lw_p46, List.forall_mem_cons.mpr ⟨lw_p47, fun _ h => absurd h List.not_mem_nil⟩⟩⟩⟩⟩⟩⟩⟩⟩⟩⟩⟩⟩⟩⟩⟩
theorem lw_p48 : lw_okq (⟨"TypeLoom$Types", "join", "(III)I"⟩, 12) := ⟨⟨by decide +kernel, by decide +kernel⟩, List.mem_of_getElem? (i := 134) (by decide +kernel), List.mem_of_getElem? (i := 935) (by decide +kernel), List.mem_of_getElem? (i := 936) (by decide +kernel)⟩
theorem lw_p49 : lw_okq (⟨"TypeLoom$Checker", "need", "(II)V"⟩, 12) := ⟨⟨by decide +kernel, by decide +kernel⟩, List.mem_of_getElem? (i := 332) (by decide +kernel), List.mem_of_getElem? (i := 945) (by decide +kernel), List.mem_of_getElem? (i := 946) (by decide +kernel)⟩
theorem lw_p50 : lw_okq (⟨"TypeLoom$Checker", "typeOfFun", "(II)I"⟩, 12) := ⟨⟨by decide +kernel, by decide +kernel⟩, List.mem_of_getElem? (i := 332) (by decide +kernel), List.mem_of_getElem? (i := 949) (by decide +kernel), List.mem_of_getElem? (i := 950) (by decide +kernel)⟩
theorem lw_p51 : lw_okq (⟨"TypeLoom$Checker", "takeStep", "(II)V"⟩, 12) := ⟨⟨by decide +kernel, by decide +kernel⟩, List.mem_of_getElem? (i := 332) (by decide +kernel), List.mem_of_getElem? (i := 966) (by decide +kernel), List.mem_of_getElem? (i := 967) (by decide +kernel)⟩
theorem lw_p52 : lw_okq (⟨"TypeLoom$Checker", "beginDefinition", "(I)V"⟩, 12) := ⟨⟨by decide +kernel, by decide +kernel⟩, List.mem_of_getElem? (i := 332) (by decide +kernel), List.mem_of_getElem? (i := 970) (by decide +kernel), List.mem_of_getElem? (i := 971) (by decide +kernel)⟩
theorem lw_p53 : lw_okq (⟨"TypeLoom$Forms", "forgetMarks", "()V"⟩, 11) := ⟨⟨by decide +kernel, by decide +kernel⟩, List.mem_of_getElem? (i := 358) (by decide +kernel), List.mem_of_getElem? (i := 978) (by decide +kernel), List.mem_of_getElem? (i := 979) (by decide +kernel)⟩
theorem lw_p54 : lw_okq (⟨"TypeLoom$Checker", "endDefinition", "(II)V"⟩, 12) := ⟨⟨by decide +kernel, by decide +kernel⟩, List.mem_of_getElem? (i := 332) (by decide +kernel), List.mem_of_getElem? (i := 995) (by decide +kernel), List.mem_of_getElem? (i := 996) (by decide +kernel)⟩
theorem lw_p55 : lw_okq (⟨"TypeLoom$Checker", "bindLet", "(II)V"⟩, 12) := ⟨⟨by decide +kernel, by decide +kernel⟩, List.mem_of_getElem? (i := 332) (by decide +kernel), List.mem_of_getElem? (i := 1018) (by decide +kernel), List.mem_of_getElem? (i := 1019) (by decide +kernel)⟩
theorem lw_p56 : lw_okq (⟨"TypeLoom$Checker", "beginChoice", "(III)V"⟩, 12) := ⟨⟨by decide +kernel, by decide +kernel⟩, List.mem_of_getElem? (i := 332) (by decide +kernel), List.mem_of_getElem? (i := 1032) (by decide +kernel), List.mem_of_getElem? (i := 1033) (by decide +kernel)⟩
theorem lw_p57 : lw_okq (⟨"TypeLoom$Checker", "isChosenAhead", "(II)Z"⟩, 12) := ⟨⟨by decide +kernel, by decide +kernel⟩, List.mem_of_getElem? (i := 332) (by decide +kernel), List.mem_of_getElem? (i := 1036) (by decide +kernel), List.mem_of_getElem? (i := 1037) (by decide +kernel)⟩
theorem lw_p58 : lw_okq (⟨"TypeLoom$Checker", "namesBehind", "(I)I"⟩, 12) := ⟨⟨by decide +kernel, by decide +kernel⟩, List.mem_of_getElem? (i := 332) (by decide +kernel), List.mem_of_getElem? (i := 1044) (by decide +kernel), List.mem_of_getElem? (i := 1045) (by decide +kernel)⟩
theorem lw_p59 : lw_okq (⟨"TypeLoom$Checker", "endChoice", "(III)V"⟩, 12) := ⟨⟨by decide +kernel, by decide +kernel⟩, List.mem_of_getElem? (i := 332) (by decide +kernel), List.mem_of_getElem? (i := 1050) (by decide +kernel), List.mem_of_getElem? (i := 1051) (by decide +kernel)⟩
theorem lw_p60 : lw_okq (⟨"TypeLoom$Forms", "beginType", "(I)V"⟩, 11) := ⟨⟨by decide +kernel, by decide +kernel⟩, List.mem_of_getElem? (i := 358) (by decide +kernel), List.mem_of_getElem? (i := 1058) (by decide +kernel), List.mem_of_getElem? (i := 1059) (by decide +kernel)⟩
theorem lw_p61 : lw_okq (⟨"TypeLoom$Forms", "tellIf", "(ZII)V"⟩, 11) := ⟨⟨by decide +kernel, by decide +kernel⟩, List.mem_of_getElem? (i := 358) (by decide +kernel), List.mem_of_getElem? (i := 1066) (by decide +kernel), List.mem_of_getElem? (i := 1067) (by decide +kernel)⟩
theorem lw_p62 : lw_okq (⟨"TypeLoom$Forms", "typeNamed", "(I)I"⟩, 11) := ⟨⟨by decide +kernel, by decide +kernel⟩, List.mem_of_getElem? (i := 358) (by decide +kernel), List.mem_of_getElem? (i := 1072) (by decide +kernel), List.mem_of_getElem? (i := 1073) (by decide +kernel)⟩
theorem lw_p63 : lw_okq (⟨"TypeLoom$Forms", "addMark", "(I)V"⟩, 11) := ⟨⟨by decide +kernel, by decide +kernel⟩, List.mem_of_getElem? (i := 358) (by decide +kernel), List.mem_of_getElem? (i := 1086) (by decide +kernel), List.mem_of_getElem? (i := 1087) (by decide +kernel)⟩
def lw_privs_4 : List (MethodName × Nat) := [(⟨"TypeLoom$Types", "join", "(III)I"⟩, 12), (⟨"TypeLoom$Checker", "need", "(II)V"⟩, 12), (⟨"TypeLoom$Checker", "typeOfFun", "(II)I"⟩, 12), (⟨"TypeLoom$Checker", "takeStep", "(II)V"⟩, 12), (⟨"TypeLoom$Checker", "beginDefinition", "(I)V"⟩, 12), (⟨"TypeLoom$Forms", "forgetMarks", "()V"⟩, 11), (⟨"TypeLoom$Checker", "endDefinition", "(II)V"⟩, 12), (⟨"TypeLoom$Checker", "bindLet", "(II)V"⟩, 12), (⟨"TypeLoom$Checker", "beginChoice", "(III)V"⟩, 12), (⟨"TypeLoom$Checker", "isChosenAhead", "(II)Z"⟩, 12), (⟨"TypeLoom$Checker", "namesBehind", "(I)I"⟩, 12), (⟨"TypeLoom$Checker", "endChoice", "(III)V"⟩, 12), (⟨"TypeLoom$Forms", "beginType", "(I)V"⟩, 11), (⟨"TypeLoom$Forms", "tellIf", "(ZII)V"⟩, 11), (⟨"TypeLoom$Forms", "typeNamed", "(I)I"⟩, 11), (⟨"TypeLoom$Forms", "addMark", "(I)V"⟩, 11)]
theorem lw_r4 : ∀ q ∈ lw_privs_4, lw_okq q := List.forall_mem_cons.mpr ⟨lw_p48, List.forall_mem_cons.mpr ⟨lw_p49, List.forall_mem_cons.mpr ⟨lw_p50, List.forall_mem_cons.mpr ⟨lw_p51, List.forall_mem_cons.mpr ⟨lw_p52, List.forall_mem_cons.mpr ⟨lw_p53, List.forall_mem_cons.mpr ⟨lw_p54, List.forall_mem_cons.mpr ⟨lw_p55, List.forall_mem_cons.mpr ⟨lw_p56, List.forall_mem_cons.mpr ⟨lw_p57, List.forall_mem_cons.mpr ⟨lw_p58, List.forall_mem_cons.mpr ⟨lw_p59, List.forall_mem_cons.mpr ⟨lw_p60, List.forall_mem_cons.mpr ⟨lw_p61, List.forall_mem_cons.mpr ⟨lw_p62, List.forall_mem_cons.mpr ⟨lw_p63, fun _ h => absurd h List.not_mem_nil⟩⟩⟩⟩⟩⟩⟩⟩⟩⟩⟩⟩⟩⟩⟩⟩
theorem lw_p64 : lw_okq (⟨"TypeLoom$Forms", "letterOf", "(I)I"⟩, 11) := ⟨⟨by decide +kernel, by decide +kernel⟩, List.mem_of_getElem? (i := 358) (by decide +kernel), List.mem_of_getElem? (i := 1090) (by decide +kernel), List.mem_of_getElem? (i := 1091) (by decide +kernel)⟩
theorem lw_p65 : lw_okq (⟨"TypeLoom$Forms", "beginConstructor", "(I)V"⟩, 11) := ⟨⟨by decide +kernel, by decide +kernel⟩, List.mem_of_getElem? (i := 358) (by decide +kernel), List.mem_of_getElem? (i := 1105) (by decide +kernel), List.mem_of_getElem? (i := 1106) (by decide +kernel)⟩
theorem lw_p66 : lw_okq (⟨"TypeLoom$Forms", "endConstructor", "(I)V"⟩, 11) := ⟨⟨by decide +kernel, by decide +kernel⟩, List.mem_of_getElem? (i := 358) (by decide +kernel), List.mem_of_getElem? (i := 1114) (by decide +kernel), List.mem_of_getElem? (i := 1115) (by decide +kernel)⟩
theorem lw_p67 : lw_okq (⟨"TypeLoom$Forms", "useMark", "(I)V"⟩, 11) := ⟨⟨by decide +kernel, by decide +kernel⟩, List.mem_of_getElem? (i := 358) (by decide +kernel), List.mem_of_getElem? (i := 1130) (by decide +kernel), List.mem_of_getElem? (i := 1131) (by decide +kernel)⟩
theorem lw_p68 : lw_okq (⟨"TypeLoom$Forms", "putValue", "(I)V"⟩, 11) := ⟨⟨by decide +kernel, by decide +kernel⟩, List.mem_of_getElem? (i := 358) (by decide +kernel), List.mem_of_getElem? (i := 1134) (by decide +kernel), List.mem_of_getElem? (i := 1135) (by decide +kernel)⟩
theorem lw_p69 : lw_okq (⟨"TypeLoom$Forms", "useName", "(II)V"⟩, 11) := ⟨⟨by decide +kernel, by decide +kernel⟩, List.mem_of_getElem? (i := 358) (by decide +kernel), List.mem_of_getElem? (i := 1138) (by decide +kernel), List.mem_of_getElem? (i := 1139) (by decide +kernel)⟩
theorem lw_p70 : lw_okq (⟨"TypeLoom$Forms", "joinPair", "()V"⟩, 11) := ⟨⟨by decide +kernel, by decide +kernel⟩, List.mem_of_getElem? (i := 358) (by decide +kernel), List.mem_of_getElem? (i := 1146) (by decide +kernel), List.mem_of_getElem? (i := 1147) (by decide +kernel)⟩
theorem lw_p71 : lw_okq (⟨"TypeLoom$Forms", "joinArrows", "(I)V"⟩, 11) := ⟨⟨by decide +kernel, by decide +kernel⟩, List.mem_of_getElem? (i := 358) (by decide +kernel), List.mem_of_getElem? (i := 1151) (by decide +kernel), List.mem_of_getElem? (i := 1152) (by decide +kernel)⟩
theorem lw_p72 : lw_okq (⟨"TypeLoom$Writer", "lengthOf", "(I)I"⟩, 7) := ⟨⟨by decide +kernel, by decide +kernel⟩, List.mem_of_getElem? (i := 435) (by decide +kernel), List.mem_of_getElem? (i := 1174) (by decide +kernel), List.mem_of_getElem? (i := 1175) (by decide +kernel)⟩
theorem lw_p73 : lw_okq (⟨"TypeLoom$Writer", "ownLength", "(I)I"⟩, 7) := ⟨⟨by decide +kernel, by decide +kernel⟩, List.mem_of_getElem? (i := 435) (by decide +kernel), List.mem_of_getElem? (i := 1192) (by decide +kernel), List.mem_of_getElem? (i := 1193) (by decide +kernel)⟩
theorem lw_p74 : lw_okq (⟨"TypeLoom$Writer", "isWrapped", "(II)Z"⟩, 7) := ⟨⟨by decide +kernel, by decide +kernel⟩, List.mem_of_getElem? (i := 435) (by decide +kernel), List.mem_of_getElem? (i := 1206) (by decide +kernel), List.mem_of_getElem? (i := 1207) (by decide +kernel)⟩
theorem lw_p75 : lw_okq (⟨"TypeLoom$Writer", "blanks", "(I)I"⟩, 7) := ⟨⟨by decide +kernel, by decide +kernel⟩, List.mem_of_getElem? (i := 435) (by decide +kernel), List.mem_of_getElem? (i := 1210) (by decide +kernel), List.mem_of_getElem? (i := 1211) (by decide +kernel)⟩
theorem lw_p76 : lw_okq (⟨"TypeLoom$Writer", "later", "(I)V"⟩, 7) := ⟨⟨by decide +kernel, by decide +kernel⟩, List.mem_of_getElem? (i := 435) (by decide +kernel), List.mem_of_getElem? (i := 1221) (by decide +kernel), List.mem_of_getElem? (i := 1222) (by decide +kernel)⟩
theorem lw_p77 : lw_okq (⟨"TypeLoom$Writer", "putByte", "(I)V"⟩, 7) := ⟨⟨by decide +kernel, by decide +kernel⟩, List.mem_of_getElem? (i := 435) (by decide +kernel), List.mem_of_getElem? (i := 1225) (by decide +kernel), List.mem_of_getElem? (i := 1226) (by decide +kernel)⟩
theorem lw_p78 : lw_okq (⟨"TypeLoom$Writer", "putNode", "(I)V"⟩, 7) := ⟨⟨by decide +kernel, by decide +kernel⟩, List.mem_of_getElem? (i := 435) (by decide +kernel), List.mem_of_getElem? (i := 1229) (by decide +kernel), List.mem_of_getElem? (i := 1230) (by decide +kernel)⟩
theorem lw_p79 : lw_okq (⟨"TypeLoom$Writer", "putText", "(Ljava/lang/String;)V"⟩, 7) := ⟨⟨by decide +kernel, by decide +kernel⟩, List.mem_of_getElem? (i := 435) (by decide +kernel), List.mem_of_getElem? (i := 1234) (by decide +kernel), List.mem_of_getElem? (i := 1235) (by decide +kernel)⟩
def lw_privs_5 : List (MethodName × Nat) := [(⟨"TypeLoom$Forms", "letterOf", "(I)I"⟩, 11), (⟨"TypeLoom$Forms", "beginConstructor", "(I)V"⟩, 11), (⟨"TypeLoom$Forms", "endConstructor", "(I)V"⟩, 11), (⟨"TypeLoom$Forms", "useMark", "(I)V"⟩, 11), (⟨"TypeLoom$Forms", "putValue", "(I)V"⟩, 11), (⟨"TypeLoom$Forms", "useName", "(II)V"⟩, 11), (⟨"TypeLoom$Forms", "joinPair", "()V"⟩, 11), (⟨"TypeLoom$Forms", "joinArrows", "(I)V"⟩, 11), (⟨"TypeLoom$Writer", "lengthOf", "(I)I"⟩, 7), (⟨"TypeLoom$Writer", "ownLength", "(I)I"⟩, 7), (⟨"TypeLoom$Writer", "isWrapped", "(II)Z"⟩, 7), (⟨"TypeLoom$Writer", "blanks", "(I)I"⟩, 7), (⟨"TypeLoom$Writer", "later", "(I)V"⟩, 7), (⟨"TypeLoom$Writer", "putByte", "(I)V"⟩, 7), (⟨"TypeLoom$Writer", "putNode", "(I)V"⟩, 7), (⟨"TypeLoom$Writer", "putText", "(Ljava/lang/String;)V"⟩, 7)]
theorem lw_r5 : ∀ q ∈ lw_privs_5, lw_okq q := List.forall_mem_cons.mpr ⟨lw_p64, List.forall_mem_cons.mpr ⟨lw_p65, List.forall_mem_cons.mpr ⟨lw_p66, List.forall_mem_cons.mpr ⟨lw_p67, List.forall_mem_cons.mpr ⟨lw_p68, List.forall_mem_cons.mpr ⟨lw_p69, List.forall_mem_cons.mpr ⟨lw_p70, List.forall_mem_cons.mpr ⟨lw_p71, List.forall_mem_cons.mpr ⟨lw_p72, List.forall_mem_cons.mpr ⟨lw_p73, List.forall_mem_cons.mpr ⟨lw_p74, List.forall_mem_cons.mpr ⟨lw_p75, List.forall_mem_cons.mpr ⟨lw_p76, List.forall_mem_cons.mpr ⟨lw_p77, List.forall_mem_cons.mpr ⟨lw_p78, List.forall_mem_cons.mpr ⟨lw_p79, fun _ h => absurd h List.not_mem_nil⟩⟩⟩⟩⟩⟩⟩⟩⟩⟩⟩⟩⟩⟩⟩⟩
theorem lw_p80 : lw_okq (⟨"TypeLoom$Writer", "putMark", "(I)V"⟩, 7) := ⟨⟨by decide +kernel, by decide +kernel⟩, List.mem_of_getElem? (i := 435) (by decide +kernel), List.mem_of_getElem? (i := 1241) (by decide +kernel), List.mem_of_getElem? (i := 1242) (by decide +kernel)⟩
theorem lw_p81 : lw_okq (⟨"TypeLoom$Writer", "laterPart", "(II)V"⟩, 7) := ⟨⟨by decide +kernel, by decide +kernel⟩, List.mem_of_getElem? (i := 435) (by decide +kernel), List.mem_of_getElem? (i := 1248) (by decide +kernel), List.mem_of_getElem? (i := 1249) (by decide +kernel)⟩
theorem lw_p82 : lw_okq (⟨"TypeLoom$Writer", "laterText", "(Ljava/lang/String;)V"⟩, 7) := ⟨⟨by decide +kernel, by decide +kernel⟩, List.mem_of_getElem? (i := 435) (by decide +kernel), List.mem_of_getElem? (i := 1253) (by decide +kernel), List.mem_of_getElem? (i := 1254) (by decide +kernel)⟩
theorem lw_p83 : lw_okq (⟨"TypeLoom$Writer", "putNamed", "(II)V"⟩, 7) := ⟨⟨by decide +kernel, by decide +kernel⟩, List.mem_of_getElem? (i := 435) (by decide +kernel), List.mem_of_getElem? (i := 1258) (by decide +kernel), List.mem_of_getElem? (i := 1259) (by decide +kernel)⟩
theorem lw_p84 : lw_okq (⟨"TypeLoom", "measured", "(II)I"⟩, 11) := ⟨⟨by decide +kernel, by decide +kernel⟩, List.mem_of_getElem? (i := 28) (by decide +kernel), List.mem_of_getElem? (i := 1273) (by decide +kernel), List.mem_of_getElem? (i := 1274) (by decide +kernel)⟩
theorem lw_p85 : lw_okq (⟨"TypeLoom", "amountOf", "(I)I"⟩, 11) := ⟨⟨by decide +kernel, by decide +kernel⟩, List.mem_of_getElem? (i := 28) (by decide +kernel), List.mem_of_getElem? (i := 1293) (by decide +kernel), List.mem_of_getElem? (i := 1294) (by decide +kernel)⟩
theorem lw_p86 : lw_okq (⟨"java/lang/Throwable", "fillInStackTrace", "(I)Ljava/lang/Throwable;"⟩, 6) := ⟨⟨by decide +kernel, by decide +kernel⟩, List.mem_of_getElem? (i := 1363) (by decide +kernel), List.mem_of_getElem? (i := 1361) (by decide +kernel), List.mem_of_getElem? (i := 1362) (by decide +kernel)⟩
theorem lw_p87 : lw_okq (⟨"TypeLoom", "append", "(I)V"⟩, 11) := ⟨⟨by decide +kernel, by decide +kernel⟩, List.mem_of_getElem? (i := 28) (by decide +kernel), List.mem_of_getElem? (i := 1392) (by decide +kernel), List.mem_of_getElem? (i := 1393) (by decide +kernel)⟩
theorem lw_p88 : lw_okq (⟨"TypeLoomModel", "known", "()V"⟩, 71) := ⟨⟨by decide +kernel, by decide +kernel⟩, List.mem_of_getElem? (i := 1528) (by decide +kernel), List.mem_of_getElem? (i := 1535) (by decide +kernel), List.mem_of_getElem? (i := 1536) (by decide +kernel)⟩
theorem lw_p89 : lw_okq (⟨"TypeLoomModel", "type", "(IIIII)I"⟩, 71) := ⟨⟨by decide +kernel, by decide +kernel⟩, List.mem_of_getElem? (i := 1528) (by decide +kernel), List.mem_of_getElem? (i := 1539) (by decide +kernel), List.mem_of_getElem? (i := 1540) (by decide +kernel)⟩
theorem lw_p90 : lw_okq (⟨"TypeLoomModel", "general", "()I"⟩, 71) := ⟨⟨by decide +kernel, by decide +kernel⟩, List.mem_of_getElem? (i := 1528) (by decide +kernel), List.mem_of_getElem? (i := 1562) (by decide +kernel), List.mem_of_getElem? (i := 1563) (by decide +kernel)⟩
theorem lw_p91 : lw_okq (⟨"TypeLoomModel", "fun", "(II)I"⟩, 71) := ⟨⟨by decide +kernel, by decide +kernel⟩, List.mem_of_getElem? (i := 1528) (by decide +kernel), List.mem_of_getElem? (i := 1568) (by decide +kernel), List.mem_of_getElem? (i := 1569) (by decide +kernel)⟩
theorem lw_p92 : lw_okq (⟨"TypeLoomModel", "pair", "(II)I"⟩, 71) := ⟨⟨by decide +kernel, by decide +kernel⟩, List.mem_of_getElem? (i := 1528) (by decide +kernel), List.mem_of_getElem? (i := 1574) (by decide +kernel), List.mem_of_getElem? (i := 1575) (by decide +kernel)⟩
theorem lw_p93 : lw_okq (⟨"TypeLoomModel", "no", "(I)I"⟩, 71) := ⟨⟨by decide +kernel, by decide +kernel⟩, List.mem_of_getElem? (i := 1528) (by decide +kernel), List.mem_of_getElem? (i := 1800) (by decide +kernel), List.mem_of_getElem? (i := 1801) (by decide +kernel)⟩
theorem lw_p94 : lw_okq (⟨"TypeLoomModel", "scan", "()V"⟩, 71) := ⟨⟨by decide +kernel, by decide +kernel⟩, List.mem_of_getElem? (i := 1528) (by decide +kernel), List.mem_of_getElem? (i := 1812) (by decide +kernel), List.mem_of_getElem? (i := 1813) (by decide +kernel)⟩
theorem lw_p95 : lw_okq (⟨"TypeLoomModel", "tapeAt", "(I)I"⟩, 71) := ⟨⟨by decide +kernel, by decide +kernel⟩, List.mem_of_getElem? (i := 1528) (by decide +kernel), List.mem_of_getElem? (i := 1816) (by decide +kernel), List.mem_of_getElem? (i := 1817) (by decide +kernel)⟩
def lw_privs_6 : List (MethodName × Nat) := [(⟨"TypeLoom$Writer", "putMark", "(I)V"⟩, 7), (⟨"TypeLoom$Writer", "laterPart", "(II)V"⟩, 7), (⟨"TypeLoom$Writer", "laterText", "(Ljava/lang/String;)V"⟩, 7), (⟨"TypeLoom$Writer", "putNamed", "(II)V"⟩, 7), (⟨"TypeLoom", "measured", "(II)I"⟩, 11), (⟨"TypeLoom", "amountOf", "(I)I"⟩, 11), (⟨"java/lang/Throwable", "fillInStackTrace", "(I)Ljava/lang/Throwable;"⟩, 6), (⟨"TypeLoom", "append", "(I)V"⟩, 11), (⟨"TypeLoomModel", "known", "()V"⟩, 71), (⟨"TypeLoomModel", "type", "(IIIII)I"⟩, 71), (⟨"TypeLoomModel", "general", "()I"⟩, 71), (⟨"TypeLoomModel", "fun", "(II)I"⟩, 71), (⟨"TypeLoomModel", "pair", "(II)I"⟩, 71), (⟨"TypeLoomModel", "no", "(I)I"⟩, 71), (⟨"TypeLoomModel", "scan", "()V"⟩, 71), (⟨"TypeLoomModel", "tapeAt", "(I)I"⟩, 71)]
theorem lw_r6 : ∀ q ∈ lw_privs_6, lw_okq q := List.forall_mem_cons.mpr ⟨lw_p80, List.forall_mem_cons.mpr ⟨lw_p81, List.forall_mem_cons.mpr ⟨lw_p82, List.forall_mem_cons.mpr ⟨lw_p83, List.forall_mem_cons.mpr ⟨lw_p84, List.forall_mem_cons.mpr ⟨lw_p85, List.forall_mem_cons.mpr ⟨lw_p86, List.forall_mem_cons.mpr ⟨lw_p87, List.forall_mem_cons.mpr ⟨lw_p88, List.forall_mem_cons.mpr ⟨lw_p89, List.forall_mem_cons.mpr ⟨lw_p90, List.forall_mem_cons.mpr ⟨lw_p91, List.forall_mem_cons.mpr ⟨lw_p92, List.forall_mem_cons.mpr ⟨lw_p93, List.forall_mem_cons.mpr ⟨lw_p94, List.forall_mem_cons.mpr ⟨lw_p95, fun _ h => absurd h List.not_mem_nil⟩⟩⟩⟩⟩⟩⟩⟩⟩⟩⟩⟩⟩⟩⟩⟩
theorem lw_p96 : lw_okq (⟨"TypeLoomModel", "symbolAt", "(I)I"⟩, 71) := ⟨⟨by decide +kernel, by decide +kernel⟩, List.mem_of_getElem? (i := 1528) (by decide +kernel), List.mem_of_getElem? (i := 1823) (by decide +kernel), List.mem_of_getElem? (i := 1824) (by decide +kernel)⟩
theorem lw_p97 : lw_okq (⟨"TypeLoomModel", "programForm", "()Z"⟩, 71) := ⟨⟨by decide +kernel, by decide +kernel⟩, List.mem_of_getElem? (i := 1528) (by decide +kernel), List.mem_of_getElem? (i := 1830) (by decide +kernel), List.mem_of_getElem? (i := 1831) (by decide +kernel)⟩
theorem lw_p98 : lw_okq (⟨"TypeLoomModel", "itemForm", "()Z"⟩, 71) := ⟨⟨by decide +kernel, by decide +kernel⟩, List.mem_of_getElem? (i := 1528) (by decide +kernel), List.mem_of_getElem? (i := 1834) (by decide +kernel), List.mem_of_getElem? (i := 1835) (by decide +kernel)⟩
theorem lw_p99 : lw_okq (⟨"TypeLoomModel", "takes", "(Ljava/lang/String;)Z"⟩, 71) := ⟨⟨by decide +kernel, by decide +kernel⟩, List.mem_of_getElem? (i := 1528) (by decide +kernel), List.mem_of_getElem? (i := 1839) (by decide +kernel), List.mem_of_getElem? (i := 1840) (by decide +kernel)⟩
theorem lw_p100 : lw_okq (⟨"TypeLoomModel", "sees", "(Ljava/lang/String;)Z"⟩, 71) := ⟨⟨by decide +kernel, by decide +kernel⟩, List.mem_of_getElem? (i := 1528) (by decide +kernel), List.mem_of_getElem? (i := 1843) (by decide +kernel), List.mem_of_getElem? (i := 1844) (by decide +kernel)⟩
theorem lw_p101 : lw_okq (⟨"TypeLoomModel", "is", "(ILjava/lang/String;)Z"⟩, 71) := ⟨⟨by decide +kernel, by decide +kernel⟩, List.mem_of_getElem? (i := 1528) (by decide +kernel), List.mem_of_getElem? (i := 1847) (by decide +kernel), List.mem_of_getElem? (i := 1848) (by decide +kernel)⟩
theorem lw_p102 : lw_okq (⟨"TypeLoomModel", "goes", "()Z"⟩, 71) := ⟨⟨by decide +kernel, by decide +kernel⟩, List.mem_of_getElem? (i := 1528) (by decide +kernel), List.mem_of_getElem? (i := 1851) (by decide +kernel), List.mem_of_getElem? (i := 1852) (by decide +kernel)⟩
theorem lw_p103 : lw_okq (⟨"TypeLoomModel", "takesName", "()Z"⟩, 71) := ⟨⟨by decide +kernel, by decide +kernel⟩, List.mem_of_getElem? (i := 1528) (by decide +kernel), List.mem_of_getElem? (i := 1855) (by decide +kernel), List.mem_of_getElem? (i := 1856) (by decide +kernel)⟩
theorem lw_p104 : lw_okq (⟨"TypeLoomModel", "isName", "(I)Z"⟩, 71) := ⟨⟨by decide +kernel, by decide +kernel⟩, List.mem_of_getElem? (i := 1528) (by decide +kernel), List.mem_of_getElem? (i := 1859) (by decide +kernel), List.mem_of_getElem? (i := 1860) (by decide +kernel)⟩
theorem lw_p105 : lw_okq (⟨"TypeLoomModel", "makersForm", "()Z"⟩, 71) := ⟨⟨by decide +kernel, by decide +kernel⟩, List.mem_of_getElem? (i := 1528) (by decide +kernel), List.mem_of_getElem? (i := 1866) (by decide +kernel), List.mem_of_getElem? (i := 1867) (by decide +kernel)⟩
theorem lw_p106 : lw_okq (⟨"TypeLoomModel", "isPartNext", "()Z"⟩, 71) := ⟨⟨by decide +kernel, by decide +kernel⟩, List.mem_of_getElem? (i := 1528) (by decide +kernel), List.mem_of_getElem? (i := 1870) (by decide +kernel), List.mem_of_getElem? (i := 1871) (by decide +kernel)⟩
theorem lw_p107 : lw_okq (⟨"TypeLoomModel", "partForm", "(I)Z"⟩, 71) := ⟨⟨by decide +kernel, by decide +kernel⟩, List.mem_of_getElem? (i := 1528) (by decide +kernel), List.mem_of_getElem? (i := 1875) (by decide +kernel), List.mem_of_getElem? (i := 1876) (by decide +kernel)⟩
theorem lw_p108 : lw_okq (⟨"TypeLoomModel", "formForm", "(I)Z"⟩, 71) := ⟨⟨by decide +kernel, by decide +kernel⟩, List.mem_of_getElem? (i := 1528) (by decide +kernel), List.mem_of_getElem? (i := 1879) (by decide +kernel), List.mem_of_getElem? (i := 1880) (by decide +kernel)⟩
theorem lw_p109 : lw_okq (⟨"TypeLoomModel", "useForm", "(I)Z"⟩, 71) := ⟨⟨by decide +kernel, by decide +kernel⟩, List.mem_of_getElem? (i := 1528) (by decide +kernel), List.mem_of_getElem? (i := 1883) (by decide +kernel), List.mem_of_getElem? (i := 1884) (by decide +kernel)⟩
theorem lw_p110 : lw_okq (⟨"TypeLoomModel", "expressionForm", "(I)Z"⟩, 71) := ⟨⟨by decide +kernel, by decide +kernel⟩, List.mem_of_getElem? (i := 1528) (by decide +kernel), List.mem_of_getElem? (i := 1894) (by decide +kernel), List.mem_of_getElem? (i := 1895) (by decide +kernel)⟩
theorem lw_p111 : lw_okq (⟨"TypeLoomModel", "choicesForm", "(I)Z"⟩, 71) := ⟨⟨by decide +kernel, by decide +kernel⟩, List.mem_of_getElem? (i := 1528) (by decide +kernel), List.mem_of_getElem? (i := 1906) (by decide +kernel), List.mem_of_getElem? (i := 1907) (by decide +kernel)⟩
def lw_privs_7 : List (MethodName × Nat) := [(⟨"TypeLoomModel", "symbolAt", "(I)I"⟩, 71), (⟨"TypeLoomModel", "programForm", "()Z"⟩, 71), (⟨"TypeLoomModel", "itemForm", "()Z"⟩, 71), (⟨"TypeLoomModel", "takes", "(Ljava/lang/String;)Z"⟩, 71), (⟨"TypeLoomModel", "sees", "(Ljava/lang/String;)Z"⟩, 71), (⟨"TypeLoomModel", "is", "(ILjava/lang/String;)Z"⟩, 71), (⟨"TypeLoomModel", "goes", "()Z"⟩, 71), (⟨"TypeLoomModel", "takesName", "()Z"⟩, 71), (⟨"TypeLoomModel", "isName", "(I)Z"⟩, 71), (⟨"TypeLoomModel", "makersForm", "()Z"⟩, 71), (⟨"TypeLoomModel", "isPartNext", "()Z"⟩, 71), (⟨"TypeLoomModel", "partForm", "(I)Z"⟩, 71), (⟨"TypeLoomModel", "formForm", "(I)Z"⟩, 71), (⟨"TypeLoomModel", "useForm", "(I)Z"⟩, 71), (⟨"TypeLoomModel", "expressionForm", "(I)Z"⟩, 71), (⟨"TypeLoomModel", "choicesForm", "(I)Z"⟩, 71)]
theorem lw_r7 : ∀ q ∈ lw_privs_7, lw_okq q := List.forall_mem_cons.mpr ⟨lw_p96, List.forall_mem_cons.mpr ⟨lw_p97, List.forall_mem_cons.mpr ⟨lw_p98, List.forall_mem_cons.mpr ⟨lw_p99, List.forall_mem_cons.mpr ⟨lw_p100, List.forall_mem_cons.mpr ⟨lw_p101, List.forall_mem_cons.mpr ⟨lw_p102, List.forall_mem_cons.mpr ⟨lw_p103, List.forall_mem_cons.mpr ⟨lw_p104, List.forall_mem_cons.mpr ⟨lw_p105, List.forall_mem_cons.mpr ⟨lw_p106, List.forall_mem_cons.mpr ⟨lw_p107, List.forall_mem_cons.mpr ⟨lw_p108, List.forall_mem_cons.mpr ⟨lw_p109, List.forall_mem_cons.mpr ⟨lw_p110, List.forall_mem_cons.mpr ⟨lw_p111, fun _ h => absurd h List.not_mem_nil⟩⟩⟩⟩⟩⟩⟩⟩⟩⟩⟩⟩⟩⟩⟩⟩
theorem lw_p112 : lw_okq (⟨"TypeLoomModel", "sumForm", "(I)Z"⟩, 71) := ⟨⟨by decide +kernel, by decide +kernel⟩, List.mem_of_getElem? (i := 1528) (by decide +kernel), List.mem_of_getElem? (i := 1911) (by decide +kernel), List.mem_of_getElem? (i := 1912) (by decide +kernel)⟩
theorem lw_p113 : lw_okq (⟨"TypeLoomModel", "productForm", "(I)Z"⟩, 71) := ⟨⟨by decide +kernel, by decide +kernel⟩, List.mem_of_getElem? (i := 1528) (by decide +kernel), List.mem_of_getElem? (i := 1915) (by decide +kernel), List.mem_of_getElem? (i := 1916) (by decide +kernel)⟩
theorem lw_p114 : lw_okq (⟨"TypeLoomModel", "callForm", "(I)Z"⟩, 71) := ⟨⟨by decide +kernel, by decide +kernel⟩, List.mem_of_getElem? (i := 1528) (by decide +kernel), List.mem_of_getElem? (i := 1919) (by decide +kernel), List.mem_of_getElem? (i := 1920) (by decide +kernel)⟩
theorem lw_p115 : lw_okq (⟨"TypeLoomModel", "atomForm", "(I)Z"⟩, 71) := ⟨⟨by decide +kernel, by decide +kernel⟩, List.mem_of_getElem? (i := 1528) (by decide +kernel), List.mem_of_getElem? (i := 1923) (by decide +kernel), List.mem_of_getElem? (i := 1924) (by decide +kernel)⟩
theorem lw_p116 : lw_okq (⟨"TypeLoomModel", "isAtomNext", "()Z"⟩, 71) := ⟨⟨by decide +kernel, by decide +kernel⟩, List.mem_of_getElem? (i := 1528) (by decide +kernel), List.mem_of_getElem? (i := 1927) (by decide +kernel), List.mem_of_getElem? (i := 1928) (by decide +kernel)⟩
theorem lw_p117 : lw_okq (⟨"TypeLoomModel", "wrong", "(II)I"⟩, 71) := ⟨⟨by decide +kernel, by decide +kernel⟩, List.mem_of_getElem? (i := 1528) (by decide +kernel), List.mem_of_getElem? (i := 1937) (by decide +kernel), List.mem_of_getElem? (i := 1938) (by decide +kernel)⟩
theorem lw_p118 : lw_okq (⟨"TypeLoomModel", "meaning", "()I"⟩, 71) := ⟨⟨by decide +kernel, by decide +kernel⟩, List.mem_of_getElem? (i := 1528) (by decide +kernel), List.mem_of_getElem? (i := 1941) (by decide +kernel), List.mem_of_getElem? (i := 1942) (by decide +kernel)⟩
theorem lw_p119 : lw_okq (⟨"TypeLoomModel", "typeItem", "()I"⟩, 71) := ⟨⟨by decide +kernel, by decide +kernel⟩, List.mem_of_getElem? (i := 1528) (by decide +kernel), List.mem_of_getElem? (i := 1945) (by decide +kernel), List.mem_of_getElem? (i := 1946) (by decide +kernel)⟩
theorem lw_p120 : lw_okq (⟨"TypeLoomModel", "nameOf", "(I)J"⟩, 71) := ⟨⟨by decide +kernel, by decide +kernel⟩, List.mem_of_getElem? (i := 1528) (by decide +kernel), List.mem_of_getElem? (i := 1951) (by decide +kernel), List.mem_of_getElem? (i := 1952) (by decide +kernel)⟩
theorem lw_p121 : lw_okq (⟨"TypeLoomModel", "findType", "(J)I"⟩, 71) := ⟨⟨by decide +kernel, by decide +kernel⟩, List.mem_of_getElem? (i := 1528) (by decide +kernel), List.mem_of_getElem? (i := 1955) (by decide +kernel), List.mem_of_getElem? (i := 1956) (by decide +kernel)⟩
theorem lw_p122 : lw_okq (⟨"TypeLoomModel", "clearMarks", "(Z)V"⟩, 71) := ⟨⟨by decide +kernel, by decide +kernel⟩, List.mem_of_getElem? (i := 1528) (by decide +kernel), List.mem_of_getElem? (i := 1959) (by decide +kernel), List.mem_of_getElem? (i := 1960) (by decide +kernel)⟩
theorem lw_p123 : lw_okq (⟨"TypeLoomModel", "letterAt", "(I)I"⟩, 71) := ⟨⟨by decide +kernel, by decide +kernel⟩, List.mem_of_getElem? (i := 1528) (by decide +kernel), List.mem_of_getElem? (i := 1963) (by decide +kernel), List.mem_of_getElem? (i := 1964) (by decide +kernel)⟩
theorem lw_p124 : lw_okq (⟨"TypeLoomModel", "maker", "(I)I"⟩, 71) := ⟨⟨by decide +kernel, by decide +kernel⟩, List.mem_of_getElem? (i := 1528) (by decide +kernel), List.mem_of_getElem? (i := 1967) (by decide +kernel), List.mem_of_getElem? (i := 1968) (by decide +kernel)⟩
theorem lw_p125 : lw_okq (⟨"TypeLoomModel", "findMaker", "(J)I"⟩, 71) := ⟨⟨by decide +kernel, by decide +kernel⟩, List.mem_of_getElem? (i := 1528) (by decide +kernel), List.mem_of_getElem? (i := 1971) (by decide +kernel), List.mem_of_getElem? (i := 1972) (by decide +kernel)⟩
theorem lw_p126 : lw_okq (⟨"TypeLoomModel", "part", "()I"⟩, 71) := ⟨⟨by decide +kernel, by decide +kernel⟩, List.mem_of_getElem? (i := 1528) (by decide +kernel), List.mem_of_getElem? (i := 1975) (by decide +kernel), List.mem_of_getElem? (i := 1976) (by decide +kernel)⟩
theorem lw_p127 : lw_okq (⟨"TypeLoomModel", "markHere", "()I"⟩, 71) := ⟨⟨by decide +kernel, by decide +kernel⟩, List.mem_of_getElem? (i := 1528) (by decide +kernel), List.mem_of_getElem? (i := 1979) (by decide +kernel), List.mem_of_getElem? (i := 1980) (by decide +kernel)⟩
def lw_privs_8 : List (MethodName × Nat) := [(⟨"TypeLoomModel", "sumForm", "(I)Z"⟩, 71), (⟨"TypeLoomModel", "productForm", "(I)Z"⟩, 71), (⟨"TypeLoomModel", "callForm", "(I)Z"⟩, 71), (⟨"TypeLoomModel", "atomForm", "(I)Z"⟩, 71), (⟨"TypeLoomModel", "isAtomNext", "()Z"⟩, 71), (⟨"TypeLoomModel", "wrong", "(II)I"⟩, 71), (⟨"TypeLoomModel", "meaning", "()I"⟩, 71), (⟨"TypeLoomModel", "typeItem", "()I"⟩, 71), (⟨"TypeLoomModel", "nameOf", "(I)J"⟩, 71), (⟨"TypeLoomModel", "findType", "(J)I"⟩, 71), (⟨"TypeLoomModel", "clearMarks", "(Z)V"⟩, 71), (⟨"TypeLoomModel", "letterAt", "(I)I"⟩, 71), (⟨"TypeLoomModel", "maker", "(I)I"⟩, 71), (⟨"TypeLoomModel", "findMaker", "(J)I"⟩, 71), (⟨"TypeLoomModel", "part", "()I"⟩, 71), (⟨"TypeLoomModel", "markHere", "()I"⟩, 71)]
theorem lw_r8 : ∀ q ∈ lw_privs_8, lw_okq q := List.forall_mem_cons.mpr ⟨lw_p112, List.forall_mem_cons.mpr ⟨lw_p113, List.forall_mem_cons.mpr ⟨lw_p114, List.forall_mem_cons.mpr ⟨lw_p115, List.forall_mem_cons.mpr ⟨lw_p116, List.forall_mem_cons.mpr ⟨lw_p117, List.forall_mem_cons.mpr ⟨lw_p118, List.forall_mem_cons.mpr ⟨lw_p119, List.forall_mem_cons.mpr ⟨lw_p120, List.forall_mem_cons.mpr ⟨lw_p121, List.forall_mem_cons.mpr ⟨lw_p122, List.forall_mem_cons.mpr ⟨lw_p123, List.forall_mem_cons.mpr ⟨lw_p124, List.forall_mem_cons.mpr ⟨lw_p125, List.forall_mem_cons.mpr ⟨lw_p126, List.forall_mem_cons.mpr ⟨lw_p127, fun _ h => absurd h List.not_mem_nil⟩⟩⟩⟩⟩⟩⟩⟩⟩⟩⟩⟩⟩⟩⟩⟩
theorem lw_p128 : lw_okq (⟨"TypeLoomModel", "mark", "()I"⟩, 71) := ⟨⟨by decide +kernel, by decide +kernel⟩, List.mem_of_getElem? (i := 1528) (by decide +kernel), List.mem_of_getElem? (i := 1983) (by decide +kernel), List.mem_of_getElem? (i := 1984) (by decide +kernel)⟩
theorem lw_p129 : lw_okq (⟨"TypeLoomModel", "nameHere", "(Z)I"⟩, 71) := ⟨⟨by decide +kernel, by decide +kernel⟩, List.mem_of_getElem? (i := 1528) (by decide +kernel), List.mem_of_getElem? (i := 1987) (by decide +kernel), List.mem_of_getElem? (i := 1988) (by decide +kernel)⟩
theorem lw_p130 : lw_okq (⟨"TypeLoomModel", "form", "()I"⟩, 71) := ⟨⟨by decide +kernel, by decide +kernel⟩, List.mem_of_getElem? (i := 1528) (by decide +kernel), List.mem_of_getElem? (i := 1991) (by decide +kernel), List.mem_of_getElem? (i := 1992) (by decide +kernel)⟩
theorem lw_p131 : lw_okq (⟨"TypeLoomModel", "use", "()I"⟩, 71) := ⟨⟨by decide +kernel, by decide +kernel⟩, List.mem_of_getElem? (i := 1528) (by decide +kernel), List.mem_of_getElem? (i := 1995) (by decide +kernel), List.mem_of_getElem? (i := 1996) (by decide +kernel)⟩
theorem lw_p132 : lw_okq (⟨"TypeLoomModel", "definition", "()I"⟩, 71) := ⟨⟨by decide +kernel, by decide +kernel⟩, List.mem_of_getElem? (i := 1528) (by decide +kernel), List.mem_of_getElem? (i := 1999) (by decide +kernel), List.mem_of_getElem? (i := 2000) (by decide +kernel)⟩
theorem lw_p133 : lw_okq (⟨"TypeLoomModel", "findDef", "(J)I"⟩, 71) := ⟨⟨by decide +kernel, by decide +kernel⟩, List.mem_of_getElem? (i := 1528) (by decide +kernel), List.mem_of_getElem? (i := 2003) (by decide +kernel), List.mem_of_getElem? (i := 2004) (by decide +kernel)⟩
theorem lw_p134 : lw_okq (⟨"TypeLoomModel", "expression", "()I"⟩, 71) := ⟨⟨by decide +kernel, by decide +kernel⟩, List.mem_of_getElem? (i := 1528) (by decide +kernel), List.mem_of_getElem? (i := 2007) (by decide +kernel), List.mem_of_getElem? (i := 2008) (by decide +kernel)⟩
theorem lw_p135 : lw_okq (⟨"TypeLoomModel", "make", "(IIIII)I"⟩, 71) := ⟨⟨by decide +kernel, by decide +kernel⟩, List.mem_of_getElem? (i := 1528) (by decide +kernel), List.mem_of_getElem? (i := 2011) (by decide +kernel), List.mem_of_getElem? (i := 2012) (by decide +kernel)⟩
theorem lw_p136 : lw_okq (⟨"TypeLoomModel", "binders", "()I"⟩, 71) := ⟨⟨by decide +kernel, by decide +kernel⟩, List.mem_of_getElem? (i := 1528) (by decide +kernel), List.mem_of_getElem? (i := 2015) (by decide +kernel), List.mem_of_getElem? (i := 2016) (by decide +kernel)⟩
theorem lw_p137 : lw_okq (⟨"TypeLoomModel", "relation", "(I)I"⟩, 71) := ⟨⟨by decide +kernel, by decide +kernel⟩, List.mem_of_getElem? (i := 1528) (by decide +kernel), List.mem_of_getElem? (i := 2019) (by decide +kernel), List.mem_of_getElem? (i := 2020) (by decide +kernel)⟩
theorem lw_p138 : lw_okq (⟨"TypeLoomModel", "sum", "(I)I"⟩, 71) := ⟨⟨by decide +kernel, by decide +kernel⟩, List.mem_of_getElem? (i := 1528) (by decide +kernel), List.mem_of_getElem? (i := 2023) (by decide +kernel), List.mem_of_getElem? (i := 2024) (by decide +kernel)⟩
theorem lw_p139 : lw_okq (⟨"TypeLoomModel", "product", "(I)I"⟩, 71) := ⟨⟨by decide +kernel, by decide +kernel⟩, List.mem_of_getElem? (i := 1528) (by decide +kernel), List.mem_of_getElem? (i := 2027) (by decide +kernel), List.mem_of_getElem? (i := 2028) (by decide +kernel)⟩
theorem lw_p140 : lw_okq (⟨"TypeLoomModel", "call", "(I)I"⟩, 71) := ⟨⟨by decide +kernel, by decide +kernel⟩, List.mem_of_getElem? (i := 1528) (by decide +kernel), List.mem_of_getElem? (i := 2031) (by decide +kernel), List.mem_of_getElem? (i := 2032) (by decide +kernel)⟩
theorem lw_p141 : lw_okq (⟨"TypeLoomModel", "atom", "()I"⟩, 71) := ⟨⟨by decide +kernel, by decide +kernel⟩, List.mem_of_getElem? (i := 1528) (by decide +kernel), List.mem_of_getElem? (i := 2035) (by decide +kernel), List.mem_of_getElem? (i := 2036) (by decide +kernel)⟩
theorem lw_p142 : lw_okq (⟨"TypeLoomModel", "choices", "()I"⟩, 71) := ⟨⟨by decide +kernel, by decide +kernel⟩, List.mem_of_getElem? (i := 1528) (by decide +kernel), List.mem_of_getElem? (i := 2039) (by decide +kernel), List.mem_of_getElem? (i := 2040) (by decide +kernel)⟩
theorem lw_p143 : lw_okq (⟨"TypeLoomModel", "free", "()I"⟩, 71) := ⟨⟨by decide +kernel, by decide +kernel⟩, List.mem_of_getElem? (i := 1528) (by decide +kernel), List.mem_of_getElem? (i := 2043) (by decide +kernel), List.mem_of_getElem? (i := 2044) (by decide +kernel)⟩
def lw_privs_9 : List (MethodName × Nat) := [(⟨"TypeLoomModel", "mark", "()I"⟩, 71), (⟨"TypeLoomModel", "nameHere", "(Z)I"⟩, 71), (⟨"TypeLoomModel", "form", "()I"⟩, 71), (⟨"TypeLoomModel", "use", "()I"⟩, 71), (⟨"TypeLoomModel", "definition", "()I"⟩, 71), (⟨"TypeLoomModel", "findDef", "(J)I"⟩, 71), (⟨"TypeLoomModel", "expression", "()I"⟩, 71), (⟨"TypeLoomModel", "make", "(IIIII)I"⟩, 71), (⟨"TypeLoomModel", "binders", "()I"⟩, 71), (⟨"TypeLoomModel", "relation", "(I)I"⟩, 71), (⟨"TypeLoomModel", "sum", "(I)I"⟩, 71), (⟨"TypeLoomModel", "product", "(I)I"⟩, 71), (⟨"TypeLoomModel", "call", "(I)I"⟩, 71), (⟨"TypeLoomModel", "atom", "()I"⟩, 71), (⟨"TypeLoomModel", "choices", "()I"⟩, 71), (⟨"TypeLoomModel", "free", "()I"⟩, 71)]
theorem lw_r9 : ∀ q ∈ lw_privs_9, lw_okq q := List.forall_mem_cons.mpr ⟨lw_p128, List.forall_mem_cons.mpr ⟨lw_p129, List.forall_mem_cons.mpr ⟨lw_p130, List.forall_mem_cons.mpr ⟨lw_p131, List.forall_mem_cons.mpr ⟨lw_p132, List.forall_mem_cons.mpr ⟨lw_p133, List.forall_mem_cons.mpr ⟨lw_p134, List.forall_mem_cons.mpr ⟨lw_p135, List.forall_mem_cons.mpr ⟨lw_p136, List.forall_mem_cons.mpr ⟨lw_p137, List.forall_mem_cons.mpr ⟨lw_p138, List.forall_mem_cons.mpr ⟨lw_p139, List.forall_mem_cons.mpr ⟨lw_p140, List.forall_mem_cons.mpr ⟨lw_p141, List.forall_mem_cons.mpr ⟨lw_p142, List.forall_mem_cons.mpr ⟨lw_p143, fun _ h => absurd h List.not_mem_nil⟩⟩⟩⟩⟩⟩⟩⟩⟩⟩⟩⟩⟩⟩⟩⟩
theorem lw_p144 : lw_okq (⟨"TypeLoomModel", "infer", "(I)I"⟩, 71) := ⟨⟨by decide +kernel, by decide +kernel⟩, List.mem_of_getElem? (i := 1528) (by decide +kernel), List.mem_of_getElem? (i := 2047) (by decide +kernel), List.mem_of_getElem? (i := 2048) (by decide +kernel)⟩
theorem lw_p145 : lw_okq (⟨"TypeLoomModel", "found", "(I)I"⟩, 71) := ⟨⟨by decide +kernel, by decide +kernel⟩, List.mem_of_getElem? (i := 1528) (by decide +kernel), List.mem_of_getElem? (i := 2051) (by decide +kernel), List.mem_of_getElem? (i := 2052) (by decide +kernel)⟩
theorem lw_p146 : lw_okq (⟨"TypeLoomModel", "byName", "(I)I"⟩, 71) := ⟨⟨by decide +kernel, by decide +kernel⟩, List.mem_of_getElem? (i := 1528) (by decide +kernel), List.mem_of_getElem? (i := 2055) (by decide +kernel), List.mem_of_getElem? (i := 2056) (by decide +kernel)⟩
theorem lw_p147 : lw_okq (⟨"TypeLoomModel", "anew", "(I)I"⟩, 71) := ⟨⟨by decide +kernel, by decide +kernel⟩, List.mem_of_getElem? (i := 1528) (by decide +kernel), List.mem_of_getElem? (i := 2059) (by decide +kernel), List.mem_of_getElem? (i := 2060) (by decide +kernel)⟩
theorem lw_p148 : lw_okq (⟨"TypeLoomModel", "copy", "(I)I"⟩, 71) := ⟨⟨by decide +kernel, by decide +kernel⟩, List.mem_of_getElem? (i := 1528) (by decide +kernel), List.mem_of_getElem? (i := 2063) (by decide +kernel), List.mem_of_getElem? (i := 2064) (by decide +kernel)⟩
theorem lw_p149 : lw_okq (⟨"TypeLoomModel", "parts", "(I)I"⟩, 71) := ⟨⟨by decide +kernel, by decide +kernel⟩, List.mem_of_getElem? (i := 1528) (by decide +kernel), List.mem_of_getElem? (i := 2067) (by decide +kernel), List.mem_of_getElem? (i := 2068) (by decide +kernel)⟩
theorem lw_p150 : lw_okq (⟨"TypeLoomModel", "called", "(II)I"⟩, 71) := ⟨⟨by decide +kernel, by decide +kernel⟩, List.mem_of_getElem? (i := 1528) (by decide +kernel), List.mem_of_getElem? (i := 2071) (by decide +kernel), List.mem_of_getElem? (i := 2072) (by decide +kernel)⟩
theorem lw_p151 : lw_okq (⟨"TypeLoomModel", "fit", "(II)Z"⟩, 71) := ⟨⟨by decide +kernel, by decide +kernel⟩, List.mem_of_getElem? (i := 1528) (by decide +kernel), List.mem_of_getElem? (i := 2075) (by decide +kernel), List.mem_of_getElem? (i := 2076) (by decide +kernel)⟩
theorem lw_p152 : lw_okq (⟨"TypeLoomModel", "end", "(I)I"⟩, 71) := ⟨⟨by decide +kernel, by decide +kernel⟩, List.mem_of_getElem? (i := 1528) (by decide +kernel), List.mem_of_getElem? (i := 2079) (by decide +kernel), List.mem_of_getElem? (i := 2080) (by decide +kernel)⟩
theorem lw_p153 : lw_okq (⟨"TypeLoomModel", "leader", "(I)I"⟩, 71) := ⟨⟨by decide +kernel, by decide +kernel⟩, List.mem_of_getElem? (i := 1528) (by decide +kernel), List.mem_of_getElem? (i := 2083) (by decide +kernel), List.mem_of_getElem? (i := 2084) (by decide +kernel)⟩
theorem lw_p154 : lw_okq (⟨"TypeLoomModel", "standsIn", "(II)Z"⟩, 71) := ⟨⟨by decide +kernel, by decide +kernel⟩, List.mem_of_getElem? (i := 1528) (by decide +kernel), List.mem_of_getElem? (i := 2087) (by decide +kernel), List.mem_of_getElem? (i := 2088) (by decide +kernel)⟩
theorem lw_p155 : lw_okq (⟨"TypeLoomModel", "part", "(II)I"⟩, 71) := ⟨⟨by decide +kernel, by decide +kernel⟩, List.mem_of_getElem? (i := 1528) (by decide +kernel), List.mem_of_getElem? (i := 2091) (by decide +kernel), List.mem_of_getElem? (i := 2092) (by decide +kernel)⟩
theorem lw_p156 : lw_okq (⟨"TypeLoomModel", "join", "(II)V"⟩, 71) := ⟨⟨by decide +kernel, by decide +kernel⟩, List.mem_of_getElem? (i := 1528) (by decide +kernel), List.mem_of_getElem? (i := 2095) (by decide +kernel), List.mem_of_getElem? (i := 2096) (by decide +kernel)⟩
theorem lw_p157 : lw_okq (⟨"TypeLoomModel", "must", "(II)V"⟩, 71) := ⟨⟨by decide +kernel, by decide +kernel⟩, List.mem_of_getElem? (i := 1528) (by decide +kernel), List.mem_of_getElem? (i := 2099) (by decide +kernel), List.mem_of_getElem? (i := 2100) (by decide +kernel)⟩
theorem lw_p158 : lw_okq (⟨"TypeLoomModel", "lambda", "(II)I"⟩, 71) := ⟨⟨by decide +kernel, by decide +kernel⟩, List.mem_of_getElem? (i := 1528) (by decide +kernel), List.mem_of_getElem? (i := 2103) (by decide +kernel), List.mem_of_getElem? (i := 2104) (by decide +kernel)⟩
theorem lw_p159 : lw_okq (⟨"TypeLoomModel", "bind", "(JII)V"⟩, 71) := ⟨⟨by decide +kernel, by decide +kernel⟩, List.mem_of_getElem? (i := 1528) (by decide +kernel), List.mem_of_getElem? (i := 2107) (by decide +kernel), List.mem_of_getElem? (i := 2108) (by decide +kernel)⟩
def lw_privs_10 : List (MethodName × Nat) := [(⟨"TypeLoomModel", "infer", "(I)I"⟩, 71), (⟨"TypeLoomModel", "found", "(I)I"⟩, 71), (⟨"TypeLoomModel", "byName", "(I)I"⟩, 71), (⟨"TypeLoomModel", "anew", "(I)I"⟩, 71), (⟨"TypeLoomModel", "copy", "(I)I"⟩, 71), (⟨"TypeLoomModel", "parts", "(I)I"⟩, 71), (⟨"TypeLoomModel", "called", "(II)I"⟩, 71), (⟨"TypeLoomModel", "fit", "(II)Z"⟩, 71), (⟨"TypeLoomModel", "end", "(I)I"⟩, 71), (⟨"TypeLoomModel", "leader", "(I)I"⟩, 71), (⟨"TypeLoomModel", "standsIn", "(II)Z"⟩, 71), (⟨"TypeLoomModel", "part", "(II)I"⟩, 71), (⟨"TypeLoomModel", "join", "(II)V"⟩, 71), (⟨"TypeLoomModel", "must", "(II)V"⟩, 71), (⟨"TypeLoomModel", "lambda", "(II)I"⟩, 71), (⟨"TypeLoomModel", "bind", "(JII)V"⟩, 71)]
theorem lw_r10 : ∀ q ∈ lw_privs_10, lw_okq q := List.forall_mem_cons.mpr ⟨lw_p144, List.forall_mem_cons.mpr ⟨lw_p145, List.forall_mem_cons.mpr ⟨lw_p146, List.forall_mem_cons.mpr ⟨lw_p147, List.forall_mem_cons.mpr ⟨lw_p148, List.forall_mem_cons.mpr ⟨lw_p149, List.forall_mem_cons.mpr ⟨lw_p150, List.forall_mem_cons.mpr ⟨lw_p151, List.forall_mem_cons.mpr ⟨lw_p152, List.forall_mem_cons.mpr ⟨lw_p153, List.forall_mem_cons.mpr ⟨lw_p154, List.forall_mem_cons.mpr ⟨lw_p155, List.forall_mem_cons.mpr ⟨lw_p156, List.forall_mem_cons.mpr ⟨lw_p157, List.forall_mem_cons.mpr ⟨lw_p158, List.forall_mem_cons.mpr ⟨lw_p159, fun _ h => absurd h List.not_mem_nil⟩⟩⟩⟩⟩⟩⟩⟩⟩⟩⟩⟩⟩⟩⟩⟩
theorem lw_p160 : lw_okq (⟨"TypeLoomModel", "let", "(I)I"⟩, 71) := ⟨⟨by decide +kernel, by decide +kernel⟩, List.mem_of_getElem? (i := 1528) (by decide +kernel), List.mem_of_getElem? (i := 2111) (by decide +kernel), List.mem_of_getElem? (i := 2112) (by decide +kernel)⟩
theorem lw_p161 : lw_okq (⟨"TypeLoomModel", "size", "(II)I"⟩, 71) := ⟨⟨by decide +kernel, by decide +kernel⟩, List.mem_of_getElem? (i := 1528) (by decide +kernel), List.mem_of_getElem? (i := 2115) (by decide +kernel), List.mem_of_getElem? (i := 2116) (by decide +kernel)⟩
theorem lw_p162 : lw_okq (⟨"TypeLoomModel", "reach", "(I)V"⟩, 71) := ⟨⟨by decide +kernel, by decide +kernel⟩, List.mem_of_getElem? (i := 1528) (by decide +kernel), List.mem_of_getElem? (i := 2119) (by decide +kernel), List.mem_of_getElem? (i := 2120) (by decide +kernel)⟩
theorem lw_p163 : lw_okq (⟨"TypeLoomModel", "frozen", "(IZ)I"⟩, 71) := ⟨⟨by decide +kernel, by decide +kernel⟩, List.mem_of_getElem? (i := 1528) (by decide +kernel), List.mem_of_getElem? (i := 2123) (by decide +kernel), List.mem_of_getElem? (i := 2124) (by decide +kernel)⟩
theorem lw_p164 : lw_okq (⟨"TypeLoomModel", "freeze", "(IZ)I"⟩, 71) := ⟨⟨by decide +kernel, by decide +kernel⟩, List.mem_of_getElem? (i := 1528) (by decide +kernel), List.mem_of_getElem? (i := 2127) (by decide +kernel), List.mem_of_getElem? (i := 2128) (by decide +kernel)⟩
theorem lw_p165 : lw_okq (⟨"TypeLoomModel", "cases", "(I)I"⟩, 71) := ⟨⟨by decide +kernel, by decide +kernel⟩, List.mem_of_getElem? (i := 1528) (by decide +kernel), List.mem_of_getElem? (i := 2131) (by decide +kernel), List.mem_of_getElem? (i := 2132) (by decide +kernel)⟩
theorem lw_p166 : lw_okq (⟨"TypeLoomModel", "counted", "(I)I"⟩, 71) := ⟨⟨by decide +kernel, by decide +kernel⟩, List.mem_of_getElem? (i := 1528) (by decide +kernel), List.mem_of_getElem? (i := 2143) (by decide +kernel), List.mem_of_getElem? (i := 2144) (by decide +kernel)⟩
theorem lw_p167 : lw_okq (⟨"TypeLoomModel", "isDef", "(I)Z"⟩, 71) := ⟨⟨by decide +kernel, by decide +kernel⟩, List.mem_of_getElem? (i := 1528) (by decide +kernel), List.mem_of_getElem? (i := 2151) (by decide +kernel), List.mem_of_getElem? (i := 2152) (by decide +kernel)⟩
theorem lw_p168 : lw_okq (⟨"TypeLoomModel", "writeType", "(I)I"⟩, 71) := ⟨⟨by decide +kernel, by decide +kernel⟩, List.mem_of_getElem? (i := 1528) (by decide +kernel), List.mem_of_getElem? (i := 2155) (by decide +kernel), List.mem_of_getElem? (i := 2156) (by decide +kernel)⟩
theorem lw_p169 : lw_okq (⟨"TypeLoomModel", "write0", "(I)Z"⟩, 71) := ⟨⟨by decide +kernel, by decide +kernel⟩, List.mem_of_getElem? (i := 1528) (by decide +kernel), List.mem_of_getElem? (i := 2159) (by decide +kernel), List.mem_of_getElem? (i := 2160) (by decide +kernel)⟩
theorem lw_p170 : lw_okq (⟨"TypeLoomModel", "putType", "(II)V"⟩, 71) := ⟨⟨by decide +kernel, by decide +kernel⟩, List.mem_of_getElem? (i := 1528) (by decide +kernel), List.mem_of_getElem? (i := 2163) (by decide +kernel), List.mem_of_getElem? (i := 2164) (by decide +kernel)⟩
theorem lw_p171 : lw_okq (⟨"TypeLoomModel", "put", "(I)V"⟩, 71) := ⟨⟨by decide +kernel, by decide +kernel⟩, List.mem_of_getElem? (i := 1528) (by decide +kernel), List.mem_of_getElem? (i := 2167) (by decide +kernel), List.mem_of_getElem? (i := 2168) (by decide +kernel)⟩
theorem lw_p172 : lw_okq (⟨"TypeLoomModel", "put", "(Ljava/lang/String;)V"⟩, 71) := ⟨⟨by decide +kernel, by decide +kernel⟩, List.mem_of_getElem? (i := 1528) (by decide +kernel), List.mem_of_getElem? (i := 2171) (by decide +kernel), List.mem_of_getElem? (i := 2172) (by decide +kernel)⟩
theorem lw_p173 : lw_okq (⟨"TypeLoomModel", "putName", "(J)V"⟩, 71) := ⟨⟨by decide +kernel, by decide +kernel⟩, List.mem_of_getElem? (i := 1528) (by decide +kernel), List.mem_of_getElem? (i := 2177) (by decide +kernel), List.mem_of_getElem? (i := 2178) (by decide +kernel)⟩
theorem lw_p174 : lw_okq (⟨"TypeLoomModel", "putMark", "(I)V"⟩, 71) := ⟨⟨by decide +kernel, by decide +kernel⟩, List.mem_of_getElem? (i := 1528) (by decide +kernel), List.mem_of_getElem? (i := 2181) (by decide +kernel), List.mem_of_getElem? (i := 2182) (by decide +kernel)⟩
theorem lw_p175 : lw_okq (⟨"TypeLoomModel", "measured", "(II)I"⟩, 71) := ⟨⟨by decide +kernel, by decide +kernel⟩, List.mem_of_getElem? (i := 1528) (by decide +kernel), List.mem_of_getElem? (i := 2202) (by decide +kernel), List.mem_of_getElem? (i := 2203) (by decide +kernel)⟩
def lw_privs_11 : List (MethodName × Nat) := [(⟨"TypeLoomModel", "let", "(I)I"⟩, 71), (⟨"TypeLoomModel", "size", "(II)I"⟩, 71), (⟨"TypeLoomModel", "reach", "(I)V"⟩, 71), (⟨"TypeLoomModel", "frozen", "(IZ)I"⟩, 71), (⟨"TypeLoomModel", "freeze", "(IZ)I"⟩, 71), (⟨"TypeLoomModel", "cases", "(I)I"⟩, 71), (⟨"TypeLoomModel", "counted", "(I)I"⟩, 71), (⟨"TypeLoomModel", "isDef", "(I)Z"⟩, 71), (⟨"TypeLoomModel", "writeType", "(I)I"⟩, 71), (⟨"TypeLoomModel", "write0", "(I)Z"⟩, 71), (⟨"TypeLoomModel", "putType", "(II)V"⟩, 71), (⟨"TypeLoomModel", "put", "(I)V"⟩, 71), (⟨"TypeLoomModel", "put", "(Ljava/lang/String;)V"⟩, 71), (⟨"TypeLoomModel", "putName", "(J)V"⟩, 71), (⟨"TypeLoomModel", "putMark", "(I)V"⟩, 71), (⟨"TypeLoomModel", "measured", "(II)I"⟩, 71)]
theorem lw_r11 : ∀ q ∈ lw_privs_11, lw_okq q := List.forall_mem_cons.mpr ⟨lw_p160, List.forall_mem_cons.mpr ⟨lw_p161, List.forall_mem_cons.mpr ⟨lw_p162, List.forall_mem_cons.mpr ⟨lw_p163, List.forall_mem_cons.mpr ⟨lw_p164, List.forall_mem_cons.mpr ⟨lw_p165, List.forall_mem_cons.mpr ⟨lw_p166, List.forall_mem_cons.mpr ⟨lw_p167, List.forall_mem_cons.mpr ⟨lw_p168, List.forall_mem_cons.mpr ⟨lw_p169, List.forall_mem_cons.mpr ⟨lw_p170, List.forall_mem_cons.mpr ⟨lw_p171, List.forall_mem_cons.mpr ⟨lw_p172, List.forall_mem_cons.mpr ⟨lw_p173, List.forall_mem_cons.mpr ⟨lw_p174, List.forall_mem_cons.mpr ⟨lw_p175, fun _ h => absurd h List.not_mem_nil⟩⟩⟩⟩⟩⟩⟩⟩⟩⟩⟩⟩⟩⟩⟩⟩
theorem lw_p176 : lw_okq (⟨"TypeLoomModel", "marksIn", "(I)I"⟩, 71) := ⟨⟨by decide +kernel, by decide +kernel⟩, List.mem_of_getElem? (i := 1528) (by decide +kernel), List.mem_of_getElem? (i := 2206) (by decide +kernel), List.mem_of_getElem? (i := 2207) (by decide +kernel)⟩
theorem lw_p177 : lw_okq (⟨"TypeLoomModel", "order", "(I)I"⟩, 71) := ⟨⟨by decide +kernel, by decide +kernel⟩, List.mem_of_getElem? (i := 1528) (by decide +kernel), List.mem_of_getElem? (i := 2210) (by decide +kernel), List.mem_of_getElem? (i := 2211) (by decide +kernel)⟩
theorem lw_p178 : lw_okq (⟨"TypeLoomModel", "becomes", "(II)Z"⟩, 71) := ⟨⟨by decide +kernel, by decide +kernel⟩, List.mem_of_getElem? (i := 1528) (by decide +kernel), List.mem_of_getElem? (i := 2222) (by decide +kernel), List.mem_of_getElem? (i := 2223) (by decide +kernel)⟩
theorem lw_p179 : lw_okq (⟨"TypeLoomModel", "areSame", "(II)Z"⟩, 71) := ⟨⟨by decide +kernel, by decide +kernel⟩, List.mem_of_getElem? (i := 1528) (by decide +kernel), List.mem_of_getElem? (i := 2226) (by decide +kernel), List.mem_of_getElem? (i := 2227) (by decide +kernel)⟩
def lw_privs_12 : List (MethodName × Nat) := [(⟨"TypeLoomModel", "marksIn", "(I)I"⟩, 71), (⟨"TypeLoomModel", "order", "(I)I"⟩, 71), (⟨"TypeLoomModel", "becomes", "(II)Z"⟩, 71), (⟨"TypeLoomModel", "areSame", "(II)Z"⟩, 71)]
theorem lw_r12 : ∀ q ∈ lw_privs_12, lw_okq q := List.forall_mem_cons.mpr ⟨lw_p176, List.forall_mem_cons.mpr ⟨lw_p177, List.forall_mem_cons.mpr ⟨lw_p178, List.forall_mem_cons.mpr ⟨lw_p179, fun _ h => absurd h List.not_mem_nil⟩⟩⟩⟩
def lw_privs : List (MethodName × Nat) := lw_privs_1 ++ (lw_privs_2 ++ (lw_privs_3 ++ (lw_privs_4 ++ (lw_privs_5 ++ (lw_privs_6 ++ (lw_privs_7 ++ (lw_privs_8 ++ (lw_privs_9 ++ (lw_privs_10 ++ (lw_privs_11 ++ (lw_privs_12)))))))))))
def lw_tbl : List Cond := k2_sels lw_privs ++ tables_1
theorem lw_privs_ok : ∀ q ∈ lw_privs, lw_okq q := by
  show ∀ q ∈ lw_privs_1 ++ (lw_privs_2 ++ (lw_privs_3 ++ (lw_privs_4 ++ (lw_privs_5 ++ (lw_privs_6 ++ (lw_privs_7 ++ (lw_privs_8 ++ (lw_privs_9 ++ (lw_privs_10 ++ (lw_privs_11 ++ (lw_privs_12))))))))))), lw_okq q
  exact List.forall_mem_append.mpr ⟨lw_r1, List.forall_mem_append.mpr ⟨lw_r2, List.forall_mem_append.mpr ⟨lw_r3, List.forall_mem_append.mpr ⟨lw_r4, List.forall_mem_append.mpr ⟨lw_r5, List.forall_mem_append.mpr ⟨lw_r6, List.forall_mem_append.mpr ⟨lw_r7, List.forall_mem_append.mpr ⟨lw_r8, List.forall_mem_append.mpr ⟨lw_r9, List.forall_mem_append.mpr ⟨lw_r10, List.forall_mem_append.mpr ⟨lw_r11, lw_r12⟩⟩⟩⟩⟩⟩⟩⟩⟩⟩⟩
/-- the streams that the claim lets the run draw from -/
abbrev lw_cs : List Choice := [Jvm.Choice.named "NaN.bits"]
theorem lw_bits : nanBits ∈ lw_cs := by first | decide | exact List.mem_cons_self | simp [lw_cs, nanBits]
end
section
/-! ===== BEGIN words of one list among another's, by their places ===== -/
theorem goodIn_r {big : List Cond} (ws : List Cond) (ps : List Nat) (hp : ws = ps.filterMap (fun i => big[i]?)) (h : ws.all goodWord = true) : GoodIn big ws := by
  intro w hw
  have h1 := List.all_eq_true.mp h w hw
  rw [hp] at hw
  obtain ⟨i, -, hi⟩ := List.mem_filterMap.mp hw
  have hm : w ∈ big := by first | exact List.mem_of_getElem? hi | exact List.getElem?_mem hi
  exact ⟨hm, good_of_word h1⟩
theorem goodIn_app {big a b : List Cond} (ha : GoodIn big a) (hb : GoodIn big b) : GoodIn big (a ++ b) := fun w h => (List.mem_append.mp h).elim (ha w) (hb w)
theorem goodIn_ca {big a b : List Cond} {c : Cond} (ha : GoodIn big (c :: a)) (hb : GoodIn big b) : GoodIn big (c :: (a ++ b)) := fun w h => (List.mem_cons.mp h).elim (fun e => ha w (List.mem_cons.mpr (Or.inl e))) (fun h => (List.mem_append.mp h).elim (fun h => ha w (List.mem_cons.mpr (Or.inr h))) (hb w))
theorem goodIn_sub {big ws : List Cond} (hm : ∀ w ∈ ws, w ∈ big) (h : ws.all goodWord = true) : GoodIn big ws := fun w hw => ⟨hm w hw, good_of_word (List.all_eq_true.mp h w hw)⟩
/-! ===== END ===== -/
/-! ===== BEGIN exceptions that leave a method, and their catching by the caller (launches without stack traces) ===== -/
section VXA
/-! The laws vx_back, vx_callV, vx_callS, vx_callSW, vx_throw0, vx_throwS follow proofs of the library, with one case more: JvmDerived/Free/Laws.lean (Back.of_free), Shelf42/LK1.lean (callV, callS), Shelf/KitTraced.lean (throwNew0V, throwNewS). -/
/-- where a method has thrown q: the class by its name, the cell, what was written, the world -/
def vx_T (XC : String → State → State → Prop) (st : State) (q : Addr) (t : State) (mc ms : Nat) (free : Addr → Prop) : Prop :=
  ∃ (E : String) (ce : Cell) (L : List Loc), XC E st t ∧ t.heap[q]? = some ce ∧ ce.vm = .none ∧ st.vm.findClass E = some ce.cls ∧ st.WarmedH t.vm ∧ st.sameButNew ({ t with vm := st.vm } : State) L mc ms ∧ ∀ z ∈ L, free z.base
def vx_Q (Qc : Array Value → State → Outcome → State → Prop) (XC : String → State → State → Prop) (mc ms : Nat) (free : Addr → Prop) : Array Value → State → Outcome → State → Prop := fun a st o t =>
  (Qc a st o t ∧ ∃ L, FrameEnd st o t L mc ms ∧ ∀ q ∈ L, free q.base) ∨ ∃ q, o = .threw q ∧ vx_T XC st q t mc ms free
/-- a callee that returns or throws -/
def vx_Met (l : Launch) (y : MethodName) (ws : List Cond) (rm : Room) (Pc : Array Value → State → Prop) (Qc : Array Value → State → Outcome → State → Prop) (XC : String → State → State → Prop) (mc ms : Nat) (free : Addr → Prop) : Prop :=
  MetFree l y (headSpec ws rm) Pc (fun _ _ _ _ _ => True) (vx_Q Qc XC mc ms free)
def vx_Post (XC : String → State → State → Prop) (mc ms : Nat) (free : Addr → Prop) : Pt → Array Value → Addr → Pt → Prop := fun A a q B =>
  ∃ (g : JFrame) (mk : MethodId) (t : State) (L : List Loc) (E : String) (ce : Cell), B.U.heap = t.heap ∧ B.U.vm = t.vm ∧ XC E (A.U.calling g mk a) t ∧ t.heap[q]? = some ce ∧ ce.vm = .none ∧ A.U.vm.findClass E = some ce.cls ∧ B.locs = A.locs ++ L ∧ (∀ z ∈ L, free z.base) ∧ B.cells = A.cells + mc ∧ B.slots = A.slots + ms
def vx_Back (l : Launch) (R : Room) (p : Program) (e : Env) (below : List Frame) (s : State) (sargs : Array Value) (y : MethodName) (len W9 : Nat)
    (Pre : Pt → Array Value → Prop) (Post : Pt → Array Value → Option Value → Pt → Prop) (PostX : Pt → Array Value → Addr → Pt → Prop) : Prop :=
  ∀ (m : MethodId) (meth : Method) (c : Code) (A : Pt) (g : JFrame) (ig : Instr) (mk : MethodId) (a : Array Value),
    Stand p l e R s m sargs below meth c A.U A.locs A.cells A.slots → g.method = m → g.locals.size = c.maxLocals → decode c.code g.pc = .ok (ig, len) →
    2 * g.monitorRoom + (g.stack.map fun v => v.category).sum ≤ W9 → A.U.methodNamed? y = some mk → Pre A a →
    (∃ (v : Option Value) (B : Pt), Stand p l e R s m sargs below meth c B.U B.locs B.cells B.slots ∧ Post A a v B ∧
      Steps p.tables e below (doInvoke e (A.U.setTop g) [] mk a).1 (B.U.setTop { g with pc := g.pc + len, stack := v.toList ++ g.stack })) ∨
    (∃ (q : Addr) (B : Pt), Stand p l e R s m sargs below meth c B.U B.locs B.cells B.slots ∧ PostX A a q B ∧
      Steps p.tables e below (doInvoke e (A.U.setTop g) [] mk a).1 ((B.U.setTop g).pushFrame (.throwing q)))
section Payer
variable {l : Launch} {R : Room} {p : Program} {e : Env} {below : List Frame} {s : State} {sargs : Array Value} {y : MethodName} {len W9 : Nat}
theorem vx_back {ws : List Cond} {rm : Room} {Pc : Array Value → State → Prop} {Qc : Array Value → State → Outcome → State → Prop} {XC : String → State → State → Prop} {mc ms : Nat} {free : Addr → Prop} {bytes : ByteArray} {maxL : Nat} {ret : Option FieldType}
    (hM : vx_Met l y ws rm Pc Qc XC mc ms free) (hblind : FrameBlind Pc) (hrc : rm.cells = mc) (hrs : rm.slots = ms)
    (hframes : rm.frames + 1 ≤ R.frames) (hlocals : W9 + (maxL + 11) + rm.locals ≤ R.locals)
    (hws : ∀ w ∈ ws, ∀ a' U, s.WarmedH U.vm → w.before a' U = true) (hcode : Cond.code y bytes maxL ret ∈ ws) (hinit : ∀ a' U, s.WarmedH U.vm → (Cond.initialized y.cls).before a' U = true) :
    vx_Back l R p e below s sargs y len W9 (PreOf R mc ms Pc) (PostOf Qc mc ms free) (vx_Post XC mc ms free) := by
  intro m meth c A g ig mk a X hg hsize hdg hW hn hp
  have h1 : (headSpec ws rm).pre.before a A.U = true := atoms_intro fun w hw => hws w hw _ _ X.warmed
  have h2 : (Cond.code y bytes maxL ret).before a A.U = true := hws _ hcode _ _ X.warmed
  have h3 : (Cond.initialized y.cls).before a A.U = true := hinit _ _ X.warmed
  have h4 : A.cells + (headSpec ws rm).room.cells ≤ R.cells := by rw [show (headSpec ws rm).room.cells = mc from hrc]; exact hp.1
  have h5 : A.slots + (headSpec ws rm).room.slots ≤ R.slots := by rw [show (headSpec ws rm).room.slots = ms from hrs]; exact hp.2.1
  have hPc : Pc a (A.U.calling g mk a) := hblind _ _ _ _ hp.2.2
  obtain ⟨U, Ls, c0, s0⟩ := A
  dsimp only [Pt.U, Pt.locs, Pt.cells, Pt.slots] at h1 h2 h3 h4 h5 X hn hPc ⊢
  obtain ⟨methY, cY, hmY, hcY, -, hlY, -, -, -, -⟩ := Cond.code_spec hn h2
  obtain ⟨kY, hkY, -⟩ := className_of_methodNamed hn
  have hinitY : kY.init = .initialized := Cond.initialized_spec (findClass_of_methodNamed hn) hkY h3
  have h : At U g.method c below := by rw [hg]; exact X.here
  have hlocals9 : W9 + (maxL + 11) + (headSpec ws rm).room.locals ≤ R.locals := hlocals
  have happ : (headSpec ws rm).appliesLoose y e.platform (U.calling g mk a) = true :=
    Spec.appliesLoose_calling (g := g) h hdg hn hkY hinitY
      (X.room_calling (g := g) (R' := (headSpec ws rm).room) hsize hmY hcY hframes (by rw [hlY]; omega) h4 h5) h1
  obtain ⟨mid, hmid⟩ := h.above
  have hfr : (U.setTop g).frames = (.java g :: mid) ++ below := by rw [State.frames_setTop' g h.top, hmid]; rfl
  obtain ⟨o, s₂, hsteps, -, hend, hq⟩ := Steps.callFree hM p X.admits X.cas X.clock (acts := []) hfr happ hPc trivial
  have hq' : vx_Q Qc XC mc ms free a (U.calling g mk a) o s₂ := hq
  rw [State.frames_setTop' g h.top] at hend
  obtain ⟨g₀, hg0⟩ := Option.isSome_iff_exists.mp h.top
  obtain ⟨r, hr⟩ := State.topJava?_eq_some.mp hg0
  have hr' : (({ U with heap := s₂.heap, slotsUsed := s₂.slotsUsed } : State).setVm s₂.vm).frames = .java g₀ :: r := hr
  rcases hq' with ⟨hqc, L, hfe, hL⟩ | ⟨q, rfl, E, ce, L, hx, hce, hcv, hcl, hW₂, hsm, hL⟩
  · obtain ⟨⟨v, rfl⟩, hW₂, e2, q2, q3, q4, q5, q6⟩ := id hfe
    have e3 : s₂ = ({ (U.calling g mk a).setFrames s₂.frames with heap := s₂.heap, slotsUsed := s₂.slotsUsed } : State).setVm s₂.vm := by
      have : s₂ = ({ s₂ with vm := (U.calling g mk a).vm } : State).setVm s₂.vm := rfl
      rw [e2] at this
      exact this
    obtain ⟨c₂, i₂, len₂, hc₂, hd₂, hf₂⟩ := hend
    have hW' : U.WarmedH s₂.vm := hW₂
    have hcc : c₂ = c := by
      have h1 : s₂.code? g.method = U.code? g.method := by
        rw [State.code?_eq, State.code?_eq, hW'.alike.method?]
      exact Option.some.inj (hc₂.symm.trans (h1.trans h.code))
    subst hcc
    have hlen : len₂ = len := by rw [hdg] at hd₂; cases hd₂; rfl
    subst hlen
    have hs₂ : s₂ = (({ U with heap := s₂.heap, slotsUsed := s₂.slotsUsed } : State).setVm s₂.vm).setTop { g with pc := g.pc + len₂, stack := v.toList ++ g.stack } := by
      refine e3.trans ?_
      rw [hf₂, State.calling_eq h.top, State.setFrames_setFrames, State.setTop_of_frames _ hr', hr]
      rfl
    have hsame : U.sameButNew ({ U with heap := s₂.heap, slotsUsed := s₂.slotsUsed } : State) L mc ms := by
      refine ⟨?_, q2, q3, q4, q5, q6⟩
      obtain ⟨t, ht, -⟩ := State.frames_cons hr
      show ({ U with heap := s₂.heap, slotsUsed := s₂.slotsUsed } : State) = { U.setFrames U.frames with heap := s₂.heap, slotsUsed := s₂.slotsUsed }
      rw [State.setFrames_self ht]
    subst hg
    refine Or.inl ⟨v, ⟨(({ U with heap := s₂.heap, slotsUsed := s₂.slotsUsed } : State).setVm s₂.vm), Ls ++ L, c0 + mc, s0 + ms⟩,
      ⟨X.admits, X.cas, X.clock, X.frames, X.room, X.hears, X.method, X.code, (X.here.setHeapUsed s₂.heap s₂.slotsUsed).setVm hW'.alike, X.tail, State.WarmedH.trans X.warmed hW', X.limits, X.bytes, X.same.trans (hsame.setVm s.vm)⟩,
      ⟨g, mk, s₂, L, rfl, rfl, hqc, rfl, hL, rfl, rfl⟩, ?_⟩
    show Steps p.tables e below _ ((({ U with heap := s₂.heap, slotsUsed := s₂.slotsUsed } : State).setVm s₂.vm).setTop { g with pc := g.pc + len₂, stack := v.toList ++ g.stack })
    rw [← hs₂]
    exact hsteps
  · obtain ⟨e2, q2, q3, q4, q5, q6⟩ := id hsm
    have e3 : s₂ = ({ (U.calling g mk a).setFrames s₂.frames with heap := s₂.heap, slotsUsed := s₂.slotsUsed } : State).setVm s₂.vm := by
      have : s₂ = ({ s₂ with vm := (U.calling g mk a).vm } : State).setVm s₂.vm := rfl
      rw [e2] at this
      exact this
    have hf₂ : s₂.frames = .throwing q :: .java g :: U.frames.tail := hend
    have hW' : U.WarmedH s₂.vm := hW₂
    have hs₂ : s₂ = ((({ U with heap := s₂.heap, slotsUsed := s₂.slotsUsed } : State).setVm s₂.vm).setTop g).pushFrame (.throwing q) := by
      refine e3.trans ?_
      rw [hf₂, State.calling_eq h.top, State.setFrames_setFrames, State.pushFrame, State.frames_setTop _ hr', State.setTop_of_frames _ hr', State.setFrames_setFrames, hr]
      rfl
    have hsame : U.sameButNew ({ U with heap := s₂.heap, slotsUsed := s₂.slotsUsed } : State) L mc ms := by
      refine ⟨?_, q2, q3, q4, q5, q6⟩
      obtain ⟨t, ht, -⟩ := State.frames_cons hr
      show ({ U with heap := s₂.heap, slotsUsed := s₂.slotsUsed } : State) = { U.setFrames U.frames with heap := s₂.heap, slotsUsed := s₂.slotsUsed }
      rw [State.setFrames_self ht]
    subst hg
    refine Or.inr ⟨q, ⟨(({ U with heap := s₂.heap, slotsUsed := s₂.slotsUsed } : State).setVm s₂.vm), Ls ++ L, c0 + mc, s0 + ms⟩,
      ⟨X.admits, X.cas, X.clock, X.frames, X.room, X.hears, X.method, X.code, (X.here.setHeapUsed s₂.heap s₂.slotsUsed).setVm hW'.alike, X.tail, State.WarmedH.trans X.warmed hW', X.limits, X.bytes, X.same.trans (hsame.setVm s.vm)⟩,
      ⟨g, mk, s₂, L, E, ce, rfl, rfl, hx, hce, hcv, hcl, rfl, hL, rfl, rfl⟩, ?_⟩
    show Steps p.tables e below _ (((({ U with heap := s₂.heap, slotsUsed := s₂.slotsUsed } : State).setVm s₂.vm).setTop g).pushFrame (.throwing q))
    rw [← hs₂]
    exact hsteps
end Payer
section Calls
variable {p : Program} {l : Launch} {e : Env} {R : Room} {s : State} {m : MethodId} {args : Array Value} {below : List Frame} {meth : Method} {c : Code} {T : State} {locs : List Loc} {cells slots : Nat}
theorem vx_callV (X : Stand p l e R s m args below meth c T locs cells slots) (hexec : p.tables.exec = Jvm.exec) {own C : String} {index : Nat} {y : MethodName} {bytes : ByteArray} {maxL : Nat} {ret : Option FieldType}
    (hown : s.vm.findClass own = some m.cls) (hlink : (Cond.methodLink own index y).before args s = true) (hinst : (Cond.instanceMethod y).before args s = true) (hsel : (Cond.selects C y y).before args s = true)
    (hcode : (Cond.code y bytes maxL ret).before args s = true) (hy : y.cls ≠ "java/lang/invoke/MethodHandle" ∧ y.cls ≠ "java/lang/invoke/VarHandle")
    {W9 : Nat} {Pre : Pt → Array Value → Prop} {Post : Pt → Array Value → Option Value → Pt → Prop} {PostX : Pt → Array Value → Addr → Pt → Prop} (hK : vx_Back l R p e below s args y 3 W9 Pre Post PostX)
    {b : Addr} {cellB : Cell} (hcell : T.heap[b]? = some cellB) (hobj : cellB.vm.isStatics = false) (hcls : s.vm.findClass C = some cellB.cls)
    {g : JFrame} (hg : g.method = m) (hsize : g.locals.size = c.maxLocals) {argsL rest : List Value} (hlen : ∀ sig, parseMethodDescriptor y.desc = some sig → argsL.length = sig.parameters.length)
    (hstack : g.stack = argsL.reverse ++ .ref b :: rest) (hW : 2 * g.monitorRoom + (rest.map fun v => v.category).sum ≤ W9) (hdg : decode c.code g.pc = .ok (.invokevirtual index, 3))
    (hpre : ∀ vm₁, s.WarmedH vm₁ → Pre ⟨T.setVm vm₁, locs, cells, slots⟩ (Value.ref b :: argsL).toArray) :
    (∃ (v : Option Value) (vm₁ : Vm) (B : Pt), s.WarmedH vm₁ ∧ Stand p l e R s m args below meth c B.U B.locs B.cells B.slots ∧ Post ⟨T.setVm vm₁, locs, cells, slots⟩ (Value.ref b :: argsL).toArray v B ∧
      ∀ target, Steps p.tables e below (B.U.setTop { g with pc := g.pc + 3, stack := v.toList ++ rest }) target → Steps p.tables e below (T.setTop g) target) ∨
    (∃ (q : Addr) (vm₁ : Vm) (B : Pt), s.WarmedH vm₁ ∧ Stand p l e R s m args below meth c B.U B.locs B.cells B.slots ∧ PostX ⟨T.setVm vm₁, locs, cells, slots⟩ (Value.ref b :: argsL).toArray q B ∧
      Steps p.tables e below (T.setTop g) ((B.U.setTop { g with stack := rest }).pushFrame (.throwing q))) := by
  obtain ⟨mk, methM, hnamed, hmethM, hstM, habM⟩ := Cond.instanceMethod_spec hinst
  obtain ⟨methM', cM, hmethM', -, -, -, -, -, -, hsigM⟩ := Cond.code_spec hnamed hcode
  cases hmethM.symm.trans hmethM'
  obtain ⟨c2, r2, m2, q1, q2, q3, q4, kP, hkP, hkPi⟩ := Cond.selects_spec hsel
  cases hcls.symm.trans q1
  cases (State.methodFound?_of_named hnamed hy).symm.trans q2
  cases hnamed.symm.trans q3
  have hselP : selectMethod e.platform s.vm cellB.cls mk = .method mk := by rw [Launch.admits_selectMethod X.admits]; exact q4
  obtain ⟨vm₁, X₁, hstep₁⟩ := X.invokevirtual hexec hown hlink hnamed hmethM hstM hkP hkPi hy (a := b) (cell := cellB) hcell
    (fun z h => by rw [h] at hobj; cases hobj) hselP hmethM habM hkP hkPi (g := g) hg (argsL := argsL) (rest := rest) (hlen _ hsigM) hstack hdg
  rcases hK m meth c ⟨T.setVm vm₁, locs, cells, slots⟩ { g with stack := rest } (.invokevirtual index) mk (Value.ref b :: argsL).toArray X₁ hg hsize hdg hW (X₁.named hnamed) (hpre vm₁ X₁.warmed) with ⟨v, B, X', hpost, hsteps⟩ | ⟨q, B, X', hpost, hsteps⟩
  · exact Or.inl ⟨v, vm₁, B, X₁.warmed, X', hpost, fun target h => hstep₁ _ fun acts => by rw [doInvoke_state]; exact hsteps.trans h⟩
  · exact Or.inr ⟨q, vm₁, B, X₁.warmed, X', hpost, hstep₁ _ fun acts => by rw [doInvoke_state]; exact hsteps⟩
theorem vx_callS (X : Stand p l e R s m args below meth c T locs cells slots) (hexec : p.tables.exec = Jvm.exec) {own : String} {index : Nat} {y : MethodName} {bytes : ByteArray} {maxL : Nat} {ret : Option FieldType}
    (hown : s.vm.findClass own = some m.cls) (hlink : (Cond.methodLink own index y).before args s = true) (hstat : (Cond.static y).before args s = true) (hinit : (Cond.initialized y.cls).before args s = true)
    (hcode : (Cond.code y bytes maxL ret).before args s = true) (hy : y.cls ≠ "java/lang/invoke/MethodHandle" ∧ y.cls ≠ "java/lang/invoke/VarHandle")
    {W9 : Nat} {Pre : Pt → Array Value → Prop} {Post : Pt → Array Value → Option Value → Pt → Prop} {PostX : Pt → Array Value → Addr → Pt → Prop} (hK : vx_Back l R p e below s args y 3 W9 Pre Post PostX)
    {g : JFrame} (hg : g.method = m) (hsize : g.locals.size = c.maxLocals) {argsL rest : List Value} (hlen : ∀ sig, parseMethodDescriptor y.desc = some sig → argsL.length = sig.parameters.length)
    (hstack : g.stack = argsL.reverse ++ rest) (hW : 2 * g.monitorRoom + (rest.map fun v => v.category).sum ≤ W9) (hdg : decode c.code g.pc = .ok (.invokestatic index, 3))
    (hpre : ∀ vm₁, s.WarmedH vm₁ → Pre ⟨T.setVm vm₁, locs, cells, slots⟩ argsL.toArray) :
    (∃ (v : Option Value) (vm₁ : Vm) (B : Pt), s.WarmedH vm₁ ∧ Stand p l e R s m args below meth c B.U B.locs B.cells B.slots ∧ Post ⟨T.setVm vm₁, locs, cells, slots⟩ argsL.toArray v B ∧
      ∀ target, Steps p.tables e below (B.U.setTop { g with pc := g.pc + 3, stack := v.toList ++ rest }) target → Steps p.tables e below (T.setTop g) target) ∨
    (∃ (q : Addr) (vm₁ : Vm) (B : Pt), s.WarmedH vm₁ ∧ Stand p l e R s m args below meth c B.U B.locs B.cells B.slots ∧ PostX ⟨T.setVm vm₁, locs, cells, slots⟩ argsL.toArray q B ∧
      Steps p.tables e below (T.setTop g) ((B.U.setTop { g with stack := rest }).pushFrame (.throwing q))) := by
  obtain ⟨mk, hnamed⟩ := Cond.code_named hcode
  obtain ⟨methM, cM, hmethM, -, -, -, -, -, -, hsigM⟩ := Cond.code_spec hnamed hcode
  have hstatic : methM.isStatic = true := Cond.static_spec hnamed hmethM hstat
  obtain ⟨kP, hkP, -⟩ := className_of_methodNamed hnamed
  have hinitP : kP.init = .initialized := Cond.initialized_spec (findClass_of_methodNamed hnamed) hkP hinit
  obtain ⟨vm₁, X₁, hstep₁⟩ := X.invokestatic hexec hown hlink hnamed hmethM hstatic hkP hinitP hy (g := g) hg (argsL := argsL) (rest := rest) (hlen _ hsigM) hstack hdg
  rcases hK m meth c ⟨T.setVm vm₁, locs, cells, slots⟩ { g with stack := rest } (.invokestatic index) mk argsL.toArray X₁ hg hsize hdg hW (X₁.named hnamed) (hpre vm₁ X₁.warmed) with ⟨v, B, X', hpost, hsteps⟩ | ⟨q, B, X', hpost, hsteps⟩
  · exact Or.inl ⟨v, vm₁, B, X₁.warmed, X', hpost, fun target h => hstep₁ _ fun acts => by rw [doInvoke_state]; exact hsteps.trans h⟩
  · exact Or.inr ⟨q, vm₁, B, X₁.warmed, X', hpost, hstep₁ _ fun acts => by rw [doInvoke_state]; exact hsteps⟩
end Calls
theorem vx_cls {s : State} {T : State} {vm₁ : Vm} {E : String} {k : ClassId} (hW : s.WarmedH vm₁) (h : (T.setVm vm₁).vm.findClass E = some k) : s.vm.findClass E = some k := by
  have h1 : vm₁.findClass E = some k := h
  rw [hW.alike.findClass] at h1
  exact h1
/-- the method's frame g, with q thrown over it -/
def vx_W (p : Program) (l : Launch) (e : Env) (R : Room) (s : State) (m : MethodId) (args : Array Value) (below : List Frame) (meth : Method) (c : Code) (H : Heap) (locs : List Loc) (cells slots : Nat) (Q : State → Prop) (g : JFrame) (q : Addr) : Prop :=
  ∀ T : State, T.heap = H → Stand p l e R s m args below meth c T locs cells slots → ∃ t, Steps p.tables e below ((T.setTop g).pushFrame (.throwing q)) t ∧ Q t
def vx_Run (p : Program) (l : Launch) (e : Env) (R : Room) (s : State) (m : MethodId) (args : Array Value) (below : List Frame) (meth : Method) (c : Code) (H : Heap) (locs : List Loc) (cells slots mc ms : Nat) (g : JFrame) (rest : List Value) (Qa : State → Outcome → State → Prop) (XC : String → State → State → Prop) (free : Addr → Prop) : Prop :=
  ∀ T : State, T.heap = H → Stand p l e R s m args below meth c T locs cells slots →
    (∃ (v : Option Value) (st₀ t T' : State) (L : List Loc), st₀.heap = H ∧ Stand p l e R s m args below meth c T' (locs ++ L) (cells + mc) (slots + ms) ∧ (∀ q ∈ L, free q.base) ∧ T'.heap = t.heap ∧ T'.vm = t.vm ∧ Qa st₀ (.returned v) t ∧
      Goes p e below T g T' { g with pc := g.pc + 3, stack := v.toList ++ rest }) ∨
    (∃ (q : Addr) (st₀ t T' : State) (L : List Loc) (E : String) (ce : Cell), st₀.heap = H ∧ Stand p l e R s m args below meth c T' (locs ++ L) (cells + mc) (slots + ms) ∧ (∀ z ∈ L, free z.base) ∧ T'.heap = t.heap ∧ T'.vm = t.vm ∧ XC E st₀ t ∧ t.heap[q]? = some ce ∧ ce.vm = .none ∧ s.vm.findClass E = some ce.cls ∧
      Steps p.tables e below (T.setTop g) ((T'.setTop { g with stack := rest }).pushFrame (.throwing q)))
def vx_X {S : Type} (px : S → Prop) (B : String → S → State → Prop) (A : Nat → Prop) : String → State → State → Prop := fun E st t => ∃ u : S, px u ∧ B E u t ∧ va_F A st t
section Runs
variable {p : Program} {l : Launch} {e : Env} {R : Room} {s : State} {m : MethodId} {args : Array Value} {below : List Frame} {meth : Method} {c : Code} {H : Heap} {locs : List Loc} {cells slots : Nat}
variable {y : MethodName} {bytes cc : ByteArray} {maxL nL mc ms n index : Nat} {ret : Option FieldType} {ws : List Cond} {rm : Room} {Pc : Array Value → State → Prop} {Qc : Array Value → State → Outcome → State → Prop} {XC : String → State → State → Prop} {free : Addr → Prop} {Ts : List Cond} {own C : String} {b : Addr} {As rest : List Value} {g : JFrame}
theorem vx_callBack (cb : CallB R s args own index y bytes maxL ret ws rm mc ms n) (hM : vx_Met l y ws rm Pc Qc XC mc ms free) (hbl : FrameBlind Pc) : vx_Back l R p e below s args y 3 8 (PreOf R mc ms Pc) (PostOf Qc mc ms free) (vx_Post XC mc ms free) := by
  obtain ⟨hrc, hrs, hfr, hlo, hws, hcw, -, hini, -⟩ := cb
  exact vx_back (bytes := bytes) (maxL := maxL) (ret := ret) hM hbl hrc hrs hfr hlo hws hcw (fun a' U hW => word_at hW (Or.inl (by first | rfl | simp [Cond.onTables, Cond.keeps, Cond.steady])) hini)
theorem vx_runV (S : CallFix p m c cc nL s args Ts own) (hM : vx_Met l y ws rm Pc Qc XC mc ms free) (cw : CallW R s args own C index y bytes maxL ret ws rm mc ms n) (hp : PreV s H C b Pc As)
    (hg : g.method = m) (hn : As.length = n) (hsize : g.locals.size = nL) (hstack : g.stack = As.reverse ++ .ref b :: rest) (hW : 2 * g.monitorRoom + (rest.map fun v => v.category).sum ≤ 8) (hdg : decode cc g.pc = .ok (.invokevirtual index, 3)) (hf : cells + mc ≤ R.cells ∧ slots + ms ≤ R.slots) :
    vx_Run p l e R s m args below meth c H locs cells slots mc ms g rest (Qc (Value.ref b :: As).toArray) XC free := by
  have hK : vx_Back l R p e below s args y 3 8 (PreOf R mc ms Pc) (PostOf Qc mc ms free) (vx_Post XC mc ms free) := vx_callBack cw.1 hM hp.1
  obtain ⟨⟨-, -, -, -, -, -, hcode, -, hy, hlen, hl⟩, hin, hse⟩ := cw
  obtain ⟨hx, hb, hml, ho, -⟩ := S
  obtain ⟨-, ⟨cellB, hcB, hoB, hclB⟩, hPc⟩ := hp
  intro T hT X
  rcases vx_callV X hx (C := C) (bytes := bytes) (maxL := maxL) (ret := ret) ho hl hin hse hcode hy hK (by rw [hT]; exact hcB) hoB hclB hg (hsize.trans hml.symm) (argsL := As) (rest := rest) (fun sig h => hn.trans (hlen sig h)) hstack hW (by rw [hb]; exact hdg)
    (fun vm₁ hW₁ => ⟨hf.1, hf.2, hPc (T.setVm vm₁) hT hW₁⟩) with ⟨v, vm₁, ⟨U', l2, c2, s2⟩, hW₁, X', ⟨g', mk, t, L, e1, e2, hq, h1, hL, h2, h3⟩, st⟩ | ⟨q, vm₁, ⟨U', l2, c2, s2⟩, hW₁, X', ⟨g', mk, t, L, E, ce, e1, e2, hq, hce, hcv, hcl, h1, hL, h2, h3⟩, st⟩
  · dsimp only [Pt.U, Pt.locs, Pt.cells, Pt.slots] at X' e1 e2 h1 h2 h3 st
    subst h1; subst h2; subst h3
    exact Or.inl ⟨v, (T.setVm vm₁).calling g' mk (Value.ref b :: As).toArray, t, U', L, hT, X', hL, e1, e2, hq, st⟩
  · dsimp only [Pt.U, Pt.locs, Pt.cells, Pt.slots] at X' e1 e2 h1 h2 h3 st hcl
    subst h1; subst h2; subst h3
    exact Or.inr ⟨q, (T.setVm vm₁).calling g' mk (Value.ref b :: As).toArray, t, U', L, E, ce, hT, X', hL, e1, e2, hq, hce, hcv, vx_cls hW₁ hcl, st⟩
theorem vx_runS (S : CallFix p m c cc nL s args Ts own) (hM : vx_Met l y ws rm Pc Qc XC mc ms free) (cw : CallB R s args own index y bytes maxL ret ws rm mc ms n ∧ (Cond.static y).before args s = true) (hp : PreS s H Pc As)
    (hg : g.method = m) (hn : As.length = n) (hsize : g.locals.size = nL) (hstack : g.stack = As.reverse ++ rest) (hW : 2 * g.monitorRoom + (rest.map fun v => v.category).sum ≤ 8) (hdg : decode cc g.pc = .ok (.invokestatic index, 3)) (hf : cells + mc ≤ R.cells ∧ slots + ms ≤ R.slots) :
    vx_Run p l e R s m args below meth c H locs cells slots mc ms g rest (Qc As.toArray) XC free := by
  have hK : vx_Back l R p e below s args y 3 8 (PreOf R mc ms Pc) (PostOf Qc mc ms free) (vx_Post XC mc ms free) := vx_callBack cw.1 hM hp.1
  obtain ⟨⟨-, -, -, -, -, -, hcode, hini, hy, hlen, hl⟩, hstt⟩ := cw
  obtain ⟨hx, hb, hml, ho, -⟩ := S
  intro T hT X
  rcases vx_callS X hx (bytes := bytes) (maxL := maxL) (ret := ret) ho hl hstt hini hcode hy hK hg (hsize.trans hml.symm) (argsL := As) (rest := rest) (fun sig h => hn.trans (hlen sig h)) hstack hW (by rw [hb]; exact hdg)
    (fun vm₁ hW₁ => ⟨hf.1, hf.2, hp.2 (T.setVm vm₁) hT hW₁⟩) with ⟨v, vm₁, ⟨U', l2, c2, s2⟩, hW₁, X', ⟨g', mk, t, L, e1, e2, hq, h1, hL, h2, h3⟩, st⟩ | ⟨q, vm₁, ⟨U', l2, c2, s2⟩, hW₁, X', ⟨g', mk, t, L, E, ce, e1, e2, hq, hce, hcv, hcl, h1, hL, h2, h3⟩, st⟩
  · dsimp only [Pt.U, Pt.locs, Pt.cells, Pt.slots] at X' e1 e2 h1 h2 h3 st
    subst h1; subst h2; subst h3
    exact Or.inl ⟨v, (T.setVm vm₁).calling g' mk As.toArray, t, U', L, hT, X', hL, e1, e2, hq, st⟩
  · dsimp only [Pt.U, Pt.locs, Pt.cells, Pt.slots] at X' e1 e2 h1 h2 h3 st hcl
    subst h1; subst h2; subst h3
    exact Or.inr ⟨q, (T.setVm vm₁).calling g' mk As.toArray, t, U', L, E, ce, hT, X', hL, e1, e2, hq, hce, hcv, vx_cls hW₁ hcl, st⟩
end Runs
section Rows
variable {p : Program} {l : Launch} {e : Env} {R : Room} {s : State} {m : MethodId} {args : Array Value} {below : List Frame} {meth : Method} {c : Code} {H : Heap} {locs : List Loc} {cells slots : Nat} {Q : State → Prop}
variable {mc ms : Nat} {free : Addr → Prop} {A0 A1 : Nat → Prop} {H0 : Heap} {a : Array Value} {pc : Nat} {ls : Array Slot} {st0 rest : List Value}
theorem vx_keep {st₀ t T' : State} {L : List Loc} (h0 : st₀.heap = H) (e1 : T'.heap = t.heap) (hS : va_S A0 H0 H locs) (hA : ∀ q, q < H.size → A1 q → A0 q) (hf : ∀ q, free q → A0 q) (hL : ∀ q ∈ L, free q.base) (hF : va_F A1 st₀ t) :
    H.size ≤ T'.heap.size ∧ (∀ q : Nat, q < H.size → ¬ A1 q → T'.heap[q]? = H[q]?) ∧ va_S A0 H0 T'.heap (locs ++ L) := by
  obtain ⟨hz, hk⟩ := hF
  rw [h0] at hz hk
  exact ⟨by rw [e1]; exact hz, fun q h1 h2 => by rw [e1]; exact hk q h1 h2,
    ⟨Nat.le_trans hS.1 (by rw [e1]; exact hz), fun q h1 h2 => by rw [e1, hk q (Nat.lt_of_lt_of_le h1 hS.1) (fun z => h2 (hA q (Nat.lt_of_lt_of_le h1 hS.1) z))]; exact hS.2.1 q h1 h2, fun q hq => by
      rcases List.mem_append.mp hq with h | h
      · exact hS.2.2 q h
      · exact hf _ (hL q h)⟩⟩
theorem vx_calli {S SX : Type} {post : Int32 → S → Prop} {px : SX → Prop} {B : S → State → Prop} {BX : String → SX → State → Prop} {AX : Nat → Prop} (hr : vx_Run p l e R s m args below meth c H locs cells slots mc ms (F0 m pc ls st0) rest (va_Qi post B A1 a) (vx_X px BX AX) free) (hS : va_S A0 H0 H locs) (hA : ∀ q, q < H.size → A1 q → A0 q) (hf : ∀ q, free q → A0 q) (hAX : ∀ q, q < H.size → AX q → A0 q)
    (kx : ∀ (E : String) (ce : Cell) (q9 : Addr) (u : SX) (t : State) (H1 : Heap) (locs1 : List Loc), t.heap = H1 → s.vm.Alike t.vm → px u → BX E u t → H.size ≤ H1.size → (∀ q : Nat, q < H.size → ¬ AX q → H1[q]? = H[q]?) → va_S A0 H0 H1 locs1 → H1[q9]? = some ce → ce.vm = .none → s.vm.findClass E = some ce.cls → vx_W p l e R s m args below meth c H1 locs1 (cells + mc) (slots + ms) Q (F0 m pc ls rest) q9)
    (kk : ∀ (r : Int32) (u : S) (t : State) (H1 : Heap) (locs1 : List Loc), t.heap = H1 → s.vm.Alike t.vm → post r u → B u t → H.size ≤ H1.size → (∀ q : Nat, q < H.size → ¬ A1 q → H1[q]? = H[q]?) → va_S A0 H0 H1 locs1 → W p l e R s m args below meth c H1 locs1 (cells + mc) (slots + ms) Q (F0 m (pc + 3) ls (.int r :: rest))) : W p l e R s m args below meth c H locs cells slots Q (F0 m pc ls st0) := by
  intro T hT X
  rcases hr T hT X with ⟨v, st₀, t, T', L, h0, X', hL, e1, e2, ⟨⟨r, u, hv, hp, hb⟩, hF⟩, st⟩ | ⟨q, st₀, t, T', L, E, ce, h0, X', hL, e1, e2, ⟨u, hp, hb, hF⟩, hce, hcv, hcl, st⟩
  · cases hv
    obtain ⟨k1, k2, k3⟩ := vx_keep h0 e1 hS hA hf hL hF
    obtain ⟨t2, a1, b1⟩ := kk r u t T'.heap (locs ++ L) e1.symm (by rw [← e2]; exact X'.warmed.alike) hp hb k1 k2 k3 T' rfl X'
    exact ⟨t2, st t2 a1, b1⟩
  · obtain ⟨k1, k2, k3⟩ := vx_keep h0 e1 hS hAX hf hL hF
    obtain ⟨t2, a1, b1⟩ := kx E ce q u t T'.heap (locs ++ L) e1.symm (by rw [← e2]; exact X'.warmed.alike) hp hb k1 k2 k3 (by rw [e1]; exact hce) hcv hcl T' rfl X'
    exact ⟨t2, st.trans a1, b1⟩
theorem vx_calll {S SX : Type} {post : Int64 → S → Prop} {px : SX → Prop} {B : S → State → Prop} {BX : String → SX → State → Prop} {AX : Nat → Prop} (hr : vx_Run p l e R s m args below meth c H locs cells slots mc ms (F0 m pc ls st0) rest (va_Ql post B A1 a) (vx_X px BX AX) free) (hS : va_S A0 H0 H locs) (hA : ∀ q, q < H.size → A1 q → A0 q) (hf : ∀ q, free q → A0 q) (hAX : ∀ q, q < H.size → AX q → A0 q)
    (kx : ∀ (E : String) (ce : Cell) (q9 : Addr) (u : SX) (t : State) (H1 : Heap) (locs1 : List Loc), t.heap = H1 → s.vm.Alike t.vm → px u → BX E u t → H.size ≤ H1.size → (∀ q : Nat, q < H.size → ¬ AX q → H1[q]? = H[q]?) → va_S A0 H0 H1 locs1 → H1[q9]? = some ce → ce.vm = .none → s.vm.findClass E = some ce.cls → vx_W p l e R s m args below meth c H1 locs1 (cells + mc) (slots + ms) Q (F0 m pc ls rest) q9)
    (kk : ∀ (r : Int64) (u : S) (t : State) (H1 : Heap) (locs1 : List Loc), t.heap = H1 → s.vm.Alike t.vm → post r u → B u t → H.size ≤ H1.size → (∀ q : Nat, q < H.size → ¬ A1 q → H1[q]? = H[q]?) → va_S A0 H0 H1 locs1 → W p l e R s m args below meth c H1 locs1 (cells + mc) (slots + ms) Q (F0 m (pc + 3) ls (.long r :: rest))) : W p l e R s m args below meth c H locs cells slots Q (F0 m pc ls st0) := by
  intro T hT X
  rcases hr T hT X with ⟨v, st₀, t, T', L, h0, X', hL, e1, e2, ⟨⟨r, u, hv, hp, hb⟩, hF⟩, st⟩ | ⟨q, st₀, t, T', L, E, ce, h0, X', hL, e1, e2, ⟨u, hp, hb, hF⟩, hce, hcv, hcl, st⟩
  · cases hv
    obtain ⟨k1, k2, k3⟩ := vx_keep h0 e1 hS hA hf hL hF
    obtain ⟨t2, a1, b1⟩ := kk r u t T'.heap (locs ++ L) e1.symm (by rw [← e2]; exact X'.warmed.alike) hp hb k1 k2 k3 T' rfl X'
    exact ⟨t2, st t2 a1, b1⟩
  · obtain ⟨k1, k2, k3⟩ := vx_keep h0 e1 hS hAX hf hL hF
    obtain ⟨t2, a1, b1⟩ := kx E ce q u t T'.heap (locs ++ L) e1.symm (by rw [← e2]; exact X'.warmed.alike) hp hb k1 k2 k3 (by rw [e1]; exact hce) hcv hcl T' rfl X'
    exact ⟨t2, st.trans a1, b1⟩
theorem vx_callf {S SX : Type} {post : UInt32 → S → Prop} {px : SX → Prop} {B : S → State → Prop} {BX : String → SX → State → Prop} {AX : Nat → Prop} (hr : vx_Run p l e R s m args below meth c H locs cells slots mc ms (F0 m pc ls st0) rest (va_Qf post B A1 a) (vx_X px BX AX) free) (hS : va_S A0 H0 H locs) (hA : ∀ q, q < H.size → A1 q → A0 q) (hf : ∀ q, free q → A0 q) (hAX : ∀ q, q < H.size → AX q → A0 q)
    (kx : ∀ (E : String) (ce : Cell) (q9 : Addr) (u : SX) (t : State) (H1 : Heap) (locs1 : List Loc), t.heap = H1 → s.vm.Alike t.vm → px u → BX E u t → H.size ≤ H1.size → (∀ q : Nat, q < H.size → ¬ AX q → H1[q]? = H[q]?) → va_S A0 H0 H1 locs1 → H1[q9]? = some ce → ce.vm = .none → s.vm.findClass E = some ce.cls → vx_W p l e R s m args below meth c H1 locs1 (cells + mc) (slots + ms) Q (F0 m pc ls rest) q9)
    (kk : ∀ (r : UInt32) (u : S) (t : State) (H1 : Heap) (locs1 : List Loc), t.heap = H1 → s.vm.Alike t.vm → post r u → B u t → H.size ≤ H1.size → (∀ q : Nat, q < H.size → ¬ A1 q → H1[q]? = H[q]?) → va_S A0 H0 H1 locs1 → W p l e R s m args below meth c H1 locs1 (cells + mc) (slots + ms) Q (F0 m (pc + 3) ls (.float r :: rest))) : W p l e R s m args below meth c H locs cells slots Q (F0 m pc ls st0) := by
  intro T hT X
  rcases hr T hT X with ⟨v, st₀, t, T', L, h0, X', hL, e1, e2, ⟨⟨r, u, hv, hp, hb⟩, hF⟩, st⟩ | ⟨q, st₀, t, T', L, E, ce, h0, X', hL, e1, e2, ⟨u, hp, hb, hF⟩, hce, hcv, hcl, st⟩
  · cases hv
    obtain ⟨k1, k2, k3⟩ := vx_keep h0 e1 hS hA hf hL hF
    obtain ⟨t2, a1, b1⟩ := kk r u t T'.heap (locs ++ L) e1.symm (by rw [← e2]; exact X'.warmed.alike) hp hb k1 k2 k3 T' rfl X'
    exact ⟨t2, st t2 a1, b1⟩
  · obtain ⟨k1, k2, k3⟩ := vx_keep h0 e1 hS hAX hf hL hF
    obtain ⟨t2, a1, b1⟩ := kx E ce q u t T'.heap (locs ++ L) e1.symm (by rw [← e2]; exact X'.warmed.alike) hp hb k1 k2 k3 (by rw [e1]; exact hce) hcv hcl T' rfl X'
    exact ⟨t2, st.trans a1, b1⟩
theorem vx_calld {S SX : Type} {post : UInt64 → S → Prop} {px : SX → Prop} {B : S → State → Prop} {BX : String → SX → State → Prop} {AX : Nat → Prop} (hr : vx_Run p l e R s m args below meth c H locs cells slots mc ms (F0 m pc ls st0) rest (va_Qd post B A1 a) (vx_X px BX AX) free) (hS : va_S A0 H0 H locs) (hA : ∀ q, q < H.size → A1 q → A0 q) (hf : ∀ q, free q → A0 q) (hAX : ∀ q, q < H.size → AX q → A0 q)
    (kx : ∀ (E : String) (ce : Cell) (q9 : Addr) (u : SX) (t : State) (H1 : Heap) (locs1 : List Loc), t.heap = H1 → s.vm.Alike t.vm → px u → BX E u t → H.size ≤ H1.size → (∀ q : Nat, q < H.size → ¬ AX q → H1[q]? = H[q]?) → va_S A0 H0 H1 locs1 → H1[q9]? = some ce → ce.vm = .none → s.vm.findClass E = some ce.cls → vx_W p l e R s m args below meth c H1 locs1 (cells + mc) (slots + ms) Q (F0 m pc ls rest) q9)
    (kk : ∀ (r : UInt64) (u : S) (t : State) (H1 : Heap) (locs1 : List Loc), t.heap = H1 → s.vm.Alike t.vm → post r u → B u t → H.size ≤ H1.size → (∀ q : Nat, q < H.size → ¬ A1 q → H1[q]? = H[q]?) → va_S A0 H0 H1 locs1 → W p l e R s m args below meth c H1 locs1 (cells + mc) (slots + ms) Q (F0 m (pc + 3) ls (.double r :: rest))) : W p l e R s m args below meth c H locs cells slots Q (F0 m pc ls st0) := by
  intro T hT X
  rcases hr T hT X with ⟨v, st₀, t, T', L, h0, X', hL, e1, e2, ⟨⟨r, u, hv, hp, hb⟩, hF⟩, st⟩ | ⟨q, st₀, t, T', L, E, ce, h0, X', hL, e1, e2, ⟨u, hp, hb, hF⟩, hce, hcv, hcl, st⟩
  · cases hv
    obtain ⟨k1, k2, k3⟩ := vx_keep h0 e1 hS hA hf hL hF
    obtain ⟨t2, a1, b1⟩ := kk r u t T'.heap (locs ++ L) e1.symm (by rw [← e2]; exact X'.warmed.alike) hp hb k1 k2 k3 T' rfl X'
    exact ⟨t2, st t2 a1, b1⟩
  · obtain ⟨k1, k2, k3⟩ := vx_keep h0 e1 hS hAX hf hL hF
    obtain ⟨t2, a1, b1⟩ := kx E ce q u t T'.heap (locs ++ L) e1.symm (by rw [← e2]; exact X'.warmed.alike) hp hb k1 k2 k3 (by rw [e1]; exact hce) hcv hcl T' rfl X'
    exact ⟨t2, st.trans a1, b1⟩
theorem vx_callv {S SX : Type} {post : S → Prop} {px : SX → Prop} {B : S → State → Prop} {BX : String → SX → State → Prop} {AX : Nat → Prop} (hr : vx_Run p l e R s m args below meth c H locs cells slots mc ms (F0 m pc ls st0) rest (va_Qv post B A1 a) (vx_X px BX AX) free) (hS : va_S A0 H0 H locs) (hA : ∀ q, q < H.size → A1 q → A0 q) (hf : ∀ q, free q → A0 q) (hAX : ∀ q, q < H.size → AX q → A0 q)
    (kx : ∀ (E : String) (ce : Cell) (q9 : Addr) (u : SX) (t : State) (H1 : Heap) (locs1 : List Loc), t.heap = H1 → s.vm.Alike t.vm → px u → BX E u t → H.size ≤ H1.size → (∀ q : Nat, q < H.size → ¬ AX q → H1[q]? = H[q]?) → va_S A0 H0 H1 locs1 → H1[q9]? = some ce → ce.vm = .none → s.vm.findClass E = some ce.cls → vx_W p l e R s m args below meth c H1 locs1 (cells + mc) (slots + ms) Q (F0 m pc ls rest) q9)
    (kk : ∀ (u : S) (t : State) (H1 : Heap) (locs1 : List Loc), t.heap = H1 → s.vm.Alike t.vm → post u → B u t → H.size ≤ H1.size → (∀ q : Nat, q < H.size → ¬ A1 q → H1[q]? = H[q]?) → va_S A0 H0 H1 locs1 → W p l e R s m args below meth c H1 locs1 (cells + mc) (slots + ms) Q (F0 m (pc + 3) ls (rest))) : W p l e R s m args below meth c H locs cells slots Q (F0 m pc ls st0) := by
  intro T hT X
  rcases hr T hT X with ⟨v, st₀, t, T', L, h0, X', hL, e1, e2, ⟨⟨u, hv, hp, hb⟩, hF⟩, st⟩ | ⟨q, st₀, t, T', L, E, ce, h0, X', hL, e1, e2, ⟨u, hp, hb, hF⟩, hce, hcv, hcl, st⟩
  · cases hv
    obtain ⟨k1, k2, k3⟩ := vx_keep h0 e1 hS hA hf hL hF
    obtain ⟨t2, a1, b1⟩ := kk u t T'.heap (locs ++ L) e1.symm (by rw [← e2]; exact X'.warmed.alike) hp hb k1 k2 k3 T' rfl X'
    exact ⟨t2, st t2 a1, b1⟩
  · obtain ⟨k1, k2, k3⟩ := vx_keep h0 e1 hS hAX hf hL hF
    obtain ⟨t2, a1, b1⟩ := kx E ce q u t T'.heap (locs ++ L) e1.symm (by rw [← e2]; exact X'.warmed.alike) hp hb k1 k2 k3 (by rw [e1]; exact hce) hcv hcl T' rfl X'
    exact ⟨t2, st.trans a1, b1⟩
/-- caught by the row x of this method's table; the rows ahead don't take it -/
theorem vx_catch {own name : String} {E : String} {ce : Cell} {q : Addr} (hown : s.vm.findClass own = some m.cls) (pre : List ExceptionTableEntry) (x : ExceptionTableEntry) (suf : List ExceptionTableEntry) (hsplit : c.exceptionTable.toList = pre ++ x :: suf)
    (hpass : ∀ z ∈ pre, covers z pc = false ∨ (z.catchType ≠ 0 ∧ ∃ nm : String, (Cond.classLink own z.catchType nm).before args s = true ∧ va_Nc E nm s)) (hx : covers x pc = true) (h0 : x.catchType ≠ 0)
    (hlink : (Cond.classLink own x.catchType name).before args s = true) (hcast : (Cond.castable E name).before args s = true) (hcell : H[q]? = some ce) (hv : ce.vm = .none) (hcl : s.vm.findClass E = some ce.cls)
    (kk : W p l e R s m args below meth c H locs cells slots Q (F0 m x.handlerPc ls [.ref q])) : vx_W p l e R s m args below meth c H locs cells slots Q (F0 m pc ls rest) q := by
  intro T hT X
  have hpl : e.platform.magicAccessors = ({} : Platform).magicAccessors := by rw [X.admits.platform]
  obtain ⟨c3, c4, hc3, hc4, hasg⟩ := Cond.castable_spec hcast
  cases Option.some.inj (hc3.symm.trans hcl)
  obtain ⟨c5, hc5, hcl5⟩ := Cond.classLink_spec hown hlink e.platform hpl
  cases Option.some.inj (hc4.symm.trans hc5)
  obtain ⟨vm', X', st⟩ := X.thenCaughtThrough q (g := F0 m pc ls rest) rfl (Steps.refl _) (by rw [hT]; exact hcell) (by rw [hv]; rfl) (by obtain ⟨k9, h9, -⟩ := Vm.findClass_spec hcl; exact ⟨k9, h9⟩) pre x suf hsplit
    (fun z hz => by
      rcases hpass z hz with h | ⟨hz0, nm, hl1, hn1⟩
      · exact Or.inl h
      · obtain ⟨c6, hc6, hcl6⟩ := Cond.classLink_spec hown hl1 e.platform hpl
        obtain ⟨a8, b8, h1, h2, h3⟩ := hn1
        cases Option.some.inj (h1.symm.trans hcl)
        cases Option.some.inj (h2.symm.trans hc6)
        exact Or.inr ⟨hz0, _, hcl6, h3⟩) hx (Or.inr ⟨h0, c4, hcl5, hasg⟩)
  obtain ⟨t, a1, b1⟩ := kk (T.setVm vm') hT X'
  exact ⟨t, st.trans a1, b1⟩
end Rows
section Ends
variable {p : Program} {l : Launch} {e : Env} {R : Room} {s : State} {m : MethodId} {args : Array Value} {below : List Frame} {meth : Method} {c : Code} {H : Heap} {locs : List Loc} {cells slots : Nat} {Q : State → Prop}
variable {mc ms : Nat} {free : Addr → Prop} {A0 A1 : Nat → Prop} {H0 : Heap} {a : Array Value} {ls : Array Slot} {st0 rest : List Value}
variable {Qc : Array Value → State → Outcome → State → Prop} {XC : String → State → State → Prop}
/-- what a body that may throw owes at its end -/
def vx_MQ (below : List Frame) (Qc : Array Value → State → Outcome → State → Prop) (XC : String → State → State → Prop) (a : Array Value) (s : State) (mc ms : Nat) (free : Addr → Prop) : State → Prop := fun t =>
  ∃ o, t.status = .running ∧ Ended t below o ∧ vx_Q Qc XC mc ms free a s o t
theorem vx_ret {g : JFrame} {mc ms : Nat} (k : W p l e R s m args below meth c H locs cells slots (MQ below Qc args s mc ms free) g) : W p l e R s m args below meth c H locs cells slots (vx_MQ below Qc XC args s mc ms free) g := by
  intro T hT X
  obtain ⟨t, a1, o, b1, b2, b3, b4⟩ := k T hT X
  exact ⟨t, a1, o, b1, b2, Or.inl ⟨b3, b4⟩⟩
/-- not caught here: it goes on to the caller -/
theorem vx_widen {g : JFrame} {q : Addr} {k n : Nat} (h1 : cells ≤ k) (h2 : slots ≤ n) (kk : vx_W p l e R s m args below meth c H locs k n Q g q) : vx_W p l e R s m args below meth c H locs cells slots Q g q := fun T hT X => kk T hT (stand_widen X h1 h2)
theorem vx_out {pc : Nat} {E : String} {ce : Cell} {q : Addr} {mc ms : Nat} (hout : ∀ x ∈ c.exceptionTable.toList, covers x pc = false) (hlocks : meth.locks = false) (hcell : H[q]? = some ce) (hv : ce.vm = .none) (hcl : s.vm.findClass E = some ce.cls)
    (hx : ∀ t : State, t.heap = H → s.vm.Alike t.vm → XC E s t) (hf : ∀ z ∈ locs, free z.base) (hc : cells ≤ mc) (hs : slots ≤ ms) :
    vx_W p l e R s m args below meth c H locs cells slots (vx_MQ below Qc XC args s mc ms free) (F0 m pc ls rest) q := by
  intro T hT X
  obtain ⟨st1, hrun, hend, hW, hsm⟩ := X.leaveThrown q (g := F0 m pc ls rest) rfl rfl rfl hout hlocks
  have hcell9 : (T.setFrames (.throwing q :: below)).heap[q]? = some ce := by
    show T.heap[q]? = some ce
    rw [hT]; exact hcell
  exact ⟨_, st1, .threw q, hrun, hend, Or.inr ⟨q, rfl, E, ce, locs, hx _ hT hW.alike, hcell9, hv, hcl, hW, hsm.mono hc hs, hf⟩⟩
theorem vx_frame {U : State} {k n : Nat} (h : s.sameButNew ({ U with vm := s.vm } : State) locs k n) : s.heap.size ≤ U.heap.size ∧ ∀ q : Nat, q < s.heap.size → (∀ z ∈ locs, z.base ≠ q) → U.heap[q]? = s.heap[q]? := by
  obtain ⟨-, h2, -, -, -, h6⟩ := h
  refine ⟨h2, fun q hq hz => ?_⟩
  obtain ⟨c9, e1, e2, e3, e4⟩ := h6 q _ (Array.getElem?_eq_getElem hq)
  have hs : c9.slots = (s.heap[q]).slots := Array.ext_getElem? fun i => e4 i fun hm => hz _ hm rfl
  have h9 : c9 = s.heap[q] := by
    rw [hs] at e2
    exact e2
  have e5 : U.heap[q]? = some c9 := e1
  rw [e5, h9, Array.getElem?_eq_getElem hq]
/-- the words of a throw but the four that speak of the heap -/
def vx_no (w : Cond) : Bool := decide (w ≠ .isRef (.static Bundle.tN "UNASSIGNED_STACK" Bundle.steD)) && decide (w ≠ .isRef (.static Bundle.tN "SUPPRESSED_SENTINEL" Bundle.listD)) && decide (w ≠ .laysStatic Bundle.tN "UNASSIGNED_STACK" Bundle.steD) && decide (w ≠ .laysStatic Bundle.tN "SUPPRESSED_SENTINEL" Bundle.listD)
def vx_at0 (own : String) (ic : Nat) (X : String) (names : List String) : List Cond := (Bundle.ownAtoms0 own ic X names).filter vx_no
def vx_atS (own : String) (ic : Nat) (X : String) (names : List String) : List Cond := (Bundle.ownAtoms own ic X names).filter vx_no
/-- a word that the tables alone decide, or a good one -/
def vx_ot (w : Cond) : Bool := w.onTables || goodWord w
theorem vx_ot_at {args a' : Array Value} {s U : State} {w : Cond} (hW : s.WarmedH U.vm) (hvm : s.vm = U.vm) (hg : vx_ot w = true) (h : w.before args s = true) : w.before a' U = true := by
  simp only [vx_ot, Bool.or_eq_true] at hg
  rcases hg with hg | hg
  · exact va_tabs hg hvm h
  · exact word_at hW (good_of_word hg) h
/-- a list's words: the good ones out of the method's own list, the others by premises of their own -/
theorem vx_hat {args : Array Value} {s : State} {L B : List Cond} (h1 : ∀ w ∈ L.filter goodWord, w.before args s = true) (h2 : ∀ w ∈ L.filter (fun w => !goodWord w), w ∈ B) (h3 : ∀ w ∈ B, w.before args s = true) : ∀ w ∈ L, w.before args s = true := by
  intro w hw
  by_cases g : goodWord w = true
  · exact h1 w (List.mem_filter.mpr ⟨hw, g⟩)
  · refine h3 w (h2 w (List.mem_filter.mpr ⟨hw, ?_⟩))
    show (!goodWord w) = true
    cases hgw : goodWord w
    · rfl
    · exact absurd hgw g
theorem vx_c {args : Array Value} {s : State} {w : Cond} {B : List Cond} (h : w.before args s = true) (t : ∀ w ∈ B, w.before args s = true) : ∀ w' ∈ w :: B, w'.before args s = true := fun w' h' => (List.mem_cons.mp h').elim (fun e => by rw [e]; exact h) (t w')
theorem vx_n {args : Array Value} {s : State} : ∀ w ∈ ([] : List Cond), w.before args s = true := fun _ h => nomatch h
theorem vx_own {args : Array Value} {s : State} {L : List Cond} (h1 : ∀ w ∈ L.filter vx_no, w.before args s = true)
    (hU : (Cond.isRef (.static Bundle.tN "UNASSIGNED_STACK" Bundle.steD)).before args s = true) (hN : (Cond.isRef (.static Bundle.tN "SUPPRESSED_SENTINEL" Bundle.listD)).before args s = true)
    (lU : (Cond.laysStatic Bundle.tN "UNASSIGNED_STACK" Bundle.steD).before args s = true) (lN : (Cond.laysStatic Bundle.tN "SUPPRESSED_SENTINEL" Bundle.listD).before args s = true) : ∀ w ∈ L, w.before args s = true := by
  intro w hw
  by_cases e1 : w = .isRef (.static Bundle.tN "UNASSIGNED_STACK" Bundle.steD)
  · rw [e1]; exact hU
  · by_cases e2 : w = .isRef (.static Bundle.tN "SUPPRESSED_SENTINEL" Bundle.listD)
    · rw [e2]; exact hN
    · by_cases e3 : w = .laysStatic Bundle.tN "UNASSIGNED_STACK" Bundle.steD
      · rw [e3]; exact lU
      · by_cases e4 : w = .laysStatic Bundle.tN "SUPPRESSED_SENTINEL" Bundle.listD
        · rw [e4]; exact lN
        · exact h1 w (List.mem_filter.mpr ⟨hw, by unfold vx_no; rw [decide_eq_true e1, decide_eq_true e2, decide_eq_true e3, decide_eq_true e4]; rfl⟩)
/-- where a static field lies, its class's statics cell in H -/
def vx_L (C n d : String) (A : Nat → Prop) (U : State) (H : Heap) : Prop := ∃ (c : ClassId) (k : Class) (i : Nat) (f : Field) (a : Nat) (cell : Cell), U.vm.findClass C = some c ∧ U.fieldFound? C n d = some (c, k, i, f) ∧ f.isStatic = true ∧ k.statics = some a ∧ H[a]? = some cell ∧ cell.vm.isStatics = true ∧ cell.cls = c ∧ f.slot < cell.slots.size ∧ k.staticTypes[f.slot]? = some f.type ∧ ¬ A a
theorem vx_L.moved {C n d : String} {A : Nat → Prop} {u U : State} {H : Heap} (hvm : u.vm.Alike U.vm) (h : vx_L C n d A u H) : vx_L C n d A U H := by
  obtain ⟨c, k, i, f, a, cell, h1, h2, h3, h4, h5, h6, h7, h8, h9, h10⟩ := h
  obtain ⟨k', hi', he⟩ := State.fieldFound?_setVm hvm h2
  exact ⟨c, k', i, f, a, cell, by rw [hvm.findClass]; exact h1, hi', h3, by rw [he]; exact h4, h5, h6, h7, h8, by rw [he]; exact h9, h10⟩
theorem vx_L.kept {C n d : String} {A : Nat → Prop} {U : State} {H H1 : Heap} (h : vx_L C n d A U H) (hq : ∀ a : Nat, a < H.size → ¬ A a → H1[a]? = H[a]?) : vx_L C n d A U H1 := by
  obtain ⟨c, k, i, f, a, cell, h1, h2, h3, h4, h5, h6, h7, h8, h9, h10⟩ := h
  exact ⟨c, k, i, f, a, cell, h1, h2, h3, h4, by rw [hq a (Array.getElem?_eq_some_iff.mp h5).1 h10]; exact h5, h6, h7, h8, h9, h10⟩
theorem vx_L.narrow {C n d : String} {A B : Nat → Prop} {U : State} {H : Heap} (h : vx_L C n d A U H) (hAB : ∀ q, B q → A q) : vx_L C n d B U H := by
  obtain ⟨c, k, i, f, a, cell, h1, h2, h3, h4, h5, h6, h7, h8, h9, h10⟩ := h
  exact ⟨c, k, i, f, a, cell, h1, h2, h3, h4, h5, h6, h7, h8, h9, fun z => h10 (hAB _ z)⟩
theorem vx_L.word {C n d : String} {A : Nat → Prop} {s : State} {args : Array Value} (h : vx_L C n d A s s.heap) : (Cond.laysStatic C n d).before args s = true := by
  obtain ⟨c, k, i, f, a, cell, h1, h2, h3, h4, h5, h6, h7, h8, h9, -⟩ := h
  show (Cond.laysStatic C n d).holds args s none s [] = true
  exact Cond.laysStatic_of h1 h2 h3 h4 h5 h6 h7 h8 h9
/-- .. and what it holds: null or some reference -/
def vx_Zq (C n d : String) (A : Nat → Prop) (U : State) (H : Heap) : Prop := va_Zq C n d A U H ∧ vx_L C n d A U H
theorem vx_Zq.moved {C n d : String} {A : Nat → Prop} {u U : State} {H : Heap} (hvm : u.vm.Alike U.vm) (h : vx_Zq C n d A u H) : vx_Zq C n d A U H := ⟨va_Zq.moved hvm h.1, vx_L.moved hvm h.2⟩
theorem vx_Zq.kept {C n d : String} {A : Nat → Prop} {U : State} {H H1 : Heap} (h : vx_Zq C n d A U H) (hq : ∀ a : Nat, a < H.size → ¬ A a → H1[a]? = H[a]?) : vx_Zq C n d A U H1 := ⟨va_Zq.kept h.1 hq, vx_L.kept h.2 hq⟩
theorem vx_Zq.narrow {C n d : String} {A B : Nat → Prop} {U : State} {H : Heap} (h : vx_Zq C n d A U H) (hAB : ∀ q, B q → A q) : vx_Zq C n d B U H := ⟨va_Zq.narrow h.1 hAB, vx_L.narrow h.2 hAB⟩
theorem vx_Zqof {args : Array Value} {s : State} {C n d : String} {A : Nat → Prop} (hl : (Cond.laysStatic C n d).before args s = true) (hini : (Cond.initialized C).before args s = true) (h : (Cond.isRef (.static C n d)).before args s = true) (hA : ∀ a : Nat, a < s.heap.size → ¬ A a) : vx_Zq C n d A s s.heap := by
  refine ⟨va_Zqof hl hini h hA, ?_⟩
  obtain ⟨c, k, i, f, a, cell, h1, h2, h3, h4, h5, h6, h7, h8, h9⟩ := Cond.laysStatic_spec hl
  exact ⟨c, k, i, f, a, cell, h1, h2, h3, h4, h5, h6, h7, h8, h9, hA a (Array.getElem?_eq_some_iff.mp h5).1⟩
theorem vx_isRef {C n d : String} {v : Value} {A : Nat → Prop} {s : State} {args : Array Value} (h : va_Z C n d v A s s.heap) (hv : v.isRef = true) : (Cond.isRef (.static C n d)).before args s = true := by
  obtain ⟨cf, kf, fi, f, a, cell, h1, h2, h3, h4, h5, h6, h7, -⟩ := h
  have he : (Term.static C n d).eval args s none [] s = some v := by
    simp [Term.eval, State.fieldNamed?, h1, h2, h4, h5, h6, h7]
  simp only [Cond.before, Cond.holds, Cond.value, he]
  cases v <;> simp_all [Value.isRef]
theorem vx_isRefq {C n d : String} {A : Nat → Prop} {s : State} {args : Array Value} (h : va_Zq C n d A s s.heap) : (Cond.isRef (.static C n d)).before args s = true := by
  rcases h with h | ⟨t, h⟩
  · exact vx_isRef h rfl
  · exact vx_isRef h rfl
/-- the same frame, seen from here: as if the method were called anew in this heap -/
theorem vx_rebase {T : State} (X : Stand p l e R s m args below meth c T locs cells slots) {R' : Room} (hf : R'.frames ≤ R.frames) (hl : R'.locals ≤ R.locals) (hc : cells + R'.cells ≤ R.cells) (hs : slots + R'.slots ≤ R.slots) :
    Stand p l e R' ((T.setVm s.vm).setFrames (.invoking m args :: below)) m args below meth c T [] 0 0 := by
  have htop : (T.setVm s.vm).topJava?.isSome := X.here.top
  have hF : ((T.setVm s.vm).setFrames (.invoking m args :: below)).frames = .invoking m args :: below := State.frames_setFrames _ (State.cur_lt_of_top htop)
  obtain ⟨g₀, hg0⟩ := Option.isSome_iff_exists.mp htop
  obtain ⟨r, hr⟩ := State.topJava?_eq_some.mp hg0
  have hl9 : e.platform.stackLimits (T.setVm s.vm).me = e.platform.stackLimits s.me := X.limits
  have hb9 : (T.setVm s.vm).me.stackBytes = s.me.stackBytes := X.bytes
  refine ⟨X.admits, X.cas, X.clock, hF, ?_, X.hears, X.method, X.code, X.here, X.tail, X.warmed, ?_, ?_, ?_⟩
  · have h := X.room
    have hU : ((T.setVm s.vm).setFrames (.invoking m args :: below)).localsInUse = s.localsInUse := by
      rw [State.localsInUse_invoking hF (meth := meth) (c := c) X.method X.code, State.localsInUse_invoking X.frames X.method X.code]
    simp only [State.hasRoom, Bool.and_eq_true, decide_eq_true_eq] at h ⊢
    obtain ⟨⟨⟨⟨h1, h2, h3, h4, h5, h6⟩, h7⟩, h8⟩, h9⟩ := h
    rw [X.frames, List.length_cons] at h2 h3
    have q1 := X.heapSize
    have q2 := X.used
    simp only [hF, hU, List.length_cons, State.stackLimits_setFrames, State.stackBytes_setFrames, hl9, hb9]
    refine ⟨⟨⟨⟨by omega, by omega, by omega, by omega, by omega, h6⟩, ?_⟩, ?_⟩, X.book⟩
    · show T.heap.size + R'.cells ≤ e.platform.maxCells
      omega
    · show T.slotsUsed + R'.slots ≤ e.platform.maxSlots
      omega
  · rw [State.stackLimits_setFrames]; rfl
  · rw [State.stackBytes_setFrames]; rfl
  · refine ⟨?_, Nat.le_refl _, Nat.le_refl _, ?_, ?_, fun a c9 h9 => ⟨c9, h9, rfl, rfl, fun _ _ => rfl⟩⟩
    · obtain ⟨t, ht, -⟩ := State.frames_cons hr
      show T.setVm s.vm = { ((T.setVm s.vm).setFrames (.invoking m args :: below)).setFrames (T.setVm s.vm).frames with heap := T.heap, slotsUsed := T.slotsUsed }
      rw [State.setFrames_setFrames, State.setFrames_self ht]
      rfl
    · show T.slotsUsed = T.slotsUsed + ((T.heap.toList.drop T.heap.size).map (·.slots.size)).sum
      rw [List.drop_eq_nil_of_le (Nat.le_of_eq Array.length_toList)]
      rfl
    · show ((T.heap.toList.drop T.heap.size).map (·.slots.size)).sum ≤ 0
      rw [List.drop_eq_nil_of_le (Nat.le_of_eq Array.length_toList)]
      exact Nat.le_refl _
/-- 'throw new E()': new; dup; invokespecial; athrow -/
theorem vx_throw0 {cc : ByteArray} {pc : Nat} (hexec : p.tables.exec = Jvm.exec) (hb : c.code = cc) (hl : l.stackTraces = false) {own cls : String} {names : List String} {ik ic mc ms : Nat} {A : Nat → Prop}
    (hown : s.vm.findClass own = some m.cls) (hcls : Bundle.fit cls = true) (hnames : ∀ n ∈ names, Bundle.fit n = true)
    (hk : (Cond.classLink own ik cls).before args s = true) (hini : (Cond.initialized cls).before args s = true) (hat : ∀ w ∈ vx_at0 own ic cls names, w.before args s = true)
    (hgood : ∀ w ∈ Cond.classLink own ik cls :: Cond.initialized cls :: vx_at0 own ic cls names, vx_ot w = true)
    (hU : vx_Zq Bundle.tN "UNASSIGNED_STACK" Bundle.steD A s s.heap) (hN : vx_Zq Bundle.tN "SUPPRESSED_SENTINEL" Bundle.listD A s s.heap) (hS : va_S A s.heap H locs) (hsize : ls.size = c.maxLocals)
    (d0 : decode cc pc = .ok (.new ik, 3)) (d3 : decode cc (pc + 3) = .ok (.dup, 1)) (d4 : decode cc (pc + 4) = .ok (.invokespecial ic, 3)) (d7 : decode cc (pc + 7) = .ok (.athrow, 1))
    (hout : ∀ x ∈ c.exceptionTable.toList, covers x (pc + 7) = false)
    (hRframes : names.length + 3 < R.frames) (hRlocals : (rest.map fun v => v.category).sum + (13 * (names.length + 1) + 42) ≤ R.locals) (hRcells : cells + 1 ≤ R.cells) (hRslots : slots + 6 ≤ R.slots) (hlocks : meth.locks = false)
    (hx : ∀ t : State, s.vm.Alike t.vm → H.size ≤ t.heap.size → (∀ q : Nat, q < H.size → t.heap[q]? = H[q]?) → XC cls s t)
    (hf : ∀ z ∈ locs, free z.base) (hc : cells + 1 ≤ mc) (hs : slots + 6 ≤ ms) :
    W p l e R s m args below meth c H locs cells slots (vx_MQ below Qc XC args s mc ms free) (F0 m pc ls rest) := by
  intro T hT X
  have htr : e.platform.stackTraces = false := (show e.platform.stackTraces = l.stackTraces by rw [X.admits.platform]).trans hl
  have Y := vx_rebase X (R' := { frames := R.frames, locals := R.locals, cells := 1, slots := 6 }) (Nat.le_refl _) (Nat.le_refl _) hRcells hRslots
  obtain ⟨s', hA⟩ : ∃ z, z = (T.setVm s.vm).setFrames (.invoking m args :: below) := ⟨_, rfl⟩
  rw [← hA] at Y
  have hvm : s'.vm = s.vm := by rw [hA]; rfl
  have hhp : s'.heap = H := by rw [hA]; exact hT
  have hW0 : s.WarmedH s'.vm := by rw [hvm]; exact State.WarmedH.refl s
  have hat' : ∀ w ∈ vx_at0 own ic cls names, w.before args s' = true := fun w hw => vx_ot_at hW0 hvm.symm (hgood w (List.mem_cons_of_mem _ (List.mem_cons_of_mem _ hw))) (hat w hw)
  have hk' : (Cond.classLink own ik cls).before args s' = true := vx_ot_at hW0 hvm.symm (hgood _ List.mem_cons_self) hk
  have hini' : (Cond.initialized cls).before args s' = true := vx_ot_at hW0 hvm.symm (hgood _ (List.mem_cons_of_mem _ List.mem_cons_self)) hini
  have hU' : vx_Zq Bundle.tN "UNASSIGNED_STACK" Bundle.steD A s' s'.heap := by rw [hhp]; exact vx_Zq.moved hW0.alike (hU.kept hS.2.1)
  have hN' : vx_Zq Bundle.tN "SUPPRESSED_SENTINEL" Bundle.listD A s' s'.heap := by rw [hhp]; exact vx_Zq.moved hW0.alike (hN.kept hS.2.1)
  have h : ∀ w ∈ Bundle.ownAtoms0 own ic cls names, w.before args s' = true := vx_own hat' (vx_isRefq hU'.1) (vx_isRefq hN'.1) hU'.2.word hN'.2.word
  have hown' : s'.vm.findClass own = some m.cls := by rw [hvm]; exact hown
  have hins : (Cond.instantiable cls 6).before args s' = true := h _ (by simp [Bundle.ownAtoms0])
  obtain ⟨vm₁, cX, kX, hfX, hkX, -, -, X₁, st1⟩ := Y.newCold hexec (own := own) (C := cls) (index := ik) (n := 6) hown' hk' hins hini'
    (g := F0 m pc ls rest) rfl (by rw [hb]; exact d0) (Nat.le_refl _) (Nat.le_refl _)
  generalize hT1 : (T.setVm vm₁).pushCell { cls := cX, slots := kX.instanceTypes.map defaultValue, vm := .none } = T1 at X₁ st1
  have hcat : (Value.ref T.heap.size).category = 1 := rfl
  have hcellA : T1.heap[T.heap.size]? = some (freshCell cX kX) := by rw [← hT1]; exact State.heap_pushCell_size _ _
  have d3' : decode c.code (pc + 3) = .ok (.dup, 1) := by rw [hb]; exact d3
  obtain ⟨U, hsteps, hrun, hend, hW, hsame, ce, hce, hO⟩ := X₁.ctorThrow0 hexec htr (own := own) (cls := cls) (names := names) (ic := ic) hown' hcls hnames h (fun x hx => nomatch hx) hfX hkX hcellA (by rw [hhp, hT]; exact Nat.le_refl _)
    (g := { method := m, pc := pc + 4, locals := ls, stack := .ref T.heap.size :: .ref T.heap.size :: rest, locked := none }) rfl hsize rfl rfl (rest := rest) rfl
    (by rw [hb]; exact d4) (by rw [hb]; exact d7) hout hRframes (by simp only [List.map_cons, List.sum_cons, hcat]; omega) hlocks
  obtain ⟨f1, f2⟩ := vx_frame hsame
  rw [hhp] at f1 f2
  have hWs : s.WarmedH U.vm := State.WarmedH.trans hW0 hW
  have hcl : s.vm.findClass cls = some ce.cls := by
    have h9 := hO.cls
    rw [hvm] at h9
    exact h9
  have hall : s.sameButNew ({ U with vm := s.vm } : State) locs mc ms := by
    subst hA
    obtain ⟨e1, e2⟩ := hsame
    rw [State.setFrames_setFrames] at e1
    have h2 : (T.setVm s.vm).sameButNew ({ U with vm := s.vm } : State) [] (0 + 1) (0 + 6) := ⟨e1, e2⟩
    have h3 := X.same.trans h2
    rw [List.append_nil] at h3
    exact h3.mono hc hs
  refine ⟨U, ?_, .threw T.heap.size, hrun, hend, Or.inr ⟨T.heap.size, rfl, cls, ce, locs, hx U hWs.alike f1 (fun q hq => f2 q hq (fun z hz => nomatch hz)), hce, hO.vm, hcl, hWs, hall, hf⟩⟩
  refine st1 _ ?_
  show Steps p.tables e below (T1.setTop { method := m, pc := pc + 3, locals := ls, stack := .ref T.heap.size :: rest, locked := none }) _
  jvm_step X₁.here [X₁.here.top, hexec, d3', Value.category]
  exact hsteps
/-- 'throw new E("text")': new; dup; ldc; invokespecial; athrow -/
theorem vx_throwS {cc : ByteArray} {pc : Nat} (hexec : p.tables.exec = Jvm.exec) (hb : c.code = cc) (hl : l.stackTraces = false) {own cls text : String} {names : List String} {ik is ic mc ms sa : Nat} {A : Nat → Prop}
    (hown : s.vm.findClass own = some m.cls) (hcls : Bundle.fit cls = true) (hnames : ∀ n ∈ names, Bundle.fit n = true)
    (hk : (Cond.classLink own ik cls).before args s = true) (hini : (Cond.initialized cls).before args s = true) (hstr : vk_R own is text sa s) (hat : ∀ w ∈ vx_atS own ic cls names, w.before args s = true)
    (hgood : ∀ w ∈ Cond.classLink own ik cls :: Cond.initialized cls :: vx_atS own ic cls names, vx_ot w = true)
    (hU : vx_Zq Bundle.tN "UNASSIGNED_STACK" Bundle.steD A s s.heap) (hN : vx_Zq Bundle.tN "SUPPRESSED_SENTINEL" Bundle.listD A s s.heap) (hS : va_S A s.heap H locs) (hsize : ls.size = c.maxLocals)
    (d0 : decode cc pc = .ok (.new ik, 3)) (d3 : decode cc (pc + 3) = .ok (.dup, 1)) (d4 : decode cc (pc + 4) = .ok (.ldc is, 2)) (d6 : decode cc (pc + 6) = .ok (.invokespecial ic, 3)) (d9 : decode cc (pc + 9) = .ok (.athrow, 1))
    (hout : ∀ x ∈ c.exceptionTable.toList, covers x (pc + 9) = false)
    (hRframes : names.length + 3 < R.frames) (hRlocals : (rest.map fun v => v.category).sum + (13 * (names.length + 1) + 43) ≤ R.locals) (hRcells : cells + 1 ≤ R.cells) (hRslots : slots + 6 ≤ R.slots) (hlocks : meth.locks = false)
    (hx : ∀ t : State, s.vm.Alike t.vm → H.size ≤ t.heap.size → (∀ q : Nat, q < H.size → t.heap[q]? = H[q]?) → XC cls s t)
    (hf : ∀ z ∈ locs, free z.base) (hc : cells + 1 ≤ mc) (hs : slots + 6 ≤ ms) :
    W p l e R s m args below meth c H locs cells slots (vx_MQ below Qc XC args s mc ms free) (F0 m pc ls rest) := by
  intro T hT X
  have htr : e.platform.stackTraces = false := (show e.platform.stackTraces = l.stackTraces by rw [X.admits.platform]).trans hl
  have Y := vx_rebase X (R' := { frames := R.frames, locals := R.locals, cells := 1, slots := 6 }) (Nat.le_refl _) (Nat.le_refl _) hRcells hRslots
  obtain ⟨s', hA⟩ : ∃ z, z = (T.setVm s.vm).setFrames (.invoking m args :: below) := ⟨_, rfl⟩
  rw [← hA] at Y
  have hvm : s'.vm = s.vm := by rw [hA]; rfl
  have hhp : s'.heap = H := by rw [hA]; exact hT
  have hW0 : s.WarmedH s'.vm := by rw [hvm]; exact State.WarmedH.refl s
  have hat' : ∀ w ∈ vx_atS own ic cls names, w.before args s' = true := fun w hw => vx_ot_at hW0 hvm.symm (hgood w (List.mem_cons_of_mem _ (List.mem_cons_of_mem _ hw))) (hat w hw)
  have hk' : (Cond.classLink own ik cls).before args s' = true := vx_ot_at hW0 hvm.symm (hgood _ List.mem_cons_self) hk
  have hini' : (Cond.initialized cls).before args s' = true := vx_ot_at hW0 hvm.symm (hgood _ (List.mem_cons_of_mem _ List.mem_cons_self)) hini
  have hU' : vx_Zq Bundle.tN "UNASSIGNED_STACK" Bundle.steD A s' s'.heap := by rw [hhp]; exact vx_Zq.moved hW0.alike (hU.kept hS.2.1)
  have hN' : vx_Zq Bundle.tN "SUPPRESSED_SENTINEL" Bundle.listD A s' s'.heap := by rw [hhp]; exact vx_Zq.moved hW0.alike (hN.kept hS.2.1)
  have h : ∀ w ∈ Bundle.ownAtoms own ic cls names, w.before args s' = true := vx_own hat' (vx_isRefq hU'.1) (vx_isRefq hN'.1) hU'.2.word hN'.2.word
  have hown' : s'.vm.findClass own = some m.cls := by rw [hvm]; exact hown
  have hins : (Cond.instantiable cls 6).before args s' = true := h _ (by simp [Bundle.ownAtoms])
  obtain ⟨vm₁, cX, kX, hfX, hkX, -, -, X₁, st1⟩ := Y.newCold hexec (own := own) (C := cls) (index := ik) (n := 6) hown' hk' hins hini'
    (g := F0 m pc ls rest) rfl (by rw [hb]; exact d0) (Nat.le_refl _) (Nat.le_refl _)
  generalize hT1 : (T.setVm vm₁).pushCell { cls := cX, slots := kX.instanceTypes.map defaultValue, vm := .none } = T1 at X₁ st1
  have hcat : (Value.ref T.heap.size).category = 1 := rfl
  have hcellA : T1.heap[T.heap.size]? = some (freshCell cX kX) := by rw [← hT1]; exact State.heap_pushCell_size _ _
  have d3' : decode c.code (pc + 3) = .ok (.dup, 1) := by rw [hb]; exact d3
  have d4' : decode c.code (pc + 4) = .ok (.ldc is, 2) := by rw [hb]; exact d4
  have hstr' : vk_R own is text sa s' := vk_R.warm hW0 hstr
  obtain ⟨U, hsteps, hrun, hend, hW, hsame, ce, hce, hO⟩ := X₁.ctorThrowS hexec htr (own := own) (cls := cls) (names := names) (ic := ic) hown' hcls hnames h (fun x hx => nomatch hx) hfX hkX hcellA (by rw [hhp, hT]; exact Nat.le_refl _) (msg := .ref sa) rfl
    (g := { method := m, pc := pc + 6, locals := ls, stack := .ref sa :: .ref T.heap.size :: .ref T.heap.size :: rest, locked := none }) rfl hsize rfl rfl (rest := rest) rfl
    (by rw [hb]; exact d6) (by rw [hb]; exact d9) hout hRframes (by simp only [List.map_cons, List.sum_cons, hcat]; omega) hlocks
  obtain ⟨f1, f2⟩ := vx_frame hsame
  rw [hhp] at f1 f2
  have hWs : s.WarmedH U.vm := State.WarmedH.trans hW0 hW
  have hcl : s.vm.findClass cls = some ce.cls := by
    have h9 := hO.cls
    rw [hvm] at h9
    exact h9
  have hall : s.sameButNew ({ U with vm := s.vm } : State) locs mc ms := by
    subst hA
    obtain ⟨e1, e2⟩ := hsame
    rw [State.setFrames_setFrames] at e1
    have h2 : (T.setVm s.vm).sameButNew ({ U with vm := s.vm } : State) [] (0 + 1) (0 + 6) := ⟨e1, e2⟩
    have h3 := X.same.trans h2
    rw [List.append_nil] at h3
    exact h3.mono hc hs
  refine ⟨U, ?_, .threw T.heap.size, hrun, hend, Or.inr ⟨T.heap.size, rfl, cls, ce, locs, hx U hWs.alike f1 (fun q hq => f2 q hq (fun z hz => nomatch hz)), hce, hO.vm, hcl, hWs, hall, hf⟩⟩
  refine st1 _ ?_
  show Steps p.tables e below (T1.setTop { method := m, pc := pc + 3, locals := ls, stack := .ref T.heap.size :: rest, locked := none }) _
  jvm_step X₁.here [X₁.here.top, hexec, d3', Value.category]
  exact X₁.ldcString hexec (own := own) (text := text) (index := is) (a := sa) hown' hstr'.1 hstr'.2
    (g := { method := m, pc := pc + 4, locals := ls, stack := .ref T.heap.size :: .ref T.heap.size :: rest, locked := none }) rfl d4' _ hsteps
/-- 'throw new E("text")', the text by a wide index -/
theorem vx_throwSW {cc : ByteArray} {pc : Nat} (hexec : p.tables.exec = Jvm.exec) (hb : c.code = cc) (hl : l.stackTraces = false) {own cls text : String} {names : List String} {ik is ic mc ms sa : Nat} {A : Nat → Prop}
    (hown : s.vm.findClass own = some m.cls) (hcls : Bundle.fit cls = true) (hnames : ∀ n ∈ names, Bundle.fit n = true)
    (hk : (Cond.classLink own ik cls).before args s = true) (hini : (Cond.initialized cls).before args s = true) (hstr : vk_R own is text sa s) (hat : ∀ w ∈ vx_atS own ic cls names, w.before args s = true)
    (hgood : ∀ w ∈ Cond.classLink own ik cls :: Cond.initialized cls :: vx_atS own ic cls names, vx_ot w = true)
    (hU : vx_Zq Bundle.tN "UNASSIGNED_STACK" Bundle.steD A s s.heap) (hN : vx_Zq Bundle.tN "SUPPRESSED_SENTINEL" Bundle.listD A s s.heap) (hS : va_S A s.heap H locs) (hsize : ls.size = c.maxLocals)
    (d0 : decode cc pc = .ok (.new ik, 3)) (d3 : decode cc (pc + 3) = .ok (.dup, 1)) (d4 : decode cc (pc + 4) = .ok (.ldc_w is, 3)) (d7 : decode cc (pc + 7) = .ok (.invokespecial ic, 3)) (d10 : decode cc (pc + 10) = .ok (.athrow, 1))
    (hout : ∀ x ∈ c.exceptionTable.toList, covers x (pc + 10) = false)
    (hRframes : names.length + 3 < R.frames) (hRlocals : (rest.map fun v => v.category).sum + (13 * (names.length + 1) + 43) ≤ R.locals) (hRcells : cells + 1 ≤ R.cells) (hRslots : slots + 6 ≤ R.slots) (hlocks : meth.locks = false)
    (hx : ∀ t : State, s.vm.Alike t.vm → H.size ≤ t.heap.size → (∀ q : Nat, q < H.size → t.heap[q]? = H[q]?) → XC cls s t)
    (hf : ∀ z ∈ locs, free z.base) (hc : cells + 1 ≤ mc) (hs : slots + 6 ≤ ms) :
    W p l e R s m args below meth c H locs cells slots (vx_MQ below Qc XC args s mc ms free) (F0 m pc ls rest) := by
  intro T hT X
  have htr : e.platform.stackTraces = false := (show e.platform.stackTraces = l.stackTraces by rw [X.admits.platform]).trans hl
  have Y := vx_rebase X (R' := { frames := R.frames, locals := R.locals, cells := 1, slots := 6 }) (Nat.le_refl _) (Nat.le_refl _) hRcells hRslots
  obtain ⟨s', hA⟩ : ∃ z, z = (T.setVm s.vm).setFrames (.invoking m args :: below) := ⟨_, rfl⟩
  rw [← hA] at Y
  have hvm : s'.vm = s.vm := by rw [hA]; rfl
  have hhp : s'.heap = H := by rw [hA]; exact hT
  have hW0 : s.WarmedH s'.vm := by rw [hvm]; exact State.WarmedH.refl s
  have hat' : ∀ w ∈ vx_atS own ic cls names, w.before args s' = true := fun w hw => vx_ot_at hW0 hvm.symm (hgood w (List.mem_cons_of_mem _ (List.mem_cons_of_mem _ hw))) (hat w hw)
  have hk' : (Cond.classLink own ik cls).before args s' = true := vx_ot_at hW0 hvm.symm (hgood _ List.mem_cons_self) hk
  have hini' : (Cond.initialized cls).before args s' = true := vx_ot_at hW0 hvm.symm (hgood _ (List.mem_cons_of_mem _ List.mem_cons_self)) hini
  have hU' : vx_Zq Bundle.tN "UNASSIGNED_STACK" Bundle.steD A s' s'.heap := by rw [hhp]; exact vx_Zq.moved hW0.alike (hU.kept hS.2.1)
  have hN' : vx_Zq Bundle.tN "SUPPRESSED_SENTINEL" Bundle.listD A s' s'.heap := by rw [hhp]; exact vx_Zq.moved hW0.alike (hN.kept hS.2.1)
  have h : ∀ w ∈ Bundle.ownAtoms own ic cls names, w.before args s' = true := vx_own hat' (vx_isRefq hU'.1) (vx_isRefq hN'.1) hU'.2.word hN'.2.word
  have hown' : s'.vm.findClass own = some m.cls := by rw [hvm]; exact hown
  have hins : (Cond.instantiable cls 6).before args s' = true := h _ (by simp [Bundle.ownAtoms])
  obtain ⟨vm₁, cX, kX, hfX, hkX, -, -, X₁, st1⟩ := Y.newCold hexec (own := own) (C := cls) (index := ik) (n := 6) hown' hk' hins hini'
    (g := F0 m pc ls rest) rfl (by rw [hb]; exact d0) (Nat.le_refl _) (Nat.le_refl _)
  generalize hT1 : (T.setVm vm₁).pushCell { cls := cX, slots := kX.instanceTypes.map defaultValue, vm := .none } = T1 at X₁ st1
  have hcat : (Value.ref T.heap.size).category = 1 := rfl
  have hcellA : T1.heap[T.heap.size]? = some (freshCell cX kX) := by rw [← hT1]; exact State.heap_pushCell_size _ _
  have d3' : decode c.code (pc + 3) = .ok (.dup, 1) := by rw [hb]; exact d3
  have d4' : decode c.code (pc + 4) = .ok (.ldc_w is, 3) := by rw [hb]; exact d4
  have hstr' : vk_R own is text sa s' := vk_R.warm hW0 hstr
  obtain ⟨U, hsteps, hrun, hend, hW, hsame, ce, hce, hO⟩ := X₁.ctorThrowS hexec htr (own := own) (cls := cls) (names := names) (ic := ic) hown' hcls hnames h (fun x hx => nomatch hx) hfX hkX hcellA (by rw [hhp, hT]; exact Nat.le_refl _) (msg := .ref sa) rfl
    (g := { method := m, pc := pc + 7, locals := ls, stack := .ref sa :: .ref T.heap.size :: .ref T.heap.size :: rest, locked := none }) rfl hsize rfl rfl (rest := rest) rfl
    (by rw [hb]; exact d7) (by rw [hb]; exact d10) hout hRframes (by simp only [List.map_cons, List.sum_cons, hcat]; omega) hlocks
  obtain ⟨f1, f2⟩ := vx_frame hsame
  rw [hhp] at f1 f2
  have hWs : s.WarmedH U.vm := State.WarmedH.trans hW0 hW
  have hcl : s.vm.findClass cls = some ce.cls := by
    have h9 := hO.cls
    rw [hvm] at h9
    exact h9
  have hall : s.sameButNew ({ U with vm := s.vm } : State) locs mc ms := by
    subst hA
    obtain ⟨e1, e2⟩ := hsame
    rw [State.setFrames_setFrames] at e1
    have h2 : (T.setVm s.vm).sameButNew ({ U with vm := s.vm } : State) [] (0 + 1) (0 + 6) := ⟨e1, e2⟩
    have h3 := X.same.trans h2
    rw [List.append_nil] at h3
    exact h3.mono hc hs
  refine ⟨U, ?_, .threw T.heap.size, hrun, hend, Or.inr ⟨T.heap.size, rfl, cls, ce, locs, hx U hWs.alike f1 (fun q hq => f2 q hq (fun z hz => nomatch hz)), hce, hO.vm, hcl, hWs, hall, hf⟩⟩
  refine st1 _ ?_
  show Steps p.tables e below (T1.setTop { method := m, pc := pc + 3, locals := ls, stack := .ref T.heap.size :: rest, locked := none }) _
  jvm_step X₁.here [X₁.here.top, hexec, d3', Value.category]
  exact X₁.ldcStringW hexec (own := own) (text := text) (index := is) (a := sa) hown' hstr'.1 hstr'.2
    (g := { method := m, pc := pc + 4, locals := ls, stack := .ref T.heap.size :: .ref T.heap.size :: rest, locked := none }) rfl d4' _ hsteps
end Ends
section Bodies
variable {l : Launch}
theorem vx_ofW {y : MethodName} {ws ws' : List Cond} {rm : Room} {Pc : Array Value → State → Prop} {Qc : Array Value → State → Outcome → State → Prop} {XC : String → State → State → Prop} {mc ms : Nat} {free : Addr → Prop} {cc : ByteArray} {maxL : Nat} {ret : Option FieldType}
    (hy : plainName y.cls = true) (hw : ws = Cond.code y cc maxL ret :: ws')
    (body : ∀ p e s m args below meth c s₁, BodyLoose p l y (headSpec ws rm) cc maxL ret e s m args below meth c s₁ → c.maxLocals = maxL → (∀ x ∈ c.exceptionTable.toList, False) → Pc args s →
      W p l e (headSpec ws rm).room s m args below meth c s.heap [] 0 0 (vx_MQ below Qc XC args s mc ms free) (entryFrame m args maxL)) : vx_Met l y ws rm Pc Qc XC mc ms free := by
  refine MetFree.of_bodyS (code := cc) (maxLocals := maxL) (ret := ret) hy ?_ ?_
  · intro args s m h hn
    obtain ⟨meth, c, h1, h2, h3, h4, h5, h6, -, -⟩ := Cond.code_spec hn (atoms_spec (ws := ws) h _ (by rw [hw]; exact List.mem_cons_self))
    exact ⟨meth, c, h1, h2, h3, h4, h5, h6⟩
  · intro p e s m args below meth c s₁ B hml hP _
    have hh0 : s₁.heap = s.heap := by rw [B.state]; rfl
    have ht : ∀ x ∈ c.exceptionTable.toList, False := by
      obtain ⟨meth9, c9, h1, h2, -, -, -, -, h7, -⟩ := Cond.code_spec B.named (atoms_spec (ws := ws) B.pre _ (by rw [hw]; exact List.mem_cons_self))
      cases Option.some.inj (h1.symm.trans B.method)
      cases Option.some.inj (h2.symm.trans (Stand.of_body B).code)
      intro x hx
      rw [Array.isEmpty_iff.mp h7] at hx
      cases hx
    obtain ⟨t, a1, o, b1, b2, b3⟩ := body p e s m args below meth c s₁ B hml ht hP s₁ hh0 (Stand.of_body B)
    exact ⟨t, o, a1, b1, b2, b3⟩
/-- the table of a body with handlers -/
theorem vx_table {p : Program} {x y : MethodName} {S : Spec} {cc bytes : ByteArray} {maxL maxL' : Nat} {ret ret' : Option FieldType} {e : Env} {s s₁ : State} {m : MethodId} {args : Array Value} {below : List Frame} {meth : Method} {c : Code} {hh : List (Nat × Nat × Nat × Nat)}
    (B : BodyLoose p l y S cc maxL ret e s m args below meth c s₁) (h : (Cond.codeWith y bytes maxL' ret' hh).before args s = true) : c.exceptionTable.toList = tableOf hh := by
  obtain ⟨m9, meth9, c9, hn9, h1, h2, -, -, h6, -⟩ := Cond.codeWith_spec h
  cases Option.some.inj (hn9.symm.trans B.named)
  cases Option.some.inj (h1.symm.trans B.method)
  cases Option.some.inj (h2.symm.trans (Stand.of_body B).code)
  rw [← h6, table_eq]
end Bodies
end VXA
/-! ===== END ===== -/
/-! ===== BEGIN a static call of a method with an exception table ===== -/
section VXS
variable {p : Program} {l : Launch} {e : Env} {R : Room} {s : State} {m : MethodId} {args : Array Value} {below : List Frame} {meth : Method} {c : Code} {T : State} {H : Heap} {locs : List Loc} {cells slots : Nat}
abbrev vx_CSW (R : Room) (s : State) (args : Array Value) (own : String) (index : Nat) (y : MethodName) (bytes : ByteArray) (maxL : Nat) (ret : Option FieldType) (hh : List (Nat × Nat × Nat × Nat)) (ws : List Cond) (rm : Room) (mc ms n : Nat) : Prop :=
  (rm.cells = mc ∧ rm.slots = ms ∧ rm.frames + 1 ≤ R.frames ∧ 8 + (maxL + 11) + rm.locals ≤ R.locals ∧ (∀ w ∈ ws, ∀ (a' : Array Value) (U : State), s.WarmedH U.vm → w.before a' U = true) ∧ Cond.codeWith y bytes maxL ret hh ∈ ws) ∧
  (Cond.codeWith y bytes maxL ret hh).before args s = true ∧ (Cond.initialized y.cls).before args s = true ∧ (y.cls ≠ "java/lang/invoke/MethodHandle" ∧ y.cls ≠ "java/lang/invoke/VarHandle") ∧
  (∀ sig, parseMethodDescriptor y.desc = some sig → n = sig.parameters.length) ∧ (Cond.methodLink own index y).before args s = true ∧ (Cond.static y).before args s = true
theorem vx_cwSW {own : String} {index maxL mc ms : Nat} {y : MethodName} {bytes : ByteArray} {ret : Option FieldType} {hh : List (Nat × Nat × Nat × Nat)} {Ts ws ws' : List Cond} {rm : Room} (n : Nat) (ht : ∀ w ∈ Ts, w.before args s = true) (hT : GoodIn Ts (va_wsS own index y ws)) (hw : ws = Cond.codeWith y bytes maxL ret hh :: ws') (hrc : rm.cells = mc) (hrs : rm.slots = ms)
    (hd : y.cls ≠ "java/lang/invoke/MethodHandle" ∧ y.cls ≠ "java/lang/invoke/VarHandle" ∧ (parseMethodDescriptor y.desc).map (fun d => d.parameters.length) = some n) (hR : rm.frames + 1 ≤ R.frames ∧ 8 + (maxL + 11) + rm.locals ≤ R.locals) :
    vx_CSW R s args own index y bytes maxL ret hh ws rm mc ms n := by
  have ok : ∀ w ∈ va_wsS own index y ws, w.before args s = true := fun w h => ht w (hT w h).1
  have hG : GoodIn Ts ws := fun w h => hT w (by unfold va_wsS; exact List.mem_append_right _ h)
  have hc : Cond.codeWith y bytes maxL ret hh ∈ ws := by rw [hw]; exact List.mem_cons_self
  refine ⟨⟨hrc, hrs, hR.1, hR.2, pay_in ht hG, hc⟩, ht _ (hG _ hc).1, ok _ (by simp [va_wsS]), ⟨hd.1, hd.2.1⟩, fun sig h => ?_, ok _ (by simp [va_wsS]), ok _ (by simp [va_wsS])⟩
  have h2 := hd.2.2
  rw [h] at h2
  exact (Option.some.inj h2).symm
theorem vx_callSW (X : Stand p l e R s m args below meth c T locs cells slots) (hexec : p.tables.exec = Jvm.exec) {own : String} {index : Nat} {y : MethodName} {bytes : ByteArray} {maxL : Nat} {ret : Option FieldType} {hh : List (Nat × Nat × Nat × Nat)}
    (hown : s.vm.findClass own = some m.cls) (hlink : (Cond.methodLink own index y).before args s = true) (hstat : (Cond.static y).before args s = true) (hinit : (Cond.initialized y.cls).before args s = true)
    (hcode : (Cond.codeWith y bytes maxL ret hh).before args s = true) (hy : y.cls ≠ "java/lang/invoke/MethodHandle" ∧ y.cls ≠ "java/lang/invoke/VarHandle")
    {W9 : Nat} {Pre : Pt → Array Value → Prop} {Post : Pt → Array Value → Option Value → Pt → Prop} (hK : Back l R p e below s args y 3 W9 Pre Post)
    {g : JFrame} (hg : g.method = m) (hsize : g.locals.size = c.maxLocals) {argsL rest : List Value} (hlen : ∀ sig, parseMethodDescriptor y.desc = some sig → argsL.length = sig.parameters.length)
    (hstack : g.stack = argsL.reverse ++ rest) (hW : 2 * g.monitorRoom + (rest.map fun v => v.category).sum ≤ W9) (hdg : decode c.code g.pc = .ok (.invokestatic index, 3))
    (hpre : ∀ vm₁, s.WarmedH vm₁ → Pre ⟨T.setVm vm₁, locs, cells, slots⟩ argsL.toArray) :
    ∃ (v : Option Value) (vm₁ : Vm) (B : Pt), s.WarmedH vm₁ ∧ Stand p l e R s m args below meth c B.U B.locs B.cells B.slots ∧ Post ⟨T.setVm vm₁, locs, cells, slots⟩ argsL.toArray v B ∧
      ∀ target, Steps p.tables e below (B.U.setTop { g with pc := g.pc + 3, stack := v.toList ++ rest }) target → Steps p.tables e below (T.setTop g) target := by
  obtain ⟨mk, methM, cM, hnamed, hmethM, -, -, -, -, -, -, hsigM⟩ := Cond.codeWith_spec hcode
  have hstatic : methM.isStatic = true := Cond.static_spec hnamed hmethM hstat
  obtain ⟨kP, hkP, -⟩ := className_of_methodNamed hnamed
  have hinitP : kP.init = .initialized := Cond.initialized_spec (findClass_of_methodNamed hnamed) hkP hinit
  obtain ⟨vm₁, X₁, hstep₁⟩ := X.invokestatic hexec hown hlink hnamed hmethM hstatic hkP hinitP hy (g := g) hg (argsL := argsL) (rest := rest) (hlen _ hsigM) hstack hdg
  obtain ⟨v, B, X', hpost, hsteps⟩ := hK m meth c ⟨T.setVm vm₁, locs, cells, slots⟩ { g with stack := rest } (.invokestatic index) mk argsL.toArray X₁ hg hsize hdg hW (X₁.named hnamed) (hpre vm₁ X₁.warmed)
  exact ⟨v, vm₁, B, X₁.warmed, X', hpost, fun target h => hstep₁ _ fun acts => by rw [doInvoke_state]; exact hsteps.trans h⟩
theorem vx_runSW {y : MethodName} {bytes cc : ByteArray} {maxL nL mc ms n index : Nat} {ret : Option FieldType} {hh : List (Nat × Nat × Nat × Nat)} {ws : List Cond} {rm : Room} {Pc : Array Value → State → Prop} {Qc : Array Value → State → Outcome → State → Prop} {free : Addr → Prop} {Ts : List Cond} {own : String} {As rest : List Value} {g : JFrame}
    (S : CallFix p m c cc nL s args Ts own) (hM : Met l y ws rm Pc Qc mc ms free) (cw : vx_CSW R s args own index y bytes maxL ret hh ws rm mc ms n) (hp : PreS s H Pc As)
    (hg : g.method = m) (hn : As.length = n) (hsize : g.locals.size = nL) (hstack : g.stack = As.reverse ++ rest) (hW : 2 * g.monitorRoom + (rest.map fun v => v.category).sum ≤ 8) (hdg : decode cc g.pc = .ok (.invokestatic index, 3)) (hf : cells + mc ≤ R.cells ∧ slots + ms ≤ R.slots) :
    va_Run p l e R s m args below meth c H locs cells slots mc ms g rest (Qc As.toArray) (free) := by
  obtain ⟨⟨hrc, hrs, hfr, hlo, hws, hcw⟩, hcode, hini, hy, hlen, hl, hstt⟩ := cw
  have hK : Back l R p e below s args y 3 8 (PreOf R mc ms Pc) (PostOf Qc mc ms free) := va_backW (hh := hh) (bytes := bytes) (maxL := maxL) (ret := ret) hM hp.1 hrc hrs hfr hlo hws hcw (fun a' U hW => word_at hW (Or.inl (by first | rfl | simp [Cond.onTables, Cond.keeps, Cond.steady])) hini)
  obtain ⟨hx, hb, hml, ho, -⟩ := S
  intro T hT X
  obtain ⟨v, vm₁, ⟨U', l2, c2, s2⟩, hW₁, X', ⟨g', mk, t, L, e1, e2, hq, h1, hL, h2, h3⟩, st⟩ := vx_callSW X hx (hh := hh) (bytes := bytes) (maxL := maxL) (ret := ret) ho hl hstt hini hcode hy hK hg (hsize.trans hml.symm) (argsL := As) (rest := rest) (fun sig h => hn.trans (hlen sig h)) hstack hW (by rw [hb]; exact hdg)
    (fun vm₁ hW₁ => ⟨hf.1, hf.2, hp.2 (T.setVm vm₁) hT hW₁⟩)
  dsimp only [Pt.U, Pt.locs, Pt.cells, Pt.slots] at X' e1 e2 h1 h2 h3 st
  subst h1; subst h2; subst h3
  exact ⟨v, (T.setVm vm₁).calling g' mk As.toArray, t, U', L, hT, X', hL, e1, e2, hq, st⟩
/-- not caught here, past rows that name other classes: it goes on to the caller -/
theorem vx_outP {p : Program} {l : Launch} {e : Env} {R : Room} {s : State} {m : MethodId} {args : Array Value} {below : List Frame} {meth : Method} {c : Code} {H : Heap} {locs : List Loc} {cells slots : Nat} {free : Addr → Prop} {ls : Array Slot} {rest : List Value} {Qc : Array Value → State → Outcome → State → Prop} {XC : String → State → State → Prop}
    {pc : Nat} {own E : String} {ce : Cell} {q : Addr} {mc ms : Nat} (hown : s.vm.findClass own = some m.cls) (hlocks : meth.locks = false)
    (hpass : ∀ z ∈ c.exceptionTable.toList, covers z pc = false ∨ (z.catchType ≠ 0 ∧ ∃ nm : String, (Cond.classLink own z.catchType nm).before args s = true ∧ va_Nc E nm s)) (hcell : H[q]? = some ce) (hv : ce.vm = .none) (hcl : s.vm.findClass E = some ce.cls)
    (hx : ∀ t : State, t.heap = H → s.vm.Alike t.vm → XC E s t) (hf : ∀ z ∈ locs, free z.base) (hc : cells ≤ mc) (hs : slots ≤ ms) :
    vx_W p l e R s m args below meth c H locs cells slots (vx_MQ below Qc XC args s mc ms free) (F0 m pc ls rest) q := by
  intro T hT X
  have hpl : e.platform.magicAccessors = ({} : Platform).magicAccessors := by rw [X.admits.platform]
  obtain ⟨vm', hW', X', st⟩ := X.outThrough hlocks q (g := F0 m pc ls rest) rfl rfl rfl (cell := ce) (by rw [hT]; exact hcell) (by rw [hv]; rfl)
    (by obtain ⟨k9, h9, -⟩ := Vm.findClass_spec hcl; exact ⟨k9, h9⟩) (fun z hz => by
      rcases hpass z hz with h | ⟨hz0, nm, hl1, hn1⟩
      · exact Or.inl h
      · obtain ⟨c6, hc6, hcl6⟩ := Cond.classLink_spec hown hl1 e.platform hpl
        obtain ⟨a8, b8, h1, h2, h3⟩ := hn1
        cases Option.some.inj (h1.symm.trans hcl)
        cases Option.some.inj (h2.symm.trans hc6)
        exact Or.inr ⟨hz0, _, hcl6, h3⟩)
  obtain ⟨g₀, hfr⟩ := X'.frames_eq
  have hcell9 : ((T.setVm vm').setFrames (.throwing q :: below)).heap[q]? = some ce := by
    show T.heap[q]? = some ce
    rw [hT]; exact hcell
  have hend : Ended ((T.setVm vm').setFrames (.throwing q :: below)) below (.threw q) := State.frames_setFrames _ (State.cur_lt_of_frames hfr)
  refine ⟨(T.setVm vm').setFrames (.throwing q :: below), ?_, .threw q, X'.here.running, hend, Or.inr ⟨q, rfl, E, ce, locs, hx _ hT (X'.ends _).1.alike, hcell9, hv, hcl, (X'.ends _).1, (X'.ends _).2.mono hc hs, hf⟩⟩
  rw [X.pushThrowing_eq]
  exact st
/-- a thing of a world lies in the heap -/
theorem vx_lt {D : va_G} {cl : List vw_C} {ws : va_W} {H1 : Heap} (h : va_P D cl ws H1) {k : Nat} {q : Nat × va_E} (hk : ws[k]? = some q) : q.1 < H1.size := (h k q hk).lt
end VXS
/-! ===== END ===== -/
/-! ===== BEGIN methods with a table of their own: called by a name, returning or throwing ===== -/
section VXH
/-! vx_backW, vx_callVX, vx_callSX, vx_callVW, vx_runVW, vx_runVX, vx_runSX, vx_ofWH follow the same proofs as their sisters above (Free/Laws.lean, Shelf42/LK1.lean); vx_outP calls Shelf42/NT130.lean (outThrough). -/
section
variable {l : Launch} {R : Room} {p : Program} {e : Env} {below : List Frame} {s : State} {sargs : Array Value} {y : MethodName} {len W9 : Nat}
theorem vx_backW {ws : List Cond} {rm : Room} {Pc : Array Value → State → Prop} {Qc : Array Value → State → Outcome → State → Prop} {XC : String → State → State → Prop} {mc ms : Nat} {free : Addr → Prop} {bytes : ByteArray} {maxL : Nat} {ret : Option FieldType} {hh : List (Nat × Nat × Nat × Nat)}
    (hM : vx_Met l y ws rm Pc Qc XC mc ms free) (hblind : FrameBlind Pc) (hrc : rm.cells = mc) (hrs : rm.slots = ms)
    (hframes : rm.frames + 1 ≤ R.frames) (hlocals : W9 + (maxL + 11) + rm.locals ≤ R.locals)
    (hws : ∀ w ∈ ws, ∀ a' U, s.WarmedH U.vm → w.before a' U = true) (hcode : Cond.codeWith y bytes maxL ret hh ∈ ws) (hinit : ∀ a' U, s.WarmedH U.vm → (Cond.initialized y.cls).before a' U = true) :
    vx_Back l R p e below s sargs y len W9 (PreOf R mc ms Pc) (PostOf Qc mc ms free) (vx_Post XC mc ms free) := by
  intro m meth c A g ig mk a X hg hsize hdg hW hn hp
  have h1 : (headSpec ws rm).pre.before a A.U = true := atoms_intro fun w hw => hws w hw _ _ X.warmed
  have h2 : (Cond.codeWith y bytes maxL ret hh).before a A.U = true := hws _ hcode _ _ X.warmed
  have h3 : (Cond.initialized y.cls).before a A.U = true := hinit _ _ X.warmed
  have h4 : A.cells + (headSpec ws rm).room.cells ≤ R.cells := by rw [show (headSpec ws rm).room.cells = mc from hrc]; exact hp.1
  have h5 : A.slots + (headSpec ws rm).room.slots ≤ R.slots := by rw [show (headSpec ws rm).room.slots = ms from hrs]; exact hp.2.1
  have hPc : Pc a (A.U.calling g mk a) := hblind _ _ _ _ hp.2.2
  obtain ⟨U, Ls, c0, s0⟩ := A
  dsimp only [Pt.U, Pt.locs, Pt.cells, Pt.slots] at h1 h2 h3 h4 h5 X hn hPc ⊢
  obtain ⟨m9, methY, cY, hn9, hmY, hcY, -, hlY, -⟩ := Cond.codeWith_spec h2
  cases Option.some.inj (hn9.symm.trans hn)
  obtain ⟨kY, hkY, -⟩ := className_of_methodNamed hn
  have hinitY : kY.init = .initialized := Cond.initialized_spec (findClass_of_methodNamed hn) hkY h3
  have h : At U g.method c below := by rw [hg]; exact X.here
  have hlocals9 : W9 + (maxL + 11) + (headSpec ws rm).room.locals ≤ R.locals := hlocals
  have happ : (headSpec ws rm).appliesLoose y e.platform (U.calling g mk a) = true :=
    Spec.appliesLoose_calling (g := g) h hdg hn hkY hinitY
      (X.room_calling (g := g) (R' := (headSpec ws rm).room) hsize hmY hcY hframes (by rw [hlY]; omega) h4 h5) h1
  obtain ⟨mid, hmid⟩ := h.above
  have hfr : (U.setTop g).frames = (.java g :: mid) ++ below := by rw [State.frames_setTop' g h.top, hmid]; rfl
  obtain ⟨o, s₂, hsteps, -, hend, hq⟩ := Steps.callFree hM p X.admits X.cas X.clock (acts := []) hfr happ hPc trivial
  have hq' : vx_Q Qc XC mc ms free a (U.calling g mk a) o s₂ := hq
  rw [State.frames_setTop' g h.top] at hend
  obtain ⟨g₀, hg0⟩ := Option.isSome_iff_exists.mp h.top
  obtain ⟨r, hr⟩ := State.topJava?_eq_some.mp hg0
  have hr' : (({ U with heap := s₂.heap, slotsUsed := s₂.slotsUsed } : State).setVm s₂.vm).frames = .java g₀ :: r := hr
  rcases hq' with ⟨hqc, L, hfe, hL⟩ | ⟨q, rfl, E, ce, L, hx, hce, hcv, hcl, hW₂, hsm, hL⟩
  · obtain ⟨⟨v, rfl⟩, hW₂, e2, q2, q3, q4, q5, q6⟩ := id hfe
    have e3 : s₂ = ({ (U.calling g mk a).setFrames s₂.frames with heap := s₂.heap, slotsUsed := s₂.slotsUsed } : State).setVm s₂.vm := by
      have : s₂ = ({ s₂ with vm := (U.calling g mk a).vm } : State).setVm s₂.vm := rfl
      rw [e2] at this
      exact this
    obtain ⟨c₂, i₂, len₂, hc₂, hd₂, hf₂⟩ := hend
    have hW' : U.WarmedH s₂.vm := hW₂
    have hcc : c₂ = c := by
      have h1 : s₂.code? g.method = U.code? g.method := by
        rw [State.code?_eq, State.code?_eq, hW'.alike.method?]
      exact Option.some.inj (hc₂.symm.trans (h1.trans h.code))
    subst hcc
    have hlen : len₂ = len := by rw [hdg] at hd₂; cases hd₂; rfl
    subst hlen
    have hs₂ : s₂ = (({ U with heap := s₂.heap, slotsUsed := s₂.slotsUsed } : State).setVm s₂.vm).setTop { g with pc := g.pc + len₂, stack := v.toList ++ g.stack } := by
      refine e3.trans ?_
      rw [hf₂, State.calling_eq h.top, State.setFrames_setFrames, State.setTop_of_frames _ hr', hr]
      rfl
    have hsame : U.sameButNew ({ U with heap := s₂.heap, slotsUsed := s₂.slotsUsed } : State) L mc ms := by
      refine ⟨?_, q2, q3, q4, q5, q6⟩
      obtain ⟨t, ht, -⟩ := State.frames_cons hr
      show ({ U with heap := s₂.heap, slotsUsed := s₂.slotsUsed } : State) = { U.setFrames U.frames with heap := s₂.heap, slotsUsed := s₂.slotsUsed }
      rw [State.setFrames_self ht]
    subst hg
    refine Or.inl ⟨v, ⟨(({ U with heap := s₂.heap, slotsUsed := s₂.slotsUsed } : State).setVm s₂.vm), Ls ++ L, c0 + mc, s0 + ms⟩,
      ⟨X.admits, X.cas, X.clock, X.frames, X.room, X.hears, X.method, X.code, (X.here.setHeapUsed s₂.heap s₂.slotsUsed).setVm hW'.alike, X.tail, State.WarmedH.trans X.warmed hW', X.limits, X.bytes, X.same.trans (hsame.setVm s.vm)⟩,
      ⟨g, mk, s₂, L, rfl, rfl, hqc, rfl, hL, rfl, rfl⟩, ?_⟩
    show Steps p.tables e below _ ((({ U with heap := s₂.heap, slotsUsed := s₂.slotsUsed } : State).setVm s₂.vm).setTop { g with pc := g.pc + len₂, stack := v.toList ++ g.stack })
    rw [← hs₂]
    exact hsteps
  · obtain ⟨e2, q2, q3, q4, q5, q6⟩ := id hsm
    have e3 : s₂ = ({ (U.calling g mk a).setFrames s₂.frames with heap := s₂.heap, slotsUsed := s₂.slotsUsed } : State).setVm s₂.vm := by
      have : s₂ = ({ s₂ with vm := (U.calling g mk a).vm } : State).setVm s₂.vm := rfl
      rw [e2] at this
      exact this
    have hf₂ : s₂.frames = .throwing q :: .java g :: U.frames.tail := hend
    have hW' : U.WarmedH s₂.vm := hW₂
    have hs₂ : s₂ = ((({ U with heap := s₂.heap, slotsUsed := s₂.slotsUsed } : State).setVm s₂.vm).setTop g).pushFrame (.throwing q) := by
      refine e3.trans ?_
      rw [hf₂, State.calling_eq h.top, State.setFrames_setFrames, State.pushFrame, State.frames_setTop _ hr', State.setTop_of_frames _ hr', State.setFrames_setFrames, hr]
      rfl
    have hsame : U.sameButNew ({ U with heap := s₂.heap, slotsUsed := s₂.slotsUsed } : State) L mc ms := by
      refine ⟨?_, q2, q3, q4, q5, q6⟩
      obtain ⟨t, ht, -⟩ := State.frames_cons hr
      show ({ U with heap := s₂.heap, slotsUsed := s₂.slotsUsed } : State) = { U.setFrames U.frames with heap := s₂.heap, slotsUsed := s₂.slotsUsed }
      rw [State.setFrames_self ht]
    subst hg
    refine Or.inr ⟨q, ⟨(({ U with heap := s₂.heap, slotsUsed := s₂.slotsUsed } : State).setVm s₂.vm), Ls ++ L, c0 + mc, s0 + ms⟩,
      ⟨X.admits, X.cas, X.clock, X.frames, X.room, X.hears, X.method, X.code, (X.here.setHeapUsed s₂.heap s₂.slotsUsed).setVm hW'.alike, X.tail, State.WarmedH.trans X.warmed hW', X.limits, X.bytes, X.same.trans (hsame.setVm s.vm)⟩,
      ⟨g, mk, s₂, L, E, ce, rfl, rfl, hx, hce, hcv, hcl, rfl, hL, rfl, rfl⟩, ?_⟩
    show Steps p.tables e below _ (((({ U with heap := s₂.heap, slotsUsed := s₂.slotsUsed } : State).setVm s₂.vm).setTop g).pushFrame (.throwing q))
    rw [← hs₂]
    exact hsteps
end
variable {p : Program} {l : Launch} {e : Env} {R : Room} {s : State} {m : MethodId} {args : Array Value} {below : List Frame} {meth : Method} {c : Code} {T : State} {H : Heap} {locs : List Loc} {cells slots : Nat}
theorem vx_callVX (X : Stand p l e R s m args below meth c T locs cells slots) (hexec : p.tables.exec = Jvm.exec) {own C : String} {index : Nat} {y : MethodName} {bytes : ByteArray} {maxL : Nat} {ret : Option FieldType} {hh : List (Nat × Nat × Nat × Nat)}
    (hown : s.vm.findClass own = some m.cls) (hlink : (Cond.methodLink own index y).before args s = true) (hinst : (Cond.instanceMethod y).before args s = true) (hsel : (Cond.selects C y y).before args s = true)
    (hcode : (Cond.codeWith y bytes maxL ret hh).before args s = true) (hy : y.cls ≠ "java/lang/invoke/MethodHandle" ∧ y.cls ≠ "java/lang/invoke/VarHandle")
    {W9 : Nat} {Pre : Pt → Array Value → Prop} {Post : Pt → Array Value → Option Value → Pt → Prop} {PostX : Pt → Array Value → Addr → Pt → Prop} (hK : vx_Back l R p e below s args y 3 W9 Pre Post PostX)
    {b : Addr} {cellB : Cell} (hcell : T.heap[b]? = some cellB) (hobj : cellB.vm.isStatics = false) (hcls : s.vm.findClass C = some cellB.cls)
    {g : JFrame} (hg : g.method = m) (hsize : g.locals.size = c.maxLocals) {argsL rest : List Value} (hlen : ∀ sig, parseMethodDescriptor y.desc = some sig → argsL.length = sig.parameters.length)
    (hstack : g.stack = argsL.reverse ++ .ref b :: rest) (hW : 2 * g.monitorRoom + (rest.map fun v => v.category).sum ≤ W9) (hdg : decode c.code g.pc = .ok (.invokevirtual index, 3))
    (hpre : ∀ vm₁, s.WarmedH vm₁ → Pre ⟨T.setVm vm₁, locs, cells, slots⟩ (Value.ref b :: argsL).toArray) :
    (∃ (v : Option Value) (vm₁ : Vm) (B : Pt), s.WarmedH vm₁ ∧ Stand p l e R s m args below meth c B.U B.locs B.cells B.slots ∧ Post ⟨T.setVm vm₁, locs, cells, slots⟩ (Value.ref b :: argsL).toArray v B ∧
      ∀ target, Steps p.tables e below (B.U.setTop { g with pc := g.pc + 3, stack := v.toList ++ rest }) target → Steps p.tables e below (T.setTop g) target) ∨
    (∃ (q : Addr) (vm₁ : Vm) (B : Pt), s.WarmedH vm₁ ∧ Stand p l e R s m args below meth c B.U B.locs B.cells B.slots ∧ PostX ⟨T.setVm vm₁, locs, cells, slots⟩ (Value.ref b :: argsL).toArray q B ∧
      Steps p.tables e below (T.setTop g) ((B.U.setTop { g with stack := rest }).pushFrame (.throwing q))) := by
  obtain ⟨mk, methM, hnamed, hmethM, hstM, habM⟩ := Cond.instanceMethod_spec hinst
  obtain ⟨m8, methM', cM, hn8, hmethM', -, -, -, -, -, -, hsigM⟩ := Cond.codeWith_spec hcode
  cases Option.some.inj (hn8.symm.trans hnamed)
  cases hmethM.symm.trans hmethM'
  obtain ⟨c2, r2, m2, q1, q2, q3, q4, kP, hkP, hkPi⟩ := Cond.selects_spec hsel
  cases hcls.symm.trans q1
  cases (State.methodFound?_of_named hnamed hy).symm.trans q2
  cases hnamed.symm.trans q3
  have hselP : selectMethod e.platform s.vm cellB.cls mk = .method mk := by rw [Launch.admits_selectMethod X.admits]; exact q4
  obtain ⟨vm₁, X₁, hstep₁⟩ := X.invokevirtual hexec hown hlink hnamed hmethM hstM hkP hkPi hy (a := b) (cell := cellB) hcell
    (fun z h => by rw [h] at hobj; cases hobj) hselP hmethM habM hkP hkPi (g := g) hg (argsL := argsL) (rest := rest) (hlen _ hsigM) hstack hdg
  rcases hK m meth c ⟨T.setVm vm₁, locs, cells, slots⟩ { g with stack := rest } (.invokevirtual index) mk (Value.ref b :: argsL).toArray X₁ hg hsize hdg hW (X₁.named hnamed) (hpre vm₁ X₁.warmed) with ⟨v, B, X', hpost, hsteps⟩ | ⟨q, B, X', hpost, hsteps⟩
  · exact Or.inl ⟨v, vm₁, B, X₁.warmed, X', hpost, fun target h => hstep₁ _ fun acts => by rw [doInvoke_state]; exact hsteps.trans h⟩
  · exact Or.inr ⟨q, vm₁, B, X₁.warmed, X', hpost, hstep₁ _ fun acts => by rw [doInvoke_state]; exact hsteps⟩
theorem vx_callSX (X : Stand p l e R s m args below meth c T locs cells slots) (hexec : p.tables.exec = Jvm.exec) {own : String} {index : Nat} {y : MethodName} {bytes : ByteArray} {maxL : Nat} {ret : Option FieldType} {hh : List (Nat × Nat × Nat × Nat)}
    (hown : s.vm.findClass own = some m.cls) (hlink : (Cond.methodLink own index y).before args s = true) (hstat : (Cond.static y).before args s = true) (hinit : (Cond.initialized y.cls).before args s = true)
    (hcode : (Cond.codeWith y bytes maxL ret hh).before args s = true) (hy : y.cls ≠ "java/lang/invoke/MethodHandle" ∧ y.cls ≠ "java/lang/invoke/VarHandle")
    {W9 : Nat} {Pre : Pt → Array Value → Prop} {Post : Pt → Array Value → Option Value → Pt → Prop} {PostX : Pt → Array Value → Addr → Pt → Prop} (hK : vx_Back l R p e below s args y 3 W9 Pre Post PostX)
    {g : JFrame} (hg : g.method = m) (hsize : g.locals.size = c.maxLocals) {argsL rest : List Value} (hlen : ∀ sig, parseMethodDescriptor y.desc = some sig → argsL.length = sig.parameters.length)
    (hstack : g.stack = argsL.reverse ++ rest) (hW : 2 * g.monitorRoom + (rest.map fun v => v.category).sum ≤ W9) (hdg : decode c.code g.pc = .ok (.invokestatic index, 3))
    (hpre : ∀ vm₁, s.WarmedH vm₁ → Pre ⟨T.setVm vm₁, locs, cells, slots⟩ argsL.toArray) :
    (∃ (v : Option Value) (vm₁ : Vm) (B : Pt), s.WarmedH vm₁ ∧ Stand p l e R s m args below meth c B.U B.locs B.cells B.slots ∧ Post ⟨T.setVm vm₁, locs, cells, slots⟩ argsL.toArray v B ∧
      ∀ target, Steps p.tables e below (B.U.setTop { g with pc := g.pc + 3, stack := v.toList ++ rest }) target → Steps p.tables e below (T.setTop g) target) ∨
    (∃ (q : Addr) (vm₁ : Vm) (B : Pt), s.WarmedH vm₁ ∧ Stand p l e R s m args below meth c B.U B.locs B.cells B.slots ∧ PostX ⟨T.setVm vm₁, locs, cells, slots⟩ argsL.toArray q B ∧
      Steps p.tables e below (T.setTop g) ((B.U.setTop { g with stack := rest }).pushFrame (.throwing q))) := by
  obtain ⟨mk, methM, cM, hnamed, hmethM, -, -, -, -, -, -, hsigM⟩ := Cond.codeWith_spec hcode
  have hstatic : methM.isStatic = true := Cond.static_spec hnamed hmethM hstat
  obtain ⟨kP, hkP, -⟩ := className_of_methodNamed hnamed
  have hinitP : kP.init = .initialized := Cond.initialized_spec (findClass_of_methodNamed hnamed) hkP hinit
  obtain ⟨vm₁, X₁, hstep₁⟩ := X.invokestatic hexec hown hlink hnamed hmethM hstatic hkP hinitP hy (g := g) hg (argsL := argsL) (rest := rest) (hlen _ hsigM) hstack hdg
  rcases hK m meth c ⟨T.setVm vm₁, locs, cells, slots⟩ { g with stack := rest } (.invokestatic index) mk argsL.toArray X₁ hg hsize hdg hW (X₁.named hnamed) (hpre vm₁ X₁.warmed) with ⟨v, B, X', hpost, hsteps⟩ | ⟨q, B, X', hpost, hsteps⟩
  · exact Or.inl ⟨v, vm₁, B, X₁.warmed, X', hpost, fun target h => hstep₁ _ fun acts => by rw [doInvoke_state]; exact hsteps.trans h⟩
  · exact Or.inr ⟨q, vm₁, B, X₁.warmed, X', hpost, hstep₁ _ fun acts => by rw [doInvoke_state]; exact hsteps⟩
theorem vx_callVW (X : Stand p l e R s m args below meth c T locs cells slots) (hexec : p.tables.exec = Jvm.exec) {own C : String} {index : Nat} {y : MethodName} {bytes : ByteArray} {maxL : Nat} {ret : Option FieldType} {hh : List (Nat × Nat × Nat × Nat)}
    (hown : s.vm.findClass own = some m.cls) (hlink : (Cond.methodLink own index y).before args s = true) (hinst : (Cond.instanceMethod y).before args s = true) (hsel : (Cond.selects C y y).before args s = true)
    (hcode : (Cond.codeWith y bytes maxL ret hh).before args s = true) (hy : y.cls ≠ "java/lang/invoke/MethodHandle" ∧ y.cls ≠ "java/lang/invoke/VarHandle")
    {W9 : Nat} {Pre : Pt → Array Value → Prop} {Post : Pt → Array Value → Option Value → Pt → Prop} (hK : Back l R p e below s args y 3 W9 Pre Post)
    {b : Addr} {cellB : Cell} (hcell : T.heap[b]? = some cellB) (hobj : cellB.vm.isStatics = false) (hcls : s.vm.findClass C = some cellB.cls)
    {g : JFrame} (hg : g.method = m) (hsize : g.locals.size = c.maxLocals) {argsL rest : List Value} (hlen : ∀ sig, parseMethodDescriptor y.desc = some sig → argsL.length = sig.parameters.length)
    (hstack : g.stack = argsL.reverse ++ .ref b :: rest) (hW : 2 * g.monitorRoom + (rest.map fun v => v.category).sum ≤ W9) (hdg : decode c.code g.pc = .ok (.invokevirtual index, 3))
    (hpre : ∀ vm₁, s.WarmedH vm₁ → Pre ⟨T.setVm vm₁, locs, cells, slots⟩ (Value.ref b :: argsL).toArray) :
    ∃ (v : Option Value) (vm₁ : Vm) (B : Pt), s.WarmedH vm₁ ∧ Stand p l e R s m args below meth c B.U B.locs B.cells B.slots ∧ Post ⟨T.setVm vm₁, locs, cells, slots⟩ (Value.ref b :: argsL).toArray v B ∧
      ∀ target, Steps p.tables e below (B.U.setTop { g with pc := g.pc + 3, stack := v.toList ++ rest }) target → Steps p.tables e below (T.setTop g) target := by
  obtain ⟨mk, methM, hnamed, hmethM, hstM, habM⟩ := Cond.instanceMethod_spec hinst
  obtain ⟨m8, methM', cM, hn8, hmethM', -, -, -, -, -, -, hsigM⟩ := Cond.codeWith_spec hcode
  cases Option.some.inj (hn8.symm.trans hnamed)
  cases hmethM.symm.trans hmethM'
  obtain ⟨c2, r2, m2, q1, q2, q3, q4, kP, hkP, hkPi⟩ := Cond.selects_spec hsel
  cases hcls.symm.trans q1
  cases (State.methodFound?_of_named hnamed hy).symm.trans q2
  cases hnamed.symm.trans q3
  have hselP : selectMethod e.platform s.vm cellB.cls mk = .method mk := by rw [Launch.admits_selectMethod X.admits]; exact q4
  obtain ⟨vm₁, X₁, hstep₁⟩ := X.invokevirtual hexec hown hlink hnamed hmethM hstM hkP hkPi hy (a := b) (cell := cellB) hcell
    (fun z h => by rw [h] at hobj; cases hobj) hselP hmethM habM hkP hkPi (g := g) hg (argsL := argsL) (rest := rest) (hlen _ hsigM) hstack hdg
  obtain ⟨v, B, X', hpost, hsteps⟩ := hK m meth c ⟨T.setVm vm₁, locs, cells, slots⟩ { g with stack := rest } (.invokevirtual index) mk (Value.ref b :: argsL).toArray X₁ hg hsize hdg hW (X₁.named hnamed) (hpre vm₁ X₁.warmed)
  exact ⟨v, vm₁, B, X₁.warmed, X', hpost, fun target h => hstep₁ _ fun acts => by rw [doInvoke_state]; exact hsteps.trans h⟩
abbrev vx_CVW (R : Room) (s : State) (args : Array Value) (own C : String) (index : Nat) (y : MethodName) (bytes : ByteArray) (maxL : Nat) (ret : Option FieldType) (hh : List (Nat × Nat × Nat × Nat)) (ws : List Cond) (rm : Room) (mc ms n : Nat) : Prop :=
  (rm.cells = mc ∧ rm.slots = ms ∧ rm.frames + 1 ≤ R.frames ∧ 8 + (maxL + 11) + rm.locals ≤ R.locals ∧ (∀ w ∈ ws, ∀ (a' : Array Value) (U : State), s.WarmedH U.vm → w.before a' U = true) ∧ Cond.codeWith y bytes maxL ret hh ∈ ws) ∧
  (Cond.codeWith y bytes maxL ret hh).before args s = true ∧ (Cond.initialized y.cls).before args s = true ∧ (y.cls ≠ "java/lang/invoke/MethodHandle" ∧ y.cls ≠ "java/lang/invoke/VarHandle") ∧
  (∀ sig, parseMethodDescriptor y.desc = some sig → n = sig.parameters.length) ∧ (Cond.methodLink own index y).before args s = true ∧ (Cond.instanceMethod y).before args s = true ∧ (Cond.selects C y y).before args s = true
theorem vx_cwVW {own C : String} {index maxL mc ms : Nat} {y : MethodName} {bytes : ByteArray} {ret : Option FieldType} {hh : List (Nat × Nat × Nat × Nat)} {Ts ws ws' : List Cond} {rm : Room} (n : Nat) (ht : ∀ w ∈ Ts, w.before args s = true) (hT : GoodIn Ts (wsV own index C y ws)) (hw : ws = Cond.codeWith y bytes maxL ret hh :: ws') (hrc : rm.cells = mc) (hrs : rm.slots = ms)
    (hd : y.cls = C ∧ y.cls ≠ "java/lang/invoke/MethodHandle" ∧ y.cls ≠ "java/lang/invoke/VarHandle" ∧ (parseMethodDescriptor y.desc).map (fun d => d.parameters.length) = some n) (hR : rm.frames + 1 ≤ R.frames ∧ 8 + (maxL + 11) + rm.locals ≤ R.locals) :
    vx_CVW R s args own C index y bytes maxL ret hh ws rm mc ms n := by
  obtain ⟨hC, hd⟩ := hd
  subst hC
  have ok : ∀ w ∈ wsV own index y.cls y ws, w.before args s = true := fun w h => ht w (hT w h).1
  have hG : GoodIn Ts ws := fun w h => hT w (by unfold wsV; exact List.mem_append_right _ h)
  have hc : Cond.codeWith y bytes maxL ret hh ∈ ws := by rw [hw]; exact List.mem_cons_self
  refine ⟨⟨hrc, hrs, hR.1, hR.2, pay_in ht hG, hc⟩, ht _ (hG _ hc).1, ok _ (by simp [wsV]), ⟨hd.1, hd.2.1⟩, fun sig h => ?_, ok _ (by simp [wsV]), ok _ (by simp [wsV]), ok _ (by simp [wsV])⟩
  have h2 := hd.2.2
  rw [h] at h2
  exact (Option.some.inj h2).symm
theorem vx_runVW {y : MethodName} {bytes cc : ByteArray} {maxL nL mc ms n index : Nat} {ret : Option FieldType} {hh : List (Nat × Nat × Nat × Nat)} {ws : List Cond} {rm : Room} {Pc : Array Value → State → Prop} {Qc : Array Value → State → Outcome → State → Prop} {free : Addr → Prop} {Ts : List Cond} {own C : String} {b : Addr} {As rest : List Value} {g : JFrame}
    (S : CallFix p m c cc nL s args Ts own) (hM : Met l y ws rm Pc Qc mc ms free) (cw : vx_CVW R s args own C index y bytes maxL ret hh ws rm mc ms n) (hp : PreV s H C b Pc As)
    (hg : g.method = m) (hn : As.length = n) (hsize : g.locals.size = nL) (hstack : g.stack = As.reverse ++ .ref b :: rest) (hW : 2 * g.monitorRoom + (rest.map fun v => v.category).sum ≤ 8) (hdg : decode cc g.pc = .ok (.invokevirtual index, 3)) (hf : cells + mc ≤ R.cells ∧ slots + ms ≤ R.slots) :
    va_Run p l e R s m args below meth c H locs cells slots mc ms g rest (Qc (Value.ref b :: As).toArray) free := by
  obtain ⟨⟨hrc, hrs, hfr, hlo, hws, hcw⟩, hcode, hini, hy, hlen, hl, hin, hse⟩ := cw
  have hK : Back l R p e below s args y 3 8 (PreOf R mc ms Pc) (PostOf Qc mc ms free) := va_backW (hh := hh) (bytes := bytes) (maxL := maxL) (ret := ret) hM hp.1 hrc hrs hfr hlo hws hcw (fun a' U hW => word_at hW (Or.inl (by first | rfl | simp [Cond.onTables, Cond.keeps, Cond.steady])) hini)
  obtain ⟨hx, hb, hml, ho, -⟩ := S
  obtain ⟨-, ⟨cellB, hcB, hoB, hclB⟩, hPc⟩ := hp
  intro T hT X
  obtain ⟨v, vm₁, ⟨U', l2, c2, s2⟩, hW₁, X', ⟨g', mk, t, L, e1, e2, hq, h1, hL, h2, h3⟩, st⟩ := vx_callVW X hx (C := C) (hh := hh) (bytes := bytes) (maxL := maxL) (ret := ret) ho hl hin hse hcode hy hK (by rw [hT]; exact hcB) hoB hclB hg (hsize.trans hml.symm) (argsL := As) (rest := rest) (fun sig h => hn.trans (hlen sig h)) hstack hW (by rw [hb]; exact hdg)
    (fun vm₁ hW₁ => ⟨hf.1, hf.2, hPc (T.setVm vm₁) hT hW₁⟩)
  dsimp only [Pt.U, Pt.locs, Pt.cells, Pt.slots] at X' e1 e2 h1 h2 h3 st
  subst h1; subst h2; subst h3
  exact ⟨v, (T.setVm vm₁).calling g' mk (Value.ref b :: As).toArray, t, U', L, hT, X', hL, e1, e2, hq, st⟩
section
variable {y : MethodName} {bytes cc : ByteArray} {maxL nL mc ms n index : Nat} {ret : Option FieldType} {ws : List Cond} {rm : Room} {Pc : Array Value → State → Prop} {Qc : Array Value → State → Outcome → State → Prop} {XC : String → State → State → Prop} {free : Addr → Prop} {Ts : List Cond} {own C : String} {b : Addr} {As rest : List Value} {g : JFrame}
theorem vx_runVX {hh : List (Nat × Nat × Nat × Nat)} (S : CallFix p m c cc nL s args Ts own) (hM : vx_Met l y ws rm Pc Qc XC mc ms free) (cw : vx_CVW R s args own C index y bytes maxL ret hh ws rm mc ms n) (hp : PreV s H C b Pc As)
    (hg : g.method = m) (hn : As.length = n) (hsize : g.locals.size = nL) (hstack : g.stack = As.reverse ++ .ref b :: rest) (hW : 2 * g.monitorRoom + (rest.map fun v => v.category).sum ≤ 8) (hdg : decode cc g.pc = .ok (.invokevirtual index, 3)) (hf : cells + mc ≤ R.cells ∧ slots + ms ≤ R.slots) :
    vx_Run p l e R s m args below meth c H locs cells slots mc ms g rest (Qc (Value.ref b :: As).toArray) XC free := by
  obtain ⟨⟨hrc, hrs, hfr, hlo, hws, hcw⟩, hcode, hini, hy, hlen, hl, hin, hse⟩ := cw
  have hK : vx_Back l R p e below s args y 3 8 (PreOf R mc ms Pc) (PostOf Qc mc ms free) (vx_Post XC mc ms free) := vx_backW (hh := hh) (bytes := bytes) (maxL := maxL) (ret := ret) hM hp.1 hrc hrs hfr hlo hws hcw (fun a' U hW => word_at hW (Or.inl (by first | rfl | simp [Cond.onTables, Cond.keeps, Cond.steady])) hini)
  obtain ⟨hx, hb, hml, ho, -⟩ := S
  obtain ⟨-, ⟨cellB, hcB, hoB, hclB⟩, hPc⟩ := hp
  intro T hT X
  rcases vx_callVX X hx (C := C) (hh := hh) (bytes := bytes) (maxL := maxL) (ret := ret) ho hl hin hse hcode hy hK (by rw [hT]; exact hcB) hoB hclB hg (hsize.trans hml.symm) (argsL := As) (rest := rest) (fun sig h => hn.trans (hlen sig h)) hstack hW (by rw [hb]; exact hdg)
    (fun vm₁ hW₁ => ⟨hf.1, hf.2, hPc (T.setVm vm₁) hT hW₁⟩) with ⟨v, vm₁, ⟨U', l2, c2, s2⟩, hW₁, X', ⟨g', mk, t, L, e1, e2, hq, h1, hL, h2, h3⟩, st⟩ | ⟨q, vm₁, ⟨U', l2, c2, s2⟩, hW₁, X', ⟨g', mk, t, L, E, ce, e1, e2, hq, hce, hcv, hcl, h1, hL, h2, h3⟩, st⟩
  · dsimp only [Pt.U, Pt.locs, Pt.cells, Pt.slots] at X' e1 e2 h1 h2 h3 st
    subst h1; subst h2; subst h3
    exact Or.inl ⟨v, (T.setVm vm₁).calling g' mk (Value.ref b :: As).toArray, t, U', L, hT, X', hL, e1, e2, hq, st⟩
  · dsimp only [Pt.U, Pt.locs, Pt.cells, Pt.slots] at X' e1 e2 h1 h2 h3 st hcl
    subst h1; subst h2; subst h3
    exact Or.inr ⟨q, (T.setVm vm₁).calling g' mk (Value.ref b :: As).toArray, t, U', L, E, ce, hT, X', hL, e1, e2, hq, hce, hcv, vx_cls hW₁ hcl, st⟩
theorem vx_runSX {hh : List (Nat × Nat × Nat × Nat)} (S : CallFix p m c cc nL s args Ts own) (hM : vx_Met l y ws rm Pc Qc XC mc ms free) (cw : vx_CSW R s args own index y bytes maxL ret hh ws rm mc ms n) (hp : PreS s H Pc As)
    (hg : g.method = m) (hn : As.length = n) (hsize : g.locals.size = nL) (hstack : g.stack = As.reverse ++ rest) (hW : 2 * g.monitorRoom + (rest.map fun v => v.category).sum ≤ 8) (hdg : decode cc g.pc = .ok (.invokestatic index, 3)) (hf : cells + mc ≤ R.cells ∧ slots + ms ≤ R.slots) :
    vx_Run p l e R s m args below meth c H locs cells slots mc ms g rest (Qc As.toArray) XC free := by
  obtain ⟨⟨hrc, hrs, hfr, hlo, hws, hcw⟩, hcode, hini, hy, hlen, hl, hstt⟩ := cw
  have hK : vx_Back l R p e below s args y 3 8 (PreOf R mc ms Pc) (PostOf Qc mc ms free) (vx_Post XC mc ms free) := vx_backW (hh := hh) (bytes := bytes) (maxL := maxL) (ret := ret) hM hp.1 hrc hrs hfr hlo hws hcw (fun a' U hW => word_at hW (Or.inl (by first | rfl | simp [Cond.onTables, Cond.keeps, Cond.steady])) hini)
  obtain ⟨hx, hb, hml, ho, -⟩ := S
  intro T hT X
  rcases vx_callSX X hx (hh := hh) (bytes := bytes) (maxL := maxL) (ret := ret) ho hl hstt hini hcode hy hK hg (hsize.trans hml.symm) (argsL := As) (rest := rest) (fun sig h => hn.trans (hlen sig h)) hstack hW (by rw [hb]; exact hdg)
    (fun vm₁ hW₁ => ⟨hf.1, hf.2, hp.2 (T.setVm vm₁) hT hW₁⟩) with ⟨v, vm₁, ⟨U', l2, c2, s2⟩, hW₁, X', ⟨g', mk, t, L, e1, e2, hq, h1, hL, h2, h3⟩, st⟩ | ⟨q, vm₁, ⟨U', l2, c2, s2⟩, hW₁, X', ⟨g', mk, t, L, E, ce, e1, e2, hq, hce, hcv, hcl, h1, hL, h2, h3⟩, st⟩
  · dsimp only [Pt.U, Pt.locs, Pt.cells, Pt.slots] at X' e1 e2 h1 h2 h3 st
    subst h1; subst h2; subst h3
    exact Or.inl ⟨v, (T.setVm vm₁).calling g' mk As.toArray, t, U', L, hT, X', hL, e1, e2, hq, st⟩
  · dsimp only [Pt.U, Pt.locs, Pt.cells, Pt.slots] at X' e1 e2 h1 h2 h3 st hcl
    subst h1; subst h2; subst h3
    exact Or.inr ⟨q, (T.setVm vm₁).calling g' mk As.toArray, t, U', L, E, ce, hT, X', hL, e1, e2, hq, hce, hcv, vx_cls hW₁ hcl, st⟩
end
end VXH
theorem vx_ofWH {l : Launch} {y : MethodName} {ws ws' : List Cond} {rm : Room} {Pc : Array Value → State → Prop} {Qc : Array Value → State → Outcome → State → Prop} {XC : String → State → State → Prop} {mc ms : Nat} {free : Addr → Prop} {cc : ByteArray} {maxL : Nat} {ret : Option FieldType} {hh : List (Nat × Nat × Nat × Nat)}
    (hy : plainName y.cls = true) (hw : ws = Cond.codeWith y cc maxL ret hh :: ws')
    (body : ∀ p e s m args below meth c s₁, BodyLoose p l y (headSpec ws rm) cc maxL ret e s m args below meth c s₁ → c.maxLocals = maxL → Pc args s →
      W p l e (headSpec ws rm).room s m args below meth c s.heap [] 0 0 (vx_MQ below Qc XC args s mc ms free) (entryFrame m args maxL)) : vx_Met l y ws rm Pc Qc XC mc ms free := by
  refine MetFree.of_bodyS (code := cc) (maxLocals := maxL) (ret := ret) hy ?_ ?_
  · intro args s m h hn
    obtain ⟨m9, meth, c, hn9, h1, h2, h3, h4, -, h5, h6, -⟩ := Cond.codeWith_spec (atoms_spec (ws := ws) h _ (by rw [hw]; exact List.mem_cons_self))
    cases hn.symm.trans hn9
    exact ⟨meth, c, h1, h2, h3, h4, h5, h6⟩
  · intro p e s m args below meth c s₁ B hml hP _
    have hh0 : s₁.heap = s.heap := by rw [B.state]; rfl
    obtain ⟨t, a1, o, b1, b2, b3⟩ := body p e s m args below meth c s₁ B hml hP s₁ hh0 (Stand.of_body B)
    exact ⟨t, o, a1, b1, b2, b3⟩
/-! ===== END ===== -/
end
section
/-! ===== an abstract machine: what bytecode does to locals, stack and cells, as a function. Part one: instructions that touch no cell ===== -/
abbrev mi_L : Type := List (Nat × Value)
abbrev mi_P : Type := Option (Nat × mi_L × List Value)
def mi_look : mi_L → Nat → Option Value
  | [], _ => none
  | q :: l, k => if q.1 == k then some q.2 else mi_look l k
def mi_s1 (l : mi_L) (i : Nat) (v : Value) : mi_L := (i, v) :: l.filter (fun q => !(q.1 == i) && !(q.1 + 1 == i && q.2.category == 2))
def mi_s2 (l : mi_L) (i : Nat) (v : Value) : mi_L := (i, v) :: l.filter (fun q => !(q.1 == i) && (!(q.1 == i + 1) && !(q.1 + 1 == i && q.2.category == 2)))
def mi_jmp (pc : Nat) (off : Int) : Option Nat := if 0 ≤ (pc : Int) + off then some ((pc : Int) + off).toNat else none
def mi_isI : Value → Bool
  | .int _ => true
  | _ => false
def mi_isL : Value → Bool
  | .long _ => true
  | _ => false
def mi_isD : Value → Bool
  | .double _ => true
  | _ => false
/-- null, a cell (ref), a cell that was there before (retAddr), null or some cell of which nothing is known (float) -/
def mi_isA : Value → Bool
  | .null => true
  | .ref _ => true
  | .retAddr _ => true
  | .float _ => true
  | _ => false
def mi_ld (ok : Value → Bool) (k pc' : Nat) (l : mi_L) (st : List Value) : mi_P := match mi_look l k with
  | some v => if ok v then some (pc', l, v :: st) else none
  | none => none
def mi_st (ok : Value → Bool) (nL k pc' : Nat) (l : mi_L) (st : List Value) : mi_P := match st with
  | v :: r => if ok v && decide (k < nL) then some (pc', mi_s1 l k v, r) else none
  | [] => none
def mi_st2 (ok : Value → Bool) (nL k pc' : Nat) (l : mi_L) (st : List Value) : mi_P := match st with
  | v :: r => if ok v && decide (k + 1 < nL) then some (pc', mi_s2 l k v, r) else none
  | [] => none
def mi_ii (f : Int32 → Int32 → Option Value) (pc' : Nat) (l : mi_L) (st : List Value) : mi_P := match st with
  | .int y :: .int x :: r => (match f x y with | some v => some (pc', l, v :: r) | none => none)
  | _ => none
def mi_ll (f : Int64 → Int64 → Option Value) (pc' : Nat) (l : mi_L) (st : List Value) : mi_P := match st with
  | .long y :: .long x :: r => (match f x y with | some v => some (pc', l, v :: r) | none => none)
  | _ => none
def mi_dd (f : UInt64 → UInt64 → Option Value) (pc' : Nat) (l : mi_L) (st : List Value) : mi_P := match st with
  | .double y :: .double x :: r => (match f x y with | some v => some (pc', l, v :: r) | none => none)
  | _ => none
def mi_li (f : Int64 → Int32 → Value) (pc' : Nat) (l : mi_L) (st : List Value) : mi_P := match st with
  | .int y :: .long x :: r => some (pc', l, f x y :: r)
  | _ => none
def mi_i1 (f : Int32 → Value) (pc' : Nat) (l : mi_L) (st : List Value) : mi_P := match st with
  | .int x :: r => some (pc', l, f x :: r)
  | _ => none
def mi_l1 (f : Int64 → Value) (pc' : Nat) (l : mi_L) (st : List Value) : mi_P := match st with
  | .long x :: r => some (pc', l, f x :: r)
  | _ => none
def mi_c1 (f : Int32 → Bool) (pc : Nat) (off : Int) (l : mi_L) (st : List Value) : mi_P := match st with
  | .int x :: r => (match mi_jmp pc off with | some t => some (if f x then t else pc + 3, l, r) | none => none)
  | _ => none
def mi_c2 (f : Int32 → Int32 → Bool) (pc : Nat) (off : Int) (l : mi_L) (st : List Value) : mi_P := match st with
  | .int y :: .int x :: r => (match mi_jmp pc off with | some t => some (if f x y then t else pc + 3, l, r) | none => none)
  | _ => none
def mi_goto (pc : Nat) (off : Int) (l : mi_L) (st : List Value) : mi_P := match mi_jmp pc off with
  | some t => some (t, l, st)
  | none => none
/-- whether a branch on null is taken: 'isn' for ifnull -/
def mi_nul (isn : Bool) (pc : Nat) (off : Int) (l : mi_L) (st : List Value) : mi_P := match st with
  | .null :: r => if isn then mi_goto pc off l r else some (pc + 3, l, r)
  | .ref _ :: r => if isn then some (pc + 3, l, r) else mi_goto pc off l r
  | .retAddr _ :: r => if isn then some (pc + 3, l, r) else mi_goto pc off l r
  | _ => none
def mi_dup (pc' : Nat) (l : mi_L) (st : List Value) : mi_P := match st with
  | v :: r => if v.category = 1 then some (pc', l, v :: v :: r) else none
  | _ => none
def mi_pop (pc' : Nat) (l : mi_L) (st : List Value) : mi_P := match st with
  | v :: r => if v.category = 1 then some (pc', l, r) else none
  | _ => none
def mi_dupx1 (pc' : Nat) (l : mi_L) (st : List Value) : mi_P := match st with
  | v :: w :: r => if v.category = 1 ∧ w.category = 1 then some (pc', l, v :: w :: v :: r) else none
  | _ => none
def mi_dup2 (pc' : Nat) (l : mi_L) (st : List Value) : mi_P := match st with
  | v :: r => if v.category = 2 then some (pc', l, v :: v :: r) else (match r with
    | w :: r' => if v.category = 1 ∧ w.category = 1 then some (pc', l, v :: w :: v :: w :: r') else none
    | [] => none)
  | _ => none
def mi_pop2 (pc' : Nat) (l : mi_L) (st : List Value) : mi_P := match st with
  | v :: r => if v.category = 2 then some (pc', l, r) else none
  | _ => none
def mi_iinc (nL k : Nat) (n : Int) (pc' : Nat) (l : mi_L) (st : List Value) : mi_P := match mi_look l k with
  | some (.int x) => if k < nL then some (pc', mi_s1 l k (.int (x + Int32.ofInt n)), st) else none
  | _ => none
def mi_tab (d lo hi : Int) (offs : Array Int) (pc : Nat) (l : mi_L) (st : List Value) : mi_P := match st with
  | .int x :: r => if x.toInt < lo ∨ hi < x.toInt then mi_goto pc d l r else (match offs[(x.toInt - lo).toNat]? with
    | some off => mi_goto pc off l r
    | none => none)
  | _ => none
def mi_lku (d : Int) (ps : Array (Int × Int)) (pc : Nat) (l : mi_L) (st : List Value) : mi_P := match st with
  | .int x :: r => if (ps.toList.zip (ps.toList.drop 1)).all (fun (a, next) => a.1 < next.1) = true then mi_goto pc (Op.lookupswitch.offset ps.toList d x.toInt) l r else none
  | _ => none
def mi_cc : ClassFile.Cond → Int32 → Int32 → Bool
  | .eq, x, y => decide (x = y)
  | .ne, x, y => !decide (x = y)
  | .lt, x, y => decide (x < y)
  | .ge, x, y => decide (y ≤ x)
  | .gt, x, y => decide (y < x)
  | .le, x, y => decide (x ≤ y)
def mi_len : Instr → Nat
  | .bipush _ => 2
  | .iload _ => 2
  | .lload _ => 2
  | .aload _ => 2
  | .dload _ => 2
  | .istore _ => 2
  | .lstore _ => 2
  | .astore _ => 2
  | .dstore _ => 2
  | .sipush _ => 3
  | .ifCond _ _ => 3
  | .if_icmp _ _ => 3
  | .ifnull _ => 3
  | .ifnonnull _ => 3
  | .goto _ => 3
  | .iinc _ _ => 3
  | _ => 1
def mi_pu (nL : Nat) (i : Instr) (pc : Nat) (l : mi_L) (st : List Value) : mi_P := match i with
  | .aconst_null => some (pc + 1, l, .null :: st)
  | .iconst n => some (pc + 1, l, .int (Int32.ofInt n) :: st)
  | .bipush n => some (pc + 2, l, .int (Int8.ofInt n).toInt32 :: st)
  | .sipush n => some (pc + 3, l, .int (Int16.ofInt n).toInt32 :: st)
  | .lconst n => some (pc + 1, l, .long (Int64.ofNat (n : Nat)) :: st)
  | .dconst n => some (pc + 1, l, .double (match n with | 0 => FP.dconst0 | 1 => FP.dconst1) :: st)
  | .iload k => mi_ld mi_isI k (pc + 2) l st
  | .iload_n k => mi_ld mi_isI k (pc + 1) l st
  | .lload k => mi_ld mi_isL k (pc + 2) l st
  | .lload_n k => mi_ld mi_isL k (pc + 1) l st
  | .dload k => mi_ld mi_isD k (pc + 2) l st
  | .dload_n k => mi_ld mi_isD k (pc + 1) l st
  | .aload k => mi_ld mi_isA k (pc + 2) l st
  | .aload_n k => mi_ld mi_isA k (pc + 1) l st
  | .istore k => mi_st mi_isI nL k (pc + 2) l st
  | .istore_n k => mi_st mi_isI nL k (pc + 1) l st
  | .astore k => mi_st mi_isA nL k (pc + 2) l st
  | .astore_n k => mi_st mi_isA nL k (pc + 1) l st
  | .lstore k => mi_st2 mi_isL nL k (pc + 2) l st
  | .lstore_n k => mi_st2 mi_isL nL k (pc + 1) l st
  | .dstore k => mi_st2 mi_isD nL k (pc + 2) l st
  | .dstore_n k => mi_st2 mi_isD nL k (pc + 1) l st
  | .iinc k n => mi_iinc nL k n (pc + 3) l st
  | .iadd => mi_ii (fun x y => some (.int (x + y))) (pc + 1) l st
  | .isub => mi_ii (fun x y => some (.int (x - y))) (pc + 1) l st
  | .imul => mi_ii (fun x y => some (.int (x * y))) (pc + 1) l st
  | .iand => mi_ii (fun x y => some (.int (x &&& y))) (pc + 1) l st
  | .ior => mi_ii (fun x y => some (.int (x ||| y))) (pc + 1) l st
  | .ixor => mi_ii (fun x y => some (.int (x ^^^ y))) (pc + 1) l st
  | .idiv => mi_ii (fun x y => if y = 0 then none else some (.int (x / y))) (pc + 1) l st
  | .irem => mi_ii (fun x y => if y = 0 then none else some (.int (x - x / y * y))) (pc + 1) l st
  | .ishl => mi_ii (fun x y => some (.int (x <<< (y &&& 31)))) (pc + 1) l st
  | .ishr => mi_ii (fun x y => some (.int (x >>> (y &&& 31)))) (pc + 1) l st
  | .iushr => mi_ii (fun x y => some (.int (x.toUInt32 >>> (y.toUInt32 &&& Int32.toUInt32 31)).toInt32)) (pc + 1) l st
  | .ineg => mi_i1 (fun x => .int (-x)) (pc + 1) l st
  | .i2l => mi_i1 (fun x => .long x.toInt64) (pc + 1) l st
  | .i2b => mi_i1 (fun x => .int x.toInt8.toInt32) (pc + 1) l st
  | .i2s => mi_i1 (fun x => .int x.toInt16.toInt32) (pc + 1) l st
  | .i2c => mi_i1 (fun x => .int (x.toUInt32 % 65536).toInt32) (pc + 1) l st
  | .i2d => mi_i1 (fun x => .double (FP.i2d x)) (pc + 1) l st
  | .l2i => mi_l1 (fun x => .int x.toInt32) (pc + 1) l st
  | .l2d => mi_l1 (fun x => .double (FP.l2d x)) (pc + 1) l st
  | .ladd => mi_ll (fun x y => some (.long (x + y))) (pc + 1) l st
  | .lsub => mi_ll (fun x y => some (.long (x - y))) (pc + 1) l st
  | .lmul => mi_ll (fun x y => some (.long (x * y))) (pc + 1) l st
  | .land => mi_ll (fun x y => some (.long (x &&& y))) (pc + 1) l st
  | .lxor => mi_ll (fun x y => some (.long (x ^^^ y))) (pc + 1) l st
  | .lor => mi_ll (fun x y => some (.long (x ||| y))) (pc + 1) l st
  | .ldiv => mi_ll (fun x y => if y = 0 then none else some (.long (x / y))) (pc + 1) l st
  | .lrem => mi_ll (fun x y => if y = 0 then none else some (.long (x - x / y * y))) (pc + 1) l st
  | .lcmp => mi_ll (fun x y => some (.int (lg_cmp x y))) (pc + 1) l st
  | .lshl => mi_li (fun x y => .long (x <<< (y.toInt64 &&& 63))) (pc + 1) l st
  | .lshr => mi_li (fun x y => .long (x >>> (y.toInt64 &&& 63))) (pc + 1) l st
  | .lushr => mi_li (fun x y => .long (x.toUInt64 >>> (y.toInt64.toUInt64 &&& Int64.toUInt64 63)).toInt64) (pc + 1) l st
  | .ddiv => mi_dd (fun x y => if FP.ddiv x y &&& 0x7fffffffffffffff ≤ 0x7ff0000000000000 then some (.double (FP.ddiv x y)) else none) (pc + 1) l st
  | .dcmp op => mi_dd (fun x y => some (.int (Op.cmpValue (FP.dcmp x y) op))) (pc + 1) l st
  | .dup => mi_dup (pc + 1) l st
  | .dup_x1 => mi_dupx1 (pc + 1) l st
  | .dup2 => mi_dup2 (pc + 1) l st
  | .pop => mi_pop (pc + 1) l st
  | .pop2 => mi_pop2 (pc + 1) l st
  | .ifCond k off => mi_c1 (fun x => mi_cc k x 0) pc off l st
  | .if_icmp k off => mi_c2 (fun x y => mi_cc k x y) pc off l st
  | .ifnull off => mi_nul true pc off l st
  | .ifnonnull off => mi_nul false pc off l st
  | .goto off => mi_goto pc off l st
  | _ => none
/-- one instruction that touches no cell and calls nothing: the next place, the locals, the stack -/
def mi_pure (nL len : Nat) (i : Instr) (pc : Nat) (l : mi_L) (st : List Value) : mi_P := match i with
  | .tableswitch d lo hi offs => mi_tab d lo hi offs pc l st
  | .lookupswitch d ps => mi_lku d ps pc l st
  | i => if len = mi_len i then mi_pu nL i pc l st else none
/-! how its values stand for the machine's: ad the addresses of its cells, cn those of the cells that were there before -/
def mi_rv (ad : List Nat) (cn : Nat → Nat) (v w : Value) : Prop := match v with
  | .ref k => ∃ a, ad[k]? = some a ∧ w = .ref a
  | .retAddr k => w = .ref (cn k)
  | .float _ => w = .null ∨ ∃ a, w = .ref a
  | v => w = v
def mi_rl (ad : List Nat) (cn : Nat → Nat) : List Value → List Value → Prop
  | [], ws => ws = []
  | v :: vs, ws => ∃ w ws', ws = w :: ws' ∧ mi_rv ad cn v w ∧ mi_rl ad cn vs ws'
def mi_rn (ad : List Nat) (cn : Nat → Nat) : mi_L → mi_L → Prop
  | [], lv => lv = []
  | q :: l, lv => ∃ w lv', lv = (q.1, w) :: lv' ∧ mi_rv ad cn q.2 w ∧ mi_rn ad cn l lv'
def mi_le (ad ad' : List Nat) : Prop := ∀ (k a : Nat), ad[k]? = some a → ad'[k]? = some a
theorem mi_le_rf (ad : List Nat) : mi_le ad ad := fun _ _ h => h
theorem mi_le_tr {a b c : List Nat} (h : mi_le a b) (h2 : mi_le b c) : mi_le a c := fun k x q => h2 k x (h k x q)
theorem mi_le_app (ad : List Nat) (q : Nat) : mi_le ad (ad ++ [q]) := fun k a h => by
  rw [List.getElem?_append_left (List.getElem?_eq_some_iff.mp h).1]; exact h
theorem mi_rv_mono {ad ad' : List Nat} {cn : Nat → Nat} (h : mi_le ad ad') {v w : Value} (q : mi_rv ad cn v w) : mi_rv ad' cn v w := by
  cases v <;> simp only [mi_rv] at q ⊢ <;> try exact q
  obtain ⟨a, h1, h2⟩ := q
  exact ⟨a, h _ _ h1, h2⟩
theorem mi_rl_mono {ad ad' : List Nat} {cn : Nat → Nat} (h : mi_le ad ad') : ∀ {vs ws : List Value}, mi_rl ad cn vs ws → mi_rl ad' cn vs ws
  | [], _, q => q
  | _ :: _, _, ⟨w, ws', e, a, b⟩ => ⟨w, ws', e, mi_rv_mono h a, mi_rl_mono h b⟩
theorem mi_rn_mono {ad ad' : List Nat} {cn : Nat → Nat} (h : mi_le ad ad') : ∀ {vs ws : mi_L}, mi_rn ad cn vs ws → mi_rn ad' cn vs ws
  | [], _, q => q
  | _ :: _, _, ⟨w, ws', e, a, b⟩ => ⟨w, ws', e, mi_rv_mono h a, mi_rn_mono h b⟩
theorem mi_rv_cat {ad : List Nat} {cn : Nat → Nat} {v w : Value} (q : mi_rv ad cn v w) : w.category = v.category := by
  cases v <;> simp only [mi_rv] at q
  case ref => obtain ⟨a, -, rfl⟩ := q; rfl
  case float => rcases q with rfl | ⟨a, rfl⟩ <;> rfl
  all_goals (subst q; rfl)
theorem mi_look_r {ad : List Nat} {cn : Nat → Nat} {i : Nat} {v : Value} : ∀ {l lv : mi_L}, mi_look l i = some v → mi_rn ad cn l lv → ∃ (k : Nat) (w : Value), lv[k]? = some (i, w) ∧ mi_rv ad cn v w
  | [], _, h, _ => by cases h
  | q :: l, _, h, ⟨w, lv', e, a, b⟩ => by
    subst e
    unfold mi_look at h
    by_cases hq : q.1 == i
    · rw [if_pos hq] at h
      cases h
      exact ⟨0, w, by simp [beq_iff_eq.mp hq], a⟩
    · rw [if_neg hq] at h
      obtain ⟨k, w2, h1, h2⟩ := mi_look_r h b
      exact ⟨k + 1, w2, by simpa using h1, h2⟩
theorem mi_rn_filter {ad : List Nat} {cn : Nat → Nat} (f : Nat → Nat → Bool) : ∀ {l lv : mi_L}, mi_rn ad cn l lv → mi_rn ad cn (l.filter (fun q => f q.1 q.2.category)) (lv.filter (fun q => f q.1 q.2.category))
  | [], _, h => by
    have h' : _ = [] := h
    subst h'
    exact rfl
  | q :: l, _, ⟨w, lv', e, a, b⟩ => by
    subst e
    have ih := mi_rn_filter f b
    have hc : w.category = q.2.category := mi_rv_cat a
    cases hf : f q.1 q.2.category with
    | true =>
      have e1 : (q :: l).filter (fun q => f q.1 q.2.category) = q :: l.filter (fun q => f q.1 q.2.category) := by simp [List.filter_cons, hf]
      have e2 : ((q.1, w) :: lv').filter (fun q => f q.1 q.2.category) = (q.1, w) :: lv'.filter (fun q => f q.1 q.2.category) := by simp [List.filter_cons, hc, hf]
      rw [e1, e2]
      exact ⟨w, _, rfl, a, ih⟩
    | false =>
      have e1 : (q :: l).filter (fun q => f q.1 q.2.category) = l.filter (fun q => f q.1 q.2.category) := by simp [List.filter_cons, hf]
      have e2 : ((q.1, w) :: lv').filter (fun q => f q.1 q.2.category) = lv'.filter (fun q => f q.1 q.2.category) := by simp [List.filter_cons, hc, hf]
      rw [e1, e2]
      exact ih
theorem mi_s1_r {ad : List Nat} {cn : Nat → Nat} {l lv : mi_L} {i : Nat} {v w : Value} (h : mi_rn ad cn l lv) (hv : mi_rv ad cn v w) : mi_rn ad cn (mi_s1 l i v) ((i, w) :: lv.filter (fun q => !(q.1 == i) && !(q.1 + 1 == i && q.2.category == 2))) :=
  ⟨w, _, rfl, hv, mi_rn_filter (fun a b => !(a == i) && !(a + 1 == i && b == 2)) h⟩
theorem mi_s2_r {ad : List Nat} {cn : Nat → Nat} {l lv : mi_L} {i : Nat} {v w : Value} (h : mi_rn ad cn l lv) (hv : mi_rv ad cn v w) : mi_rn ad cn (mi_s2 l i v) ((i, w) :: lv.filter (fun q => !(q.1 == i) && (!(q.1 == i + 1) && !(q.1 + 1 == i && q.2.category == 2)))) :=
  ⟨w, _, rfl, hv, mi_rn_filter (fun a b => !(a == i) && (!(a == i + 1) && !(a + 1 == i && b == 2))) h⟩
theorem mi_jmp_eq {pc t : Nat} {off : Int} (h : mi_jmp pc off = some t) : (pc : Int) + off = (t : Int) := by
  unfold mi_jmp at h
  split at h
  · cases h
    omega
  · cases h
/-! what each shape of instruction needs of the stack -/
theorem mi_ld_inv {ok : Value → Bool} {k pc' a : Nat} {l b : mi_L} {st d : List Value} (h : mi_ld ok k pc' l st = some (a, b, d)) : ∃ v, mi_look l k = some v ∧ ok v = true ∧ a = pc' ∧ b = l ∧ d = v :: st := by
  unfold mi_ld at h
  cases hv : mi_look l k with
  | none => simp [hv] at h
  | some v =>
    simp only [hv] at h
    by_cases ho : ok v = true
    · simp only [ho, if_true] at h
      cases h
      exact ⟨v, rfl, ho, rfl, rfl, rfl⟩
    · simp [ho] at h
theorem mi_st_inv {ok : Value → Bool} {nL k pc' a : Nat} {l b : mi_L} {st d : List Value} (h : mi_st ok nL k pc' l st = some (a, b, d)) : ∃ v r, st = v :: r ∧ ok v = true ∧ k < nL ∧ a = pc' ∧ b = mi_s1 l k v ∧ d = r := by
  unfold mi_st at h
  cases st with
  | nil => cases h
  | cons v r =>
    by_cases ho : (ok v && decide (k < nL)) = true
    · simp only [ho, if_true] at h
      cases h
      simp only [Bool.and_eq_true, decide_eq_true_eq] at ho
      exact ⟨v, _, rfl, ho.1, ho.2, rfl, rfl, rfl⟩
    · simp [ho] at h
theorem mi_st2_inv {ok : Value → Bool} {nL k pc' a : Nat} {l b : mi_L} {st d : List Value} (h : mi_st2 ok nL k pc' l st = some (a, b, d)) : ∃ v r, st = v :: r ∧ ok v = true ∧ k + 1 < nL ∧ a = pc' ∧ b = mi_s2 l k v ∧ d = r := by
  unfold mi_st2 at h
  cases st with
  | nil => cases h
  | cons v r =>
    by_cases ho : (ok v && decide (k + 1 < nL)) = true
    · simp only [ho, if_true] at h
      cases h
      simp only [Bool.and_eq_true, decide_eq_true_eq] at ho
      exact ⟨v, _, rfl, ho.1, ho.2, rfl, rfl, rfl⟩
    · simp [ho] at h
theorem mi_ii_inv {f : Int32 → Int32 → Option Value} {pc' a : Nat} {l b : mi_L} {st d : List Value} (h : mi_ii f pc' l st = some (a, b, d)) : ∃ x y v r, st = .int y :: .int x :: r ∧ f x y = some v ∧ a = pc' ∧ b = l ∧ d = v :: r := by
  unfold mi_ii at h
  split at h
  next y x r =>
    cases hf : f x y with
    | none => simp [hf] at h
    | some v =>
      simp only [hf] at h
      cases h
      exact ⟨x, y, v, r, rfl, hf, rfl, rfl, rfl⟩
  next => cases h
theorem mi_ll_inv {f : Int64 → Int64 → Option Value} {pc' a : Nat} {l b : mi_L} {st d : List Value} (h : mi_ll f pc' l st = some (a, b, d)) : ∃ x y v r, st = .long y :: .long x :: r ∧ f x y = some v ∧ a = pc' ∧ b = l ∧ d = v :: r := by
  unfold mi_ll at h
  split at h
  next y x r =>
    cases hf : f x y with
    | none => simp [hf] at h
    | some v =>
      simp only [hf] at h
      cases h
      exact ⟨x, y, v, r, rfl, hf, rfl, rfl, rfl⟩
  next => cases h
theorem mi_dd_inv {f : UInt64 → UInt64 → Option Value} {pc' a : Nat} {l b : mi_L} {st d : List Value} (h : mi_dd f pc' l st = some (a, b, d)) : ∃ x y v r, st = .double y :: .double x :: r ∧ f x y = some v ∧ a = pc' ∧ b = l ∧ d = v :: r := by
  unfold mi_dd at h
  split at h
  next y x r =>
    cases hf : f x y with
    | none => simp [hf] at h
    | some v =>
      simp only [hf] at h
      cases h
      exact ⟨x, y, v, r, rfl, hf, rfl, rfl, rfl⟩
  next => cases h
theorem mi_li_inv {f : Int64 → Int32 → Value} {pc' a : Nat} {l b : mi_L} {st d : List Value} (h : mi_li f pc' l st = some (a, b, d)) : ∃ x y r, st = .int y :: .long x :: r ∧ a = pc' ∧ b = l ∧ d = f x y :: r := by
  unfold mi_li at h
  split at h
  next y x r => cases h; exact ⟨x, y, r, rfl, rfl, rfl, rfl⟩
  next => cases h
theorem mi_i1_inv {f : Int32 → Value} {pc' a : Nat} {l b : mi_L} {st d : List Value} (h : mi_i1 f pc' l st = some (a, b, d)) : ∃ x r, st = .int x :: r ∧ a = pc' ∧ b = l ∧ d = f x :: r := by
  unfold mi_i1 at h
  split at h
  next x r => cases h; exact ⟨x, r, rfl, rfl, rfl, rfl⟩
  next => cases h
theorem mi_l1_inv {f : Int64 → Value} {pc' a : Nat} {l b : mi_L} {st d : List Value} (h : mi_l1 f pc' l st = some (a, b, d)) : ∃ x r, st = .long x :: r ∧ a = pc' ∧ b = l ∧ d = f x :: r := by
  unfold mi_l1 at h
  split at h
  next x r => cases h; exact ⟨x, r, rfl, rfl, rfl, rfl⟩
  next => cases h
theorem mi_goto_inv {pc a : Nat} {off : Int} {l b : mi_L} {st d : List Value} (h : mi_goto pc off l st = some (a, b, d)) : (pc : Int) + off = (a : Int) ∧ b = l ∧ d = st := by
  unfold mi_goto at h
  cases hj : mi_jmp pc off with
  | none => simp [hj] at h
  | some t =>
    simp only [hj] at h
    cases h
    exact ⟨mi_jmp_eq hj, rfl, rfl⟩
theorem mi_c1_inv {f : Int32 → Bool} {pc a : Nat} {off : Int} {l b : mi_L} {st d : List Value} (h : mi_c1 f pc off l st = some (a, b, d)) : ∃ x r t, st = .int x :: r ∧ b = l ∧ d = r ∧ (pc : Int) + off = ((t : Nat) : Int) ∧ a = if f x then t else pc + 3 := by
  unfold mi_c1 at h
  split at h
  next x r =>
    cases hj : mi_jmp pc off with
    | none => simp [hj] at h
    | some t =>
      simp only [hj] at h
      cases h
      exact ⟨x, _, t, rfl, rfl, rfl, mi_jmp_eq hj, rfl⟩
  next => cases h
theorem mi_c2_inv {f : Int32 → Int32 → Bool} {pc a : Nat} {off : Int} {l b : mi_L} {st d : List Value} (h : mi_c2 f pc off l st = some (a, b, d)) : ∃ x y r t, st = .int y :: .int x :: r ∧ b = l ∧ d = r ∧ (pc : Int) + off = ((t : Nat) : Int) ∧ a = if f x y then t else pc + 3 := by
  unfold mi_c2 at h
  split at h
  next y x r =>
    cases hj : mi_jmp pc off with
    | none => simp [hj] at h
    | some t =>
      simp only [hj] at h
      cases h
      exact ⟨x, y, _, t, rfl, rfl, rfl, mi_jmp_eq hj, rfl⟩
  next => cases h
/-! the machine's stack below abstract tops -/
theorem mi_rl_i {ad : List Nat} {cn : Nat → Nat} {x : Int32} {r ws : List Value} (h : mi_rl ad cn (.int x :: r) ws) : ∃ w, ws = .int x :: w ∧ mi_rl ad cn r w := by
  obtain ⟨w, ws', e, a, b⟩ := h
  have a' : w = .int x := a
  subst a'
  exact ⟨ws', e, b⟩
theorem mi_rl_l {ad : List Nat} {cn : Nat → Nat} {x : Int64} {r ws : List Value} (h : mi_rl ad cn (.long x :: r) ws) : ∃ w, ws = .long x :: w ∧ mi_rl ad cn r w := by
  obtain ⟨w, ws', e, a, b⟩ := h
  have a' : w = .long x := a
  subst a'
  exact ⟨ws', e, b⟩
theorem mi_rl_d {ad : List Nat} {cn : Nat → Nat} {x : UInt64} {r ws : List Value} (h : mi_rl ad cn (.double x :: r) ws) : ∃ w, ws = .double x :: w ∧ mi_rl ad cn r w := by
  obtain ⟨w, ws', e, a, b⟩ := h
  have a' : w = .double x := a
  subst a'
  exact ⟨ws', e, b⟩
theorem mi_rl_ii {ad : List Nat} {cn : Nat → Nat} {x y : Int32} {r ws : List Value} (h : mi_rl ad cn (.int y :: .int x :: r) ws) : ∃ w, ws = .int y :: .int x :: w ∧ mi_rl ad cn r w := by
  obtain ⟨w, rfl, h1⟩ := mi_rl_i h
  obtain ⟨w2, rfl, h2⟩ := mi_rl_i h1
  exact ⟨w2, rfl, h2⟩
theorem mi_rl_ll {ad : List Nat} {cn : Nat → Nat} {x y : Int64} {r ws : List Value} (h : mi_rl ad cn (.long y :: .long x :: r) ws) : ∃ w, ws = .long y :: .long x :: w ∧ mi_rl ad cn r w := by
  obtain ⟨w, rfl, h1⟩ := mi_rl_l h
  obtain ⟨w2, rfl, h2⟩ := mi_rl_l h1
  exact ⟨w2, rfl, h2⟩
theorem mi_rl_dd {ad : List Nat} {cn : Nat → Nat} {x y : UInt64} {r ws : List Value} (h : mi_rl ad cn (.double y :: .double x :: r) ws) : ∃ w, ws = .double y :: .double x :: w ∧ mi_rl ad cn r w := by
  obtain ⟨w, rfl, h1⟩ := mi_rl_d h
  obtain ⟨w2, rfl, h2⟩ := mi_rl_d h1
  exact ⟨w2, rfl, h2⟩
theorem mi_rl_li {ad : List Nat} {cn : Nat → Nat} {x : Int64} {y : Int32} {r ws : List Value} (h : mi_rl ad cn (.int y :: .long x :: r) ws) : ∃ w, ws = .int y :: .long x :: w ∧ mi_rl ad cn r w := by
  obtain ⟨w, rfl, h1⟩ := mi_rl_i h
  obtain ⟨w2, rfl, h2⟩ := mi_rl_l h1
  exact ⟨w2, rfl, h2⟩
theorem mi_rl_c {ad : List Nat} {cn : Nat → Nat} {v w : Value} {r ws : List Value} (a : mi_rv ad cn v w) (h : mi_rl ad cn r ws) : mi_rl ad cn (v :: r) (w :: ws) := ⟨w, ws, rfl, a, h⟩
theorem mi_rv_A {ad : List Nat} {cn : Nat → Nat} {v w : Value} (h : mi_rv ad cn v w) (ok : mi_isA v = true) : w = .null ∨ ∃ a, w = .ref a := by
  cases v <;> simp only [mi_isA, Bool.false_eq_true] at ok
  case null => exact Or.inl h
  case ref => obtain ⟨a, -, e⟩ := h; exact Or.inr ⟨a, e⟩
  case retAddr => exact Or.inr ⟨_, h⟩
  case float => exact h
end
section
/-! ===== the pure instructions are the machine's ===== -/
section MIP
variable {p : Program} {l : Launch} {e : Env} {R : Room} {s : State} {m : MethodId} {args : Array Value} {below : List Frame} {meth : Method} {c : Code} {H : Heap} {locs : List Loc} {cells slots : Nat} {Q : State → Prop}
variable {cc : ByteArray} {nL pc pc' : Nat} {la la' : mi_L} {st st' : List Value} {ad : List Nat} {cn : Nat → Nat} {ls : Array Slot} {lv : mi_L} {sw : List Value}
/-- the way on behind an instruction -/
abbrev mi_K (p : Program) (l : Launch) (e : Env) (R : Room) (s : State) (m : MethodId) (args : Array Value) (below : List Frame) (meth : Method) (c : Code) (H : Heap) (locs : List Loc) (cells slots : Nat) (Q : State → Prop) (nL pc' : Nat) (la' : mi_L) (st' : List Value) (ad : List Nat) (cn : Nat → Nat) : Prop :=
  ∀ (ls' : Array Slot) (lv' : mi_L) (sw' : List Value), lv_has ls' nL lv' → mi_rn ad cn la' lv' → mi_rl ad cn st' sw' → W p l e R s m args below meth c H locs cells slots Q (F0 m pc' ls' sw')

theorem mi_goto_ok (hx : p.tables.exec = Jvm.exec) (hb : c.code = cc) {off : Int} (hd : decode cc pc = .ok (.goto off, 3)) (h : mi_goto pc off la st = some (pc', la', st')) (hl : lv_has ls nL lv) (hn : mi_rn ad cn la lv) (hs : mi_rl ad cn st sw) (kk : mi_K p l e R s m args below meth c H locs cells slots Q nL pc' la' st' ad cn) : W p l e R s m args below meth c H locs cells slots Q (F0 m pc ls sw) := by
  obtain ⟨ht, rfl, rfl⟩ := mi_goto_inv h
  exact lv_goto hx hb hd ht (kk _ _ _ hl hn hs)
theorem mi_tab_ok (hx : p.tables.exec = Jvm.exec) (hb : c.code = cc) {d lo hi : Int} {offs : Array Int} {len : Nat} (hd : decode cc pc = .ok (.tableswitch d lo hi offs, len)) (h : mi_tab d lo hi offs pc la st = some (pc', la', st')) (hl : lv_has ls nL lv) (hn : mi_rn ad cn la lv) (hs : mi_rl ad cn st sw) (kk : mi_K p l e R s m args below meth c H locs cells slots Q nL pc' la' st' ad cn) : W p l e R s m args below meth c H locs cells slots Q (F0 m pc ls sw) := by
  unfold mi_tab at h
  split at h
  next x r =>
    obtain ⟨w, rfl, hr⟩ := mi_rl_i hs
    split at h
    next hc =>
      obtain ⟨ht, rfl, rfl⟩ := mi_goto_inv h
      exact lv_tableOut hx hb hd hc ht (kk _ _ _ hl hn hr)
    next hc =>
      split at h
      next off ho =>
        obtain ⟨ht, rfl, rfl⟩ := mi_goto_inv h
        exact lv_tableIn hx hb hd (fun q => hc (Or.inl q)) (fun q => hc (Or.inr q)) ho ht (kk _ _ _ hl hn hr)
      next => cases h
  next => cases h
theorem mi_lku_ok (hx : p.tables.exec = Jvm.exec) (hb : c.code = cc) {d : Int} {ps : Array (Int × Int)} {len : Nat} (hd : decode cc pc = .ok (.lookupswitch d ps, len)) (h : mi_lku d ps pc la st = some (pc', la', st')) (hl : lv_has ls nL lv) (hn : mi_rn ad cn la lv) (hs : mi_rl ad cn st sw) (kk : mi_K p l e R s m args below meth c H locs cells slots Q nL pc' la' st' ad cn) : W p l e R s m args below meth c H locs cells slots Q (F0 m pc ls sw) := by
  unfold mi_lku at h
  split at h
  next x r =>
    obtain ⟨w, rfl, hr⟩ := mi_rl_i hs
    split at h
    next hc =>
      obtain ⟨ht, rfl, rfl⟩ := mi_goto_inv h
      exact lv_lookup hx hb hd hc rfl ht (kk _ _ _ hl hn hr)
    next => cases h
  next => cases h
theorem mi_nul_ok (hx : p.tables.exec = Jvm.exec) (hb : c.code = cc) {off : Int} {isn : Bool} (hd : decode cc pc = .ok (if isn then .ifnull off else .ifnonnull off, 3)) (h : mi_nul isn pc off la st = some (pc', la', st')) (hl : lv_has ls nL lv) (hn : mi_rn ad cn la lv) (hs : mi_rl ad cn st sw) (kk : mi_K p l e R s m args below meth c H locs cells slots Q nL pc' la' st' ad cn) : W p l e R s m args below meth c H locs cells slots Q (F0 m pc ls sw) := by
  unfold mi_nul at h
  cases isn <;> simp only [if_true, if_false, Bool.false_eq_true] at h hd
  all_goals split at h
  all_goals first | (cases h; done) | skip
  · obtain ⟨w, ws', rfl, hw, hr⟩ := hs
    cases hw
    cases h
    exact lv_ifnonnullN hx hb hd (kk _ _ _ hl hn hr)
  · obtain ⟨w, ws', rfl, ⟨a, -, hw⟩, hr⟩ := hs
    cases hw
    obtain ⟨ht, rfl, rfl⟩ := mi_goto_inv h
    exact lv_ifnonnull hx hb hd ht (kk _ _ _ hl hn hr)
  · obtain ⟨w, ws', rfl, hw, hr⟩ := hs
    cases hw
    obtain ⟨ht, rfl, rfl⟩ := mi_goto_inv h
    exact lv_ifnonnull hx hb hd ht (kk _ _ _ hl hn hr)
  · obtain ⟨w, ws', rfl, hw, hr⟩ := hs
    cases hw
    obtain ⟨ht, rfl, rfl⟩ := mi_goto_inv h
    exact lv_ifnullN hx hb hd ht (kk _ _ _ hl hn hr)
  · obtain ⟨w, ws', rfl, ⟨a, -, hw⟩, hr⟩ := hs
    cases hw
    cases h
    exact lv_ifnull hx hb hd (kk _ _ _ hl hn hr)
  · obtain ⟨w, ws', rfl, hw, hr⟩ := hs
    cases hw
    cases h
    exact lv_ifnull hx hb hd (kk _ _ _ hl hn hr)

theorem mi_iload_ok (hx : p.tables.exec = Jvm.exec) (hb : c.code = cc) {k : Nat} (hd : decode cc pc = .ok (.iload k, 2)) (h : mi_ld mi_isI k (pc + 2) la st = some (pc', la', st')) (hl : lv_has ls nL lv) (hn : mi_rn ad cn la lv) (hs : mi_rl ad cn st sw) (kk : mi_K p l e R s m args below meth c H locs cells slots Q nL pc' la' st' ad cn) : W p l e R s m args below meth c H locs cells slots Q (F0 m pc ls sw) := by
  obtain ⟨v, hv, ho, rfl, rfl, rfl⟩ := mi_ld_inv h
  obtain ⟨k9, w9, h1, h2⟩ := mi_look_r hv hn
  cases v <;> simp only [mi_isI, Bool.false_eq_true] at ho
  have h2' : w9 = _ := h2
  subst h2'
  exact lv_iload hx hb hd (lv_at hl k9 h1) (kk _ _ _ hl hn (mi_rl_c rfl hs))
theorem mi_iload_n_ok (hx : p.tables.exec = Jvm.exec) (hb : c.code = cc) {k : Fin 4} (hd : decode cc pc = .ok (.iload_n k, 1)) (h : mi_ld mi_isI k (pc + 1) la st = some (pc', la', st')) (hl : lv_has ls nL lv) (hn : mi_rn ad cn la lv) (hs : mi_rl ad cn st sw) (kk : mi_K p l e R s m args below meth c H locs cells slots Q nL pc' la' st' ad cn) : W p l e R s m args below meth c H locs cells slots Q (F0 m pc ls sw) := by
  obtain ⟨v, hv, ho, rfl, rfl, rfl⟩ := mi_ld_inv h
  obtain ⟨k9, w9, h1, h2⟩ := mi_look_r hv hn
  cases v <;> simp only [mi_isI, Bool.false_eq_true] at ho
  have h2' : w9 = _ := h2
  subst h2'
  exact lv_iload_n hx hb hd rfl (lv_at hl k9 h1) (kk _ _ _ hl hn (mi_rl_c rfl hs))
theorem mi_lload_ok (hx : p.tables.exec = Jvm.exec) (hb : c.code = cc) {k : Nat} (hd : decode cc pc = .ok (.lload k, 2)) (h : mi_ld mi_isL k (pc + 2) la st = some (pc', la', st')) (hl : lv_has ls nL lv) (hn : mi_rn ad cn la lv) (hs : mi_rl ad cn st sw) (kk : mi_K p l e R s m args below meth c H locs cells slots Q nL pc' la' st' ad cn) : W p l e R s m args below meth c H locs cells slots Q (F0 m pc ls sw) := by
  obtain ⟨v, hv, ho, rfl, rfl, rfl⟩ := mi_ld_inv h
  obtain ⟨k9, w9, h1, h2⟩ := mi_look_r hv hn
  cases v <;> simp only [mi_isL, Bool.false_eq_true] at ho
  have h2' : w9 = _ := h2
  subst h2'
  exact lv_lload hx hb hd (lv_at hl k9 h1) (kk _ _ _ hl hn (mi_rl_c rfl hs))
theorem mi_lload_n_ok (hx : p.tables.exec = Jvm.exec) (hb : c.code = cc) {k : Fin 4} (hd : decode cc pc = .ok (.lload_n k, 1)) (h : mi_ld mi_isL k (pc + 1) la st = some (pc', la', st')) (hl : lv_has ls nL lv) (hn : mi_rn ad cn la lv) (hs : mi_rl ad cn st sw) (kk : mi_K p l e R s m args below meth c H locs cells slots Q nL pc' la' st' ad cn) : W p l e R s m args below meth c H locs cells slots Q (F0 m pc ls sw) := by
  obtain ⟨v, hv, ho, rfl, rfl, rfl⟩ := mi_ld_inv h
  obtain ⟨k9, w9, h1, h2⟩ := mi_look_r hv hn
  cases v <;> simp only [mi_isL, Bool.false_eq_true] at ho
  have h2' : w9 = _ := h2
  subst h2'
  exact lv_lload_n hx hb hd rfl (lv_at hl k9 h1) (kk _ _ _ hl hn (mi_rl_c rfl hs))
theorem mi_dload_ok (hx : p.tables.exec = Jvm.exec) (hb : c.code = cc) {k : Nat} (hd : decode cc pc = .ok (.dload k, 2)) (h : mi_ld mi_isD k (pc + 2) la st = some (pc', la', st')) (hl : lv_has ls nL lv) (hn : mi_rn ad cn la lv) (hs : mi_rl ad cn st sw) (kk : mi_K p l e R s m args below meth c H locs cells slots Q nL pc' la' st' ad cn) : W p l e R s m args below meth c H locs cells slots Q (F0 m pc ls sw) := by
  obtain ⟨v, hv, ho, rfl, rfl, rfl⟩ := mi_ld_inv h
  obtain ⟨k9, w9, h1, h2⟩ := mi_look_r hv hn
  cases v <;> simp only [mi_isD, Bool.false_eq_true] at ho
  have h2' : w9 = _ := h2
  subst h2'
  exact lv_dload hx hb hd (lv_at hl k9 h1) (kk _ _ _ hl hn (mi_rl_c rfl hs))
theorem mi_dload_n_ok (hx : p.tables.exec = Jvm.exec) (hb : c.code = cc) {k : Fin 4} (hd : decode cc pc = .ok (.dload_n k, 1)) (h : mi_ld mi_isD k (pc + 1) la st = some (pc', la', st')) (hl : lv_has ls nL lv) (hn : mi_rn ad cn la lv) (hs : mi_rl ad cn st sw) (kk : mi_K p l e R s m args below meth c H locs cells slots Q nL pc' la' st' ad cn) : W p l e R s m args below meth c H locs cells slots Q (F0 m pc ls sw) := by
  obtain ⟨v, hv, ho, rfl, rfl, rfl⟩ := mi_ld_inv h
  obtain ⟨k9, w9, h1, h2⟩ := mi_look_r hv hn
  cases v <;> simp only [mi_isD, Bool.false_eq_true] at ho
  have h2' : w9 = _ := h2
  subst h2'
  exact lv_dload_n hx hb hd rfl (lv_at hl k9 h1) (kk _ _ _ hl hn (mi_rl_c rfl hs))
theorem mi_aload_ok (hx : p.tables.exec = Jvm.exec) (hb : c.code = cc) {k : Nat} (hd : decode cc pc = .ok (.aload k, 2)) (h : mi_ld mi_isA k (pc + 2) la st = some (pc', la', st')) (hl : lv_has ls nL lv) (hn : mi_rn ad cn la lv) (hs : mi_rl ad cn st sw) (kk : mi_K p l e R s m args below meth c H locs cells slots Q nL pc' la' st' ad cn) : W p l e R s m args below meth c H locs cells slots Q (F0 m pc ls sw) := by
  obtain ⟨v, hv, ho, rfl, rfl, rfl⟩ := mi_ld_inv h
  obtain ⟨k9, w9, h1, h2⟩ := mi_look_r hv hn
  rcases mi_rv_A h2 ho with rfl | ⟨a, rfl⟩
  · exact lv_aloadN hx hb hd (lv_at hl k9 h1) (kk _ _ _ hl hn (mi_rl_c h2 hs))
  · exact lv_aload hx hb hd (lv_at hl k9 h1) (kk _ _ _ hl hn (mi_rl_c h2 hs))
theorem mi_aload_n_ok (hx : p.tables.exec = Jvm.exec) (hb : c.code = cc) {k : Fin 4} (hd : decode cc pc = .ok (.aload_n k, 1)) (h : mi_ld mi_isA k (pc + 1) la st = some (pc', la', st')) (hl : lv_has ls nL lv) (hn : mi_rn ad cn la lv) (hs : mi_rl ad cn st sw) (kk : mi_K p l e R s m args below meth c H locs cells slots Q nL pc' la' st' ad cn) : W p l e R s m args below meth c H locs cells slots Q (F0 m pc ls sw) := by
  obtain ⟨v, hv, ho, rfl, rfl, rfl⟩ := mi_ld_inv h
  obtain ⟨k9, w9, h1, h2⟩ := mi_look_r hv hn
  rcases mi_rv_A h2 ho with rfl | ⟨a, rfl⟩
  · exact lv_aload_nN hx hb hd rfl (lv_at hl k9 h1) (kk _ _ _ hl hn (mi_rl_c h2 hs))
  · exact lv_aload_n hx hb hd rfl (lv_at hl k9 h1) (kk _ _ _ hl hn (mi_rl_c h2 hs))
theorem mi_istore_ok (hx : p.tables.exec = Jvm.exec) (hb : c.code = cc) {k : Nat} (hd : decode cc pc = .ok (.istore k, 2)) (h : mi_st mi_isI nL k (pc + 2) la st = some (pc', la', st')) (hl : lv_has ls nL lv) (hn : mi_rn ad cn la lv) (hs : mi_rl ad cn st sw) (kk : mi_K p l e R s m args below meth c H locs cells slots Q nL pc' la' st' ad cn) : W p l e R s m args below meth c H locs cells slots Q (F0 m pc ls sw) := by
  obtain ⟨v, r, rfl, ho, hk, rfl, rfl, rfl⟩ := mi_st_inv h
  obtain ⟨w9, ws', rfl, hw, hr⟩ := hs
  cases v <;> simp only [mi_isI, Bool.false_eq_true] at ho
  have h2' : w9 = _ := hw
  subst h2'
  exact lv_istore hx hb hd hl hk rfl (fun ls' h' => kk _ _ _ h' (mi_s1_r hn rfl) hr)
theorem mi_istore_n_ok (hx : p.tables.exec = Jvm.exec) (hb : c.code = cc) {k : Fin 4} (hd : decode cc pc = .ok (.istore_n k, 1)) (h : mi_st mi_isI nL k (pc + 1) la st = some (pc', la', st')) (hl : lv_has ls nL lv) (hn : mi_rn ad cn la lv) (hs : mi_rl ad cn st sw) (kk : mi_K p l e R s m args below meth c H locs cells slots Q nL pc' la' st' ad cn) : W p l e R s m args below meth c H locs cells slots Q (F0 m pc ls sw) := by
  obtain ⟨v, r, rfl, ho, hk, rfl, rfl, rfl⟩ := mi_st_inv h
  obtain ⟨w9, ws', rfl, hw, hr⟩ := hs
  cases v <;> simp only [mi_isI, Bool.false_eq_true] at ho
  have h2' : w9 = _ := hw
  subst h2'
  exact lv_istore_n hx hb hd rfl hl hk rfl (fun ls' h' => kk _ _ _ h' (mi_s1_r hn rfl) hr)
theorem mi_lstore_ok (hx : p.tables.exec = Jvm.exec) (hb : c.code = cc) {k : Nat} (hd : decode cc pc = .ok (.lstore k, 2)) (h : mi_st2 mi_isL nL k (pc + 2) la st = some (pc', la', st')) (hl : lv_has ls nL lv) (hn : mi_rn ad cn la lv) (hs : mi_rl ad cn st sw) (kk : mi_K p l e R s m args below meth c H locs cells slots Q nL pc' la' st' ad cn) : W p l e R s m args below meth c H locs cells slots Q (F0 m pc ls sw) := by
  obtain ⟨v, r, rfl, ho, hk, rfl, rfl, rfl⟩ := mi_st2_inv h
  obtain ⟨w9, ws', rfl, hw, hr⟩ := hs
  cases v <;> simp only [mi_isL, Bool.false_eq_true] at ho
  have h2' : w9 = _ := hw
  subst h2'
  exact lv_lstore hx hb hd hl hk rfl (fun ls' h' => kk _ _ _ h' (mi_s2_r hn rfl) hr)
theorem mi_lstore_n_ok (hx : p.tables.exec = Jvm.exec) (hb : c.code = cc) {k : Fin 4} (hd : decode cc pc = .ok (.lstore_n k, 1)) (h : mi_st2 mi_isL nL k (pc + 1) la st = some (pc', la', st')) (hl : lv_has ls nL lv) (hn : mi_rn ad cn la lv) (hs : mi_rl ad cn st sw) (kk : mi_K p l e R s m args below meth c H locs cells slots Q nL pc' la' st' ad cn) : W p l e R s m args below meth c H locs cells slots Q (F0 m pc ls sw) := by
  obtain ⟨v, r, rfl, ho, hk, rfl, rfl, rfl⟩ := mi_st2_inv h
  obtain ⟨w9, ws', rfl, hw, hr⟩ := hs
  cases v <;> simp only [mi_isL, Bool.false_eq_true] at ho
  have h2' : w9 = _ := hw
  subst h2'
  exact lv_lstore_n hx hb hd rfl hl hk rfl (fun ls' h' => kk _ _ _ h' (mi_s2_r hn rfl) hr)
theorem mi_dstore_ok (hx : p.tables.exec = Jvm.exec) (hb : c.code = cc) {k : Nat} (hd : decode cc pc = .ok (.dstore k, 2)) (h : mi_st2 mi_isD nL k (pc + 2) la st = some (pc', la', st')) (hl : lv_has ls nL lv) (hn : mi_rn ad cn la lv) (hs : mi_rl ad cn st sw) (kk : mi_K p l e R s m args below meth c H locs cells slots Q nL pc' la' st' ad cn) : W p l e R s m args below meth c H locs cells slots Q (F0 m pc ls sw) := by
  obtain ⟨v, r, rfl, ho, hk, rfl, rfl, rfl⟩ := mi_st2_inv h
  obtain ⟨w9, ws', rfl, hw, hr⟩ := hs
  cases v <;> simp only [mi_isD, Bool.false_eq_true] at ho
  have h2' : w9 = _ := hw
  subst h2'
  exact lv_dstore hx hb hd hl hk rfl (fun ls' h' => kk _ _ _ h' (mi_s2_r hn rfl) hr)
theorem mi_dstore_n_ok (hx : p.tables.exec = Jvm.exec) (hb : c.code = cc) {k : Fin 4} (hd : decode cc pc = .ok (.dstore_n k, 1)) (h : mi_st2 mi_isD nL k (pc + 1) la st = some (pc', la', st')) (hl : lv_has ls nL lv) (hn : mi_rn ad cn la lv) (hs : mi_rl ad cn st sw) (kk : mi_K p l e R s m args below meth c H locs cells slots Q nL pc' la' st' ad cn) : W p l e R s m args below meth c H locs cells slots Q (F0 m pc ls sw) := by
  obtain ⟨v, r, rfl, ho, hk, rfl, rfl, rfl⟩ := mi_st2_inv h
  obtain ⟨w9, ws', rfl, hw, hr⟩ := hs
  cases v <;> simp only [mi_isD, Bool.false_eq_true] at ho
  have h2' : w9 = _ := hw
  subst h2'
  exact lv_dstore_n hx hb hd rfl hl hk rfl (fun ls' h' => kk _ _ _ h' (mi_s2_r hn rfl) hr)
theorem mi_astore_ok (hx : p.tables.exec = Jvm.exec) (hb : c.code = cc) {k : Nat} (hd : decode cc pc = .ok (.astore k, 2)) (h : mi_st mi_isA nL k (pc + 2) la st = some (pc', la', st')) (hl : lv_has ls nL lv) (hn : mi_rn ad cn la lv) (hs : mi_rl ad cn st sw) (kk : mi_K p l e R s m args below meth c H locs cells slots Q nL pc' la' st' ad cn) : W p l e R s m args below meth c H locs cells slots Q (F0 m pc ls sw) := by
  obtain ⟨v, r, rfl, ho, hk, rfl, rfl, rfl⟩ := mi_st_inv h
  obtain ⟨w9, ws', rfl, hw, hr⟩ := hs
  rcases mi_rv_A hw ho with rfl | ⟨a, rfl⟩
  · exact lv_astoreN hx hb hd hl hk rfl (fun ls' h' => kk _ _ _ h' (mi_s1_r hn hw) hr)
  · exact lv_astore hx hb hd hl hk rfl (fun ls' h' => kk _ _ _ h' (mi_s1_r hn hw) hr)
theorem mi_astore_n_ok (hx : p.tables.exec = Jvm.exec) (hb : c.code = cc) {k : Fin 4} (hd : decode cc pc = .ok (.astore_n k, 1)) (h : mi_st mi_isA nL k (pc + 1) la st = some (pc', la', st')) (hl : lv_has ls nL lv) (hn : mi_rn ad cn la lv) (hs : mi_rl ad cn st sw) (kk : mi_K p l e R s m args below meth c H locs cells slots Q nL pc' la' st' ad cn) : W p l e R s m args below meth c H locs cells slots Q (F0 m pc ls sw) := by
  obtain ⟨v, r, rfl, ho, hk, rfl, rfl, rfl⟩ := mi_st_inv h
  obtain ⟨w9, ws', rfl, hw, hr⟩ := hs
  rcases mi_rv_A hw ho with rfl | ⟨a, rfl⟩
  · exact lv_astore_nN hx hb hd rfl hl hk rfl (fun ls' h' => kk _ _ _ h' (mi_s1_r hn hw) hr)
  · exact lv_astore_n hx hb hd rfl hl hk rfl (fun ls' h' => kk _ _ _ h' (mi_s1_r hn hw) hr)
theorem mi_iinc_ok (hx : p.tables.exec = Jvm.exec) (hb : c.code = cc) {k : Nat} {n : Int} (hd : decode cc pc = .ok (.iinc k n, 3)) (h : mi_iinc nL k n (pc + 3) la st = some (pc', la', st')) (hl : lv_has ls nL lv) (hn : mi_rn ad cn la lv) (hs : mi_rl ad cn st sw) (kk : mi_K p l e R s m args below meth c H locs cells slots Q nL pc' la' st' ad cn) : W p l e R s m args below meth c H locs cells slots Q (F0 m pc ls sw) := by
  unfold mi_iinc at h
  split at h
  next x hv =>
    obtain ⟨k9, w9, h1, h2⟩ := mi_look_r hv hn
    have h2' : w9 = _ := h2
    subst h2'
    split at h
    next hk =>
      cases h
      exact lv_iinc hx hb hd hl h1 rfl hk rfl (fun ls' h' => kk _ _ _ h' (mi_s1_r hn rfl) hs)
    next => cases h
  next => cases h
theorem mi_dup_ok (hx : p.tables.exec = Jvm.exec) (hb : c.code = cc) (hd : decode cc pc = .ok (.dup, 1)) (h : mi_dup (pc + 1) la st = some (pc', la', st')) (hl : lv_has ls nL lv) (hn : mi_rn ad cn la lv) (hs : mi_rl ad cn st sw) (kk : mi_K p l e R s m args below meth c H locs cells slots Q nL pc' la' st' ad cn) : W p l e R s m args below meth c H locs cells slots Q (F0 m pc ls sw) := by
  unfold mi_dup at h
  split at h
  next v r =>
    split at h
    next hc =>
      cases h
      obtain ⟨w9, ws', rfl, hw, hr⟩ := hs
      exact lv_dup hx hb hd ((mi_rv_cat hw).trans hc) (kk _ _ _ hl hn (mi_rl_c hw (mi_rl_c hw hr)))
    next => cases h
  next => cases h
theorem mi_pop_ok (hx : p.tables.exec = Jvm.exec) (hb : c.code = cc) (hd : decode cc pc = .ok (.pop, 1)) (h : mi_pop (pc + 1) la st = some (pc', la', st')) (hl : lv_has ls nL lv) (hn : mi_rn ad cn la lv) (hs : mi_rl ad cn st sw) (kk : mi_K p l e R s m args below meth c H locs cells slots Q nL pc' la' st' ad cn) : W p l e R s m args below meth c H locs cells slots Q (F0 m pc ls sw) := by
  unfold mi_pop at h
  split at h
  next v r =>
    split at h
    next hc =>
      cases h
      obtain ⟨w9, ws', rfl, hw, hr⟩ := hs
      exact lv_pop hx hb hd ((mi_rv_cat hw).trans hc) (kk _ _ _ hl hn hr)
    next => cases h
  next => cases h
theorem mi_pop2_ok (hx : p.tables.exec = Jvm.exec) (hb : c.code = cc) (hd : decode cc pc = .ok (.pop2, 1)) (h : mi_pop2 (pc + 1) la st = some (pc', la', st')) (hl : lv_has ls nL lv) (hn : mi_rn ad cn la lv) (hs : mi_rl ad cn st sw) (kk : mi_K p l e R s m args below meth c H locs cells slots Q nL pc' la' st' ad cn) : W p l e R s m args below meth c H locs cells slots Q (F0 m pc ls sw) := by
  unfold mi_pop2 at h
  split at h
  next v r =>
    split at h
    next hc =>
      cases h
      obtain ⟨w9, ws', rfl, hw, hr⟩ := hs
      exact lv_pop2_2 hx hb hd ((mi_rv_cat hw).trans hc) (kk _ _ _ hl hn hr)
    next => cases h
  next => cases h
theorem mi_dupx1_ok (hx : p.tables.exec = Jvm.exec) (hb : c.code = cc) (hd : decode cc pc = .ok (.dup_x1, 1)) (h : mi_dupx1 (pc + 1) la st = some (pc', la', st')) (hl : lv_has ls nL lv) (hn : mi_rn ad cn la lv) (hs : mi_rl ad cn st sw) (kk : mi_K p l e R s m args below meth c H locs cells slots Q nL pc' la' st' ad cn) : W p l e R s m args below meth c H locs cells slots Q (F0 m pc ls sw) := by
  unfold mi_dupx1 at h
  split at h
  next v w r =>
    split at h
    next hc =>
      cases h
      obtain ⟨w9, ws', rfl, hw, w8, ws8, rfl, hw8, hr⟩ := hs
      exact lv_dup_x1 hx hb hd ((mi_rv_cat hw).trans hc.1) ((mi_rv_cat hw8).trans hc.2) (kk _ _ _ hl hn (mi_rl_c hw (mi_rl_c hw8 (mi_rl_c hw hr))))
    next => cases h
  next => cases h
theorem mi_dup2_ok (hx : p.tables.exec = Jvm.exec) (hb : c.code = cc) (hd : decode cc pc = .ok (.dup2, 1)) (h : mi_dup2 (pc + 1) la st = some (pc', la', st')) (hl : lv_has ls nL lv) (hn : mi_rn ad cn la lv) (hs : mi_rl ad cn st sw) (kk : mi_K p l e R s m args below meth c H locs cells slots Q nL pc' la' st' ad cn) : W p l e R s m args below meth c H locs cells slots Q (F0 m pc ls sw) := by
  unfold mi_dup2 at h
  split at h
  next v r =>
    split at h
    next hc =>
      cases h
      obtain ⟨w9, ws', rfl, hw, hr⟩ := hs
      exact lv_dup2_2 hx hb hd ((mi_rv_cat hw).trans hc) (kk _ _ _ hl hn (mi_rl_c hw (mi_rl_c hw hr)))
    next =>
      split at h
      next w r' =>
        split at h
        next hc =>
          cases h
          obtain ⟨w9, ws', rfl, hw, w8, ws8, rfl, hw8, hr⟩ := hs
          exact lv_dup2_11 hx hb hd ((mi_rv_cat hw).trans hc.1) ((mi_rv_cat hw8).trans hc.2) (kk _ _ _ hl hn (mi_rl_c hw (mi_rl_c hw8 (mi_rl_c hw (mi_rl_c hw8 hr)))))
        next => cases h
      next => cases h
  next => cases h
theorem mi_if_ok (hx : p.tables.exec = Jvm.exec) (hb : c.code = cc) {k : ClassFile.Cond} {off : Int} (hd : decode cc pc = .ok (.ifCond k off, 3)) (h : mi_c1 (fun x => mi_cc k x 0) pc off la st = some (pc', la', st')) (hl : lv_has ls nL lv) (hn : mi_rn ad cn la lv) (hs : mi_rl ad cn st sw) (kk : mi_K p l e R s m args below meth c H locs cells slots Q nL pc' la' st' ad cn) : W p l e R s m args below meth c H locs cells slots Q (F0 m pc ls sw) := by
  obtain ⟨x, r, t, rfl, rfl, rfl, ht, rfl⟩ := mi_c1_inv h
  obtain ⟨w, rfl, hr⟩ := mi_rl_i hs
  have go := kk _ _ _ hl hn hr
  cases k
  · refine lv_if_eq hx hb hd ht (fun q => ?_) (fun q => ?_)
    · simpa [mi_cc, q] using go
    · simpa [mi_cc, q] using go
  · refine lv_if_ne hx hb hd ht (fun q => ?_) (fun q => ?_)
    · simpa [mi_cc, q] using go
    · simpa [mi_cc, q] using go
  · refine lv_if_lt hx hb hd ht (fun q => ?_) (fun q => ?_)
    · simpa [mi_cc, q] using go
    · simpa [mi_cc, q] using go
  · refine lv_if_ge hx hb hd ht (fun q => ?_) (fun q => ?_)
    · simpa [mi_cc, q] using go
    · simpa [mi_cc, q] using go
  · refine lv_if_gt hx hb hd ht (fun q => ?_) (fun q => ?_)
    · simpa [mi_cc, q] using go
    · simpa [mi_cc, q] using go
  · refine lv_if_le hx hb hd ht (fun q => ?_) (fun q => ?_)
    · simpa [mi_cc, q] using go
    · simpa [mi_cc, q] using go
theorem mi_icmp_ok (hx : p.tables.exec = Jvm.exec) (hb : c.code = cc) {k : ClassFile.Cond} {off : Int} (hd : decode cc pc = .ok (.if_icmp k off, 3)) (h : mi_c2 (fun x y => mi_cc k x y) pc off la st = some (pc', la', st')) (hl : lv_has ls nL lv) (hn : mi_rn ad cn la lv) (hs : mi_rl ad cn st sw) (kk : mi_K p l e R s m args below meth c H locs cells slots Q nL pc' la' st' ad cn) : W p l e R s m args below meth c H locs cells slots Q (F0 m pc ls sw) := by
  obtain ⟨x, y, r, t, rfl, rfl, rfl, ht, rfl⟩ := mi_c2_inv h
  obtain ⟨w, rfl, hr⟩ := mi_rl_ii hs
  have go := kk _ _ _ hl hn hr
  cases k
  · refine lv_icmp_eq hx hb hd ht (fun q => ?_) (fun q => ?_)
    · simpa [mi_cc, q] using go
    · simpa [mi_cc, q] using go
  · refine lv_icmp_ne hx hb hd ht (fun q => ?_) (fun q => ?_)
    · simpa [mi_cc, q] using go
    · simpa [mi_cc, q] using go
  · refine lv_icmp_lt hx hb hd ht (fun q => ?_) (fun q => ?_)
    · simpa [mi_cc, q] using go
    · simpa [mi_cc, q] using go
  · refine lv_icmp_ge hx hb hd ht (fun q => ?_) (fun q => ?_)
    · simpa [mi_cc, q] using go
    · simpa [mi_cc, q] using go
  · refine lv_icmp_gt hx hb hd ht (fun q => ?_) (fun q => ?_)
    · simpa [mi_cc, q] using go
    · simpa [mi_cc, q] using go
  · refine lv_icmp_le hx hb hd ht (fun q => ?_) (fun q => ?_)
    · simpa [mi_cc, q] using go
    · simpa [mi_cc, q] using go
set_option maxHeartbeats 4000000 in
theorem mi_pu_ok (hx : p.tables.exec = Jvm.exec) (hb : c.code = cc) {i : Instr} (hd : decode cc pc = .ok (i, mi_len i)) (h : mi_pu nL i pc la st = some (pc', la', st')) (hl : lv_has ls nL lv) (hn : mi_rn ad cn la lv) (hs : mi_rl ad cn st sw) (kk : mi_K p l e R s m args below meth c H locs cells slots Q nL pc' la' st' ad cn) : W p l e R s m args below meth c H locs cells slots Q (F0 m pc ls sw) := by
  cases i
  case aconst_null => cases h; exact lv_null hx hb hd (kk _ _ _ hl hn (mi_rl_c rfl hs))
  case iconst => cases h; exact lv_iconst hx hb hd rfl (kk _ _ _ hl hn (mi_rl_c rfl hs))
  case bipush => cases h; exact lv_bipush hx hb hd rfl (kk _ _ _ hl hn (mi_rl_c rfl hs))
  case sipush => cases h; exact lv_sipush hx hb hd rfl (kk _ _ _ hl hn (mi_rl_c rfl hs))
  case lconst => cases h; exact lv_lconst hx hb hd rfl (kk _ _ _ hl hn (mi_rl_c rfl hs))
  case dconst n =>
    match n, hd, h with
    | 0, hd, h => cases h; exact lv_dconst0 hx hb hd (kk _ _ _ hl hn (mi_rl_c rfl hs))
    | 1, hd, h => cases h; exact lv_dconst1 hx hb hd (kk _ _ _ hl hn (mi_rl_c rfl hs))
  case iload => exact mi_iload_ok hx hb hd h hl hn hs kk
  case iload_n => exact mi_iload_n_ok hx hb hd h hl hn hs kk
  case lload => exact mi_lload_ok hx hb hd h hl hn hs kk
  case lload_n => exact mi_lload_n_ok hx hb hd h hl hn hs kk
  case dload => exact mi_dload_ok hx hb hd h hl hn hs kk
  case dload_n => exact mi_dload_n_ok hx hb hd h hl hn hs kk
  case aload => exact mi_aload_ok hx hb hd h hl hn hs kk
  case aload_n => exact mi_aload_n_ok hx hb hd h hl hn hs kk
  case istore => exact mi_istore_ok hx hb hd h hl hn hs kk
  case istore_n => exact mi_istore_n_ok hx hb hd h hl hn hs kk
  case lstore => exact mi_lstore_ok hx hb hd h hl hn hs kk
  case lstore_n => exact mi_lstore_n_ok hx hb hd h hl hn hs kk
  case dstore => exact mi_dstore_ok hx hb hd h hl hn hs kk
  case dstore_n => exact mi_dstore_n_ok hx hb hd h hl hn hs kk
  case astore => exact mi_astore_ok hx hb hd h hl hn hs kk
  case astore_n => exact mi_astore_n_ok hx hb hd h hl hn hs kk
  case iinc => exact mi_iinc_ok hx hb hd h hl hn hs kk
  case iadd => dsimp only [mi_pu] at h; obtain ⟨x, y, v, r, rfl, hv, rfl, rfl, rfl⟩ := mi_ii_inv h; obtain ⟨w, rfl, hr⟩ := mi_rl_ii hs; cases hv; exact lv_iadd hx hb hd (kk _ _ _ hl hn (mi_rl_c rfl hr))
  case isub => dsimp only [mi_pu] at h; obtain ⟨x, y, v, r, rfl, hv, rfl, rfl, rfl⟩ := mi_ii_inv h; obtain ⟨w, rfl, hr⟩ := mi_rl_ii hs; cases hv; exact lv_isub hx hb hd (kk _ _ _ hl hn (mi_rl_c rfl hr))
  case imul => dsimp only [mi_pu] at h; obtain ⟨x, y, v, r, rfl, hv, rfl, rfl, rfl⟩ := mi_ii_inv h; obtain ⟨w, rfl, hr⟩ := mi_rl_ii hs; cases hv; exact lv_imul hx hb hd (kk _ _ _ hl hn (mi_rl_c rfl hr))
  case iand => dsimp only [mi_pu] at h; obtain ⟨x, y, v, r, rfl, hv, rfl, rfl, rfl⟩ := mi_ii_inv h; obtain ⟨w, rfl, hr⟩ := mi_rl_ii hs; cases hv; exact lv_iand hx hb hd (kk _ _ _ hl hn (mi_rl_c rfl hr))
  case ior => dsimp only [mi_pu] at h; obtain ⟨x, y, v, r, rfl, hv, rfl, rfl, rfl⟩ := mi_ii_inv h; obtain ⟨w, rfl, hr⟩ := mi_rl_ii hs; cases hv; exact lv_ior hx hb hd (kk _ _ _ hl hn (mi_rl_c rfl hr))
  case ixor => dsimp only [mi_pu] at h; obtain ⟨x, y, v, r, rfl, hv, rfl, rfl, rfl⟩ := mi_ii_inv h; obtain ⟨w, rfl, hr⟩ := mi_rl_ii hs; cases hv; exact lv_ixor hx hb hd (kk _ _ _ hl hn (mi_rl_c rfl hr))
  case ishl => dsimp only [mi_pu] at h; obtain ⟨x, y, v, r, rfl, hv, rfl, rfl, rfl⟩ := mi_ii_inv h; obtain ⟨w, rfl, hr⟩ := mi_rl_ii hs; cases hv; exact lv_ishl hx hb hd (kk _ _ _ hl hn (mi_rl_c rfl hr))
  case ishr => dsimp only [mi_pu] at h; obtain ⟨x, y, v, r, rfl, hv, rfl, rfl, rfl⟩ := mi_ii_inv h; obtain ⟨w, rfl, hr⟩ := mi_rl_ii hs; cases hv; exact lv_ishr hx hb hd (kk _ _ _ hl hn (mi_rl_c rfl hr))
  case iushr => dsimp only [mi_pu] at h; obtain ⟨x, y, v, r, rfl, hv, rfl, rfl, rfl⟩ := mi_ii_inv h; obtain ⟨w, rfl, hr⟩ := mi_rl_ii hs; cases hv; exact lv_iushr hx hb hd rfl (kk _ _ _ hl hn (mi_rl_c rfl hr))
  case idiv =>
    dsimp only [mi_pu] at h
    obtain ⟨x, y, v, r, rfl, hv, rfl, rfl, rfl⟩ := mi_ii_inv h
    obtain ⟨w, rfl, hr⟩ := mi_rl_ii hs
    by_cases h0 : y = 0
    · simp [h0] at hv
    · simp only [h0, if_false] at hv
      cases hv
      exact lv_idiv hx hb hd h0 (kk _ _ _ hl hn (mi_rl_c rfl hr))
  case irem =>
    dsimp only [mi_pu] at h
    obtain ⟨x, y, v, r, rfl, hv, rfl, rfl, rfl⟩ := mi_ii_inv h
    obtain ⟨w, rfl, hr⟩ := mi_rl_ii hs
    by_cases h0 : y = 0
    · simp [h0] at hv
    · simp only [h0, if_false] at hv
      cases hv
      exact lv_irem hx hb hd h0 (kk _ _ _ hl hn (mi_rl_c rfl hr))
  case ldiv =>
    dsimp only [mi_pu] at h
    obtain ⟨x, y, v, r, rfl, hv, rfl, rfl, rfl⟩ := mi_ll_inv h
    obtain ⟨w, rfl, hr⟩ := mi_rl_ll hs
    by_cases h0 : y = 0
    · simp [h0] at hv
    · simp only [h0, if_false] at hv
      cases hv
      exact lv_ldiv hx hb hd h0 (kk _ _ _ hl hn (mi_rl_c rfl hr))
  case lrem =>
    dsimp only [mi_pu] at h
    obtain ⟨x, y, v, r, rfl, hv, rfl, rfl, rfl⟩ := mi_ll_inv h
    obtain ⟨w, rfl, hr⟩ := mi_rl_ll hs
    by_cases h0 : y = 0
    · simp [h0] at hv
    · simp only [h0, if_false] at hv
      cases hv
      exact lv_lrem hx hb hd h0 (kk _ _ _ hl hn (mi_rl_c rfl hr))
  case ineg => dsimp only [mi_pu] at h; obtain ⟨x, r, rfl, rfl, rfl, rfl⟩ := mi_i1_inv h; obtain ⟨w, rfl, hr⟩ := mi_rl_i hs; exact lv_ineg hx hb hd (kk _ _ _ hl hn (mi_rl_c rfl hr))
  case i2l => dsimp only [mi_pu] at h; obtain ⟨x, r, rfl, rfl, rfl, rfl⟩ := mi_i1_inv h; obtain ⟨w, rfl, hr⟩ := mi_rl_i hs; exact lv_i2l hx hb hd rfl (kk _ _ _ hl hn (mi_rl_c rfl hr))
  case i2b => dsimp only [mi_pu] at h; obtain ⟨x, r, rfl, rfl, rfl, rfl⟩ := mi_i1_inv h; obtain ⟨w, rfl, hr⟩ := mi_rl_i hs; exact lv_i2b hx hb hd rfl (kk _ _ _ hl hn (mi_rl_c rfl hr))
  case i2s => dsimp only [mi_pu] at h; obtain ⟨x, r, rfl, rfl, rfl, rfl⟩ := mi_i1_inv h; obtain ⟨w, rfl, hr⟩ := mi_rl_i hs; exact lv_i2s hx hb hd rfl (kk _ _ _ hl hn (mi_rl_c rfl hr))
  case i2c => dsimp only [mi_pu] at h; obtain ⟨x, r, rfl, rfl, rfl, rfl⟩ := mi_i1_inv h; obtain ⟨w, rfl, hr⟩ := mi_rl_i hs; exact lv_i2c hx hb hd rfl (kk _ _ _ hl hn (mi_rl_c rfl hr))
  case i2d => dsimp only [mi_pu] at h; obtain ⟨x, r, rfl, rfl, rfl, rfl⟩ := mi_i1_inv h; obtain ⟨w, rfl, hr⟩ := mi_rl_i hs; exact lv_i2d hx hb hd (kk _ _ _ hl hn (mi_rl_c rfl hr))
  case l2i => dsimp only [mi_pu] at h; obtain ⟨x, r, rfl, rfl, rfl, rfl⟩ := mi_l1_inv h; obtain ⟨w, rfl, hr⟩ := mi_rl_l hs; exact lv_l2i hx hb hd rfl (kk _ _ _ hl hn (mi_rl_c rfl hr))
  case l2d => dsimp only [mi_pu] at h; obtain ⟨x, r, rfl, rfl, rfl, rfl⟩ := mi_l1_inv h; obtain ⟨w, rfl, hr⟩ := mi_rl_l hs; exact lv_l2d hx hb hd (kk _ _ _ hl hn (mi_rl_c rfl hr))
  case ladd => dsimp only [mi_pu] at h; obtain ⟨x, y, v, r, rfl, hv, rfl, rfl, rfl⟩ := mi_ll_inv h; obtain ⟨w, rfl, hr⟩ := mi_rl_ll hs; cases hv; exact lv_ladd hx hb hd (kk _ _ _ hl hn (mi_rl_c rfl hr))
  case lsub => dsimp only [mi_pu] at h; obtain ⟨x, y, v, r, rfl, hv, rfl, rfl, rfl⟩ := mi_ll_inv h; obtain ⟨w, rfl, hr⟩ := mi_rl_ll hs; cases hv; exact lv_lsub hx hb hd (kk _ _ _ hl hn (mi_rl_c rfl hr))
  case lmul => dsimp only [mi_pu] at h; obtain ⟨x, y, v, r, rfl, hv, rfl, rfl, rfl⟩ := mi_ll_inv h; obtain ⟨w, rfl, hr⟩ := mi_rl_ll hs; cases hv; exact lv_lmul hx hb hd (kk _ _ _ hl hn (mi_rl_c rfl hr))
  case land => dsimp only [mi_pu] at h; obtain ⟨x, y, v, r, rfl, hv, rfl, rfl, rfl⟩ := mi_ll_inv h; obtain ⟨w, rfl, hr⟩ := mi_rl_ll hs; cases hv; exact lv_land hx hb hd (kk _ _ _ hl hn (mi_rl_c rfl hr))
  case lor => dsimp only [mi_pu] at h; obtain ⟨x, y, v, r, rfl, hv, rfl, rfl, rfl⟩ := mi_ll_inv h; obtain ⟨w, rfl, hr⟩ := mi_rl_ll hs; cases hv; exact lv_lor hx hb hd (kk _ _ _ hl hn (mi_rl_c rfl hr))
  case lxor => dsimp only [mi_pu] at h; obtain ⟨x, y, v, r, rfl, hv, rfl, rfl, rfl⟩ := mi_ll_inv h; obtain ⟨w, rfl, hr⟩ := mi_rl_ll hs; cases hv; exact lv_lxor hx hb hd (kk _ _ _ hl hn (mi_rl_c rfl hr))
  case lcmp => dsimp only [mi_pu] at h; obtain ⟨x, y, v, r, rfl, hv, rfl, rfl, rfl⟩ := mi_ll_inv h; obtain ⟨w, rfl, hr⟩ := mi_rl_ll hs; cases hv; exact W.lcmp hx hb hd (kk _ _ _ hl hn (mi_rl_c rfl hr))
  case lshl => dsimp only [mi_pu] at h; obtain ⟨x, y, r, rfl, rfl, rfl, rfl⟩ := mi_li_inv h; obtain ⟨w, rfl, hr⟩ := mi_rl_li hs; exact lv_lshl hx hb hd rfl (kk _ _ _ hl hn (mi_rl_c rfl hr))
  case lshr => dsimp only [mi_pu] at h; obtain ⟨x, y, r, rfl, rfl, rfl, rfl⟩ := mi_li_inv h; obtain ⟨w, rfl, hr⟩ := mi_rl_li hs; exact lv_lshr hx hb hd rfl (kk _ _ _ hl hn (mi_rl_c rfl hr))
  case lushr => dsimp only [mi_pu] at h; obtain ⟨x, y, r, rfl, rfl, rfl, rfl⟩ := mi_li_inv h; obtain ⟨w, rfl, hr⟩ := mi_rl_li hs; exact lv_lushr hx hb hd rfl (kk _ _ _ hl hn (mi_rl_c rfl hr))
  case ddiv =>
    dsimp only [mi_pu] at h
    obtain ⟨x, y, v, r, rfl, hv, rfl, rfl, rfl⟩ := mi_dd_inv h
    obtain ⟨w, rfl, hr⟩ := mi_rl_dd hs
    by_cases h0 : FP.ddiv x y &&& 0x7fffffffffffffff ≤ 0x7ff0000000000000
    · simp only [h0, if_true] at hv
      cases hv
      exact lv_ddiv hx hb hd h0 (kk _ _ _ hl hn (mi_rl_c rfl hr))
    · simp [h0] at hv
  case dcmp => dsimp only [mi_pu] at h; obtain ⟨x, y, v, r, rfl, hv, rfl, rfl, rfl⟩ := mi_dd_inv h; obtain ⟨w, rfl, hr⟩ := mi_rl_dd hs; cases hv; exact lv_dcmp hx hb hd (kk _ _ _ hl hn (mi_rl_c rfl hr))
  case dup => exact mi_dup_ok hx hb hd h hl hn hs kk
  case pop => exact mi_pop_ok hx hb hd h hl hn hs kk
  case pop2 => exact mi_pop2_ok hx hb hd h hl hn hs kk
  case dup_x1 => exact mi_dupx1_ok hx hb hd h hl hn hs kk
  case dup2 => exact mi_dup2_ok hx hb hd h hl hn hs kk
  case ifCond => exact mi_if_ok hx hb hd h hl hn hs kk
  case if_icmp => exact mi_icmp_ok hx hb hd h hl hn hs kk
  case ifnull => exact mi_nul_ok (isn := true) hx hb hd h hl hn hs kk
  case ifnonnull => exact mi_nul_ok (isn := false) hx hb hd h hl hn hs kk
  case goto => exact mi_goto_ok hx hb hd h hl hn hs kk
  all_goals (cases h)
theorem mi_pure_ok (hx : p.tables.exec = Jvm.exec) (hb : c.code = cc) {i : Instr} {len : Nat} (hd : decode cc pc = .ok (i, len)) (h : mi_pure nL len i pc la st = some (pc', la', st')) (hl : lv_has ls nL lv) (hn : mi_rn ad cn la lv) (hs : mi_rl ad cn st sw) (kk : mi_K p l e R s m args below meth c H locs cells slots Q nL pc' la' st' ad cn) : W p l e R s m args below meth c H locs cells slots Q (F0 m pc ls sw) := by
  unfold mi_pure at h
  split at h
  next d lo hi offs => exact mi_tab_ok hx hb hd h hl hn hs kk
  next d ps => exact mi_lku_ok hx hb hd h hl hn hs kk
  next i' =>
    split at h
    next hl2 =>
      subst hl2
      exact mi_pu_ok hx hb hd h hl hn hs kk
    next => cases h
end MIP
end
section
/-! ===== printed by program (wip/gen/gen.py): classes, methods, code, links ===== -/
def RX0 : String := "TypeLoom$Checker"
def TX0 : u_T := fun k => match k with
  | 0 => ("TypeLoom$Checker", "tokens", "LTypeLoom$Tokens;", true)
  | 1 => ("TypeLoom$Checker", "types", "LTypeLoom$Types;", true)
  | 2 => ("TypeLoom$Checker", "known", "LTypeLoom$Known;", true)
  | 3 => ("TypeLoom$Checker", "fault", "LTypeLoom$Fault;", true)
  | 4 => ("TypeLoom$Checker", "forms", "LTypeLoom$Forms;", true)
  | 5 => ("TypeLoom$Checker", "scope", "LTypeLoom$Scope;", true)
  | 6 => ("TypeLoom$Checker", "steps", "LTypeLoom$Steps;", false)
  | 7 => ("TypeLoom$Checker", "own", "I", false)
  | 8 => ("TypeLoom$Checker", "ownKey", "J", false)
  | 9 => ("TypeLoom$Checker", "ownType", "I", false)
  | 10 => ("TypeLoom$Checker", "formType", "I", false)
  | _ => ("TypeLoom$Checker", "formToken", "I", false)
def tyX0 : Nat → FieldType := fun k => match k with
  | 0 => .object "TypeLoom$Tokens"
  | 1 => .object "TypeLoom$Types"
  | 2 => .object "TypeLoom$Known"
  | 3 => .object "TypeLoom$Fault"
  | 4 => .object "TypeLoom$Forms"
  | 5 => .object "TypeLoom$Scope"
  | 6 => .object "TypeLoom$Steps"
  | 7 => .int
  | 8 => .long
  | 9 => .int
  | 10 => .int
  | _ => .int
theorem nmX0 : ∀ a, a < 12 → ∀ b, b < 12 → a ≠ b → (TX0 a).2.1 ≠ (TX0 b).2.1 := by decide +kernel
theorem tyX0_ok : ∀ k, k < 12 → parseFieldDescriptor (TX0 k).2.2.1 = some (tyX0 k) := by decide +kernel
theorem onX0 : ∀ k, k < 12 → (TX0 k).1 = RX0 := by decide +kernel
def RX1 : String := "TypeLoom$Fault"
def TX1 : u_T := fun k => match k with
  | 0 => ("TypeLoom$Fault", "number", "I", false)
  | _ => ("TypeLoom$Fault", "place", "I", false)
def tyX1 : Nat → FieldType := fun k => match k with
  | 0 => .int
  | _ => .int
theorem nmX1 : ∀ a, a < 2 → ∀ b, b < 2 → a ≠ b → (TX1 a).2.1 ≠ (TX1 b).2.1 := by decide +kernel
theorem tyX1_ok : ∀ k, k < 2 → parseFieldDescriptor (TX1 k).2.2.1 = some (tyX1 k) := by decide +kernel
theorem onX1 : ∀ k, k < 2 → (TX1 k).1 = RX1 := by decide +kernel
def RX2 : String := "TypeLoom$Forms"
def TX2 : u_T := fun k => match k with
  | 0 => ("TypeLoom$Forms", "tokens", "LTypeLoom$Tokens;", true)
  | 1 => ("TypeLoom$Forms", "types", "LTypeLoom$Types;", true)
  | 2 => ("TypeLoom$Forms", "known", "LTypeLoom$Known;", true)
  | 3 => ("TypeLoom$Forms", "fault", "LTypeLoom$Fault;", true)
  | 4 => ("TypeLoom$Forms", "markNodes", "[I", true)
  | 5 => ("TypeLoom$Forms", "itemMarks", "[I", true)
  | 6 => ("TypeLoom$Forms", "values", "[I", true)
  | 7 => ("TypeLoom$Forms", "valueCount", "I", false)
  | 8 => ("TypeLoom$Forms", "markCount", "I", false)
  | 9 => ("TypeLoom$Forms", "inItem", "Z", false)
  | _ => ("TypeLoom$Forms", "constructorKey", "J", false)
def tyX2 : Nat → FieldType := fun k => match k with
  | 0 => .object "TypeLoom$Tokens"
  | 1 => .object "TypeLoom$Types"
  | 2 => .object "TypeLoom$Known"
  | 3 => .object "TypeLoom$Fault"
  | 4 => .array .int
  | 5 => .array .int
  | 6 => .array .int
  | 7 => .int
  | 8 => .int
  | 9 => .boolean
  | _ => .long
theorem nmX2 : ∀ a, a < 11 → ∀ b, b < 11 → a ≠ b → (TX2 a).2.1 ≠ (TX2 b).2.1 := by decide +kernel
theorem tyX2_ok : ∀ k, k < 11 → parseFieldDescriptor (TX2 k).2.2.1 = some (tyX2 k) := by decide +kernel
theorem onX2 : ∀ k, k < 11 → (TX2 k).1 = RX2 := by decide +kernel
def RX3 : String := "TypeLoom$Known"
def TX3 : u_T := fun k => match k with
  | 0 => ("TypeLoom$Known", "types", "LTypeLoom$Types;", true)
  | 1 => ("TypeLoom$Known", "typeKeys", "[J", true)
  | 2 => ("TypeLoom$Known", "typeMarks", "[I", true)
  | 3 => ("TypeLoom$Known", "constructorKeys", "[J", true)
  | 4 => ("TypeLoom$Known", "constructorTypes", "[I", true)
  | 5 => ("TypeLoom$Known", "constructorParts", "[I", true)
  | 6 => ("TypeLoom$Known", "definitionKeys", "[J", true)
  | 7 => ("TypeLoom$Known", "definitionTypes", "[I", true)
  | 8 => ("TypeLoom$Known", "used", "[I", true)
  | 9 => ("TypeLoom$Known", "fst", "I", true)
  | 10 => ("TypeLoom$Known", "snd", "I", true)
  | 11 => ("TypeLoom$Known", "bottom", "I", true)
  | 12 => ("TypeLoom$Known", "typeCount", "I", false)
  | 13 => ("TypeLoom$Known", "constructorCount", "I", false)
  | _ => ("TypeLoom$Known", "definitionCount", "I", false)
def tyX3 : Nat → FieldType := fun k => match k with
  | 0 => .object "TypeLoom$Types"
  | 1 => .array .long
  | 2 => .array .int
  | 3 => .array .long
  | 4 => .array .int
  | 5 => .array .int
  | 6 => .array .long
  | 7 => .array .int
  | 8 => .array .int
  | 9 => .int
  | 10 => .int
  | 11 => .int
  | 12 => .int
  | 13 => .int
  | _ => .int
theorem nmX3 : ∀ a, a < 15 → ∀ b, b < 15 → a ≠ b → (TX3 a).2.1 ≠ (TX3 b).2.1 := by decide +kernel
theorem tyX3_ok : ∀ k, k < 15 → parseFieldDescriptor (TX3 k).2.2.1 = some (tyX3 k) := by decide +kernel
theorem onX3 : ∀ k, k < 15 → (TX3 k).1 = RX3 := by decide +kernel
def RX4 : String := "TypeLoom$Parser"
def TX4 : u_T := fun k => match k with
  | 0 => ("TypeLoom$Parser", "tokens", "LTypeLoom$Tokens;", true)
  | 1 => ("TypeLoom$Parser", "fault", "LTypeLoom$Fault;", true)
  | 2 => ("TypeLoom$Parser", "steps", "LTypeLoom$Steps;", false)
  | _ => ("TypeLoom$Parser", "next", "I", false)
def tyX4 : Nat → FieldType := fun k => match k with
  | 0 => .object "TypeLoom$Tokens"
  | 1 => .object "TypeLoom$Fault"
  | 2 => .object "TypeLoom$Steps"
  | _ => .int
theorem nmX4 : ∀ a, a < 4 → ∀ b, b < 4 → a ≠ b → (TX4 a).2.1 ≠ (TX4 b).2.1 := by decide +kernel
theorem tyX4_ok : ∀ k, k < 4 → parseFieldDescriptor (TX4 k).2.2.1 = some (tyX4 k) := by decide +kernel
theorem onX4 : ∀ k, k < 4 → (TX4 k).1 = RX4 := by decide +kernel
def RX5 : String := "TypeLoom$Scope"
def TX5 : u_T := fun k => match k with
  | 0 => ("TypeLoom$Scope", "keys", "[J", true)
  | 1 => ("TypeLoom$Scope", "boundTypes", "[I", true)
  | 2 => ("TypeLoom$Scope", "general", "[Z", true)
  | _ => ("TypeLoom$Scope", "size", "I", false)
def tyX5 : Nat → FieldType := fun k => match k with
  | 0 => .array .long
  | 1 => .array .int
  | 2 => .array .boolean
  | _ => .int
theorem nmX5 : ∀ a, a < 4 → ∀ b, b < 4 → a ≠ b → (TX5 a).2.1 ≠ (TX5 b).2.1 := by decide +kernel
theorem tyX5_ok : ∀ k, k < 4 → parseFieldDescriptor (TX5 k).2.2.1 = some (tyX5 k) := by decide +kernel
theorem onX5 : ∀ k, k < 4 → (TX5 k).1 = RX5 := by decide +kernel
def RX6 : String := "TypeLoom$Steps"
def TX6 : u_T := fun k => match k with
  | 0 => ("TypeLoom$Steps", "kinds", "[I", true)
  | 1 => ("TypeLoom$Steps", "as", "[I", true)
  | 2 => ("TypeLoom$Steps", "bs", "[I", true)
  | 3 => ("TypeLoom$Steps", "cs", "[I", true)
  | 4 => ("TypeLoom$Steps", "firsts", "[I", true)
  | 5 => ("TypeLoom$Steps", "lasts", "[I", true)
  | 6 => ("TypeLoom$Steps", "types", "[I", true)
  | _ => ("TypeLoom$Steps", "size", "I", false)
def tyX6 : Nat → FieldType := fun k => match k with
  | 0 => .array .int
  | 1 => .array .int
  | 2 => .array .int
  | 3 => .array .int
  | 4 => .array .int
  | 5 => .array .int
  | 6 => .array .int
  | _ => .int
theorem nmX6 : ∀ a, a < 8 → ∀ b, b < 8 → a ≠ b → (TX6 a).2.1 ≠ (TX6 b).2.1 := by decide +kernel
theorem tyX6_ok : ∀ k, k < 8 → parseFieldDescriptor (TX6 k).2.2.1 = some (tyX6 k) := by decide +kernel
theorem onX6 : ∀ k, k < 8 → (TX6 k).1 = RX6 := by decide +kernel
def RX7 : String := "TypeLoom$Tokens"
def TX7 : u_T := fun k => match k with
  | 0 => ("TypeLoom$Tokens", "text", "[B", true)
  | 1 => ("TypeLoom$Tokens", "keywords", "[J", true)
  | 2 => ("TypeLoom$Tokens", "kinds", "[I", true)
  | 3 => ("TypeLoom$Tokens", "firsts", "[I", true)
  | 4 => ("TypeLoom$Tokens", "lasts", "[I", true)
  | 5 => ("TypeLoom$Tokens", "keys", "[J", true)
  | 6 => ("TypeLoom$Tokens", "textSize", "I", false)
  | _ => ("TypeLoom$Tokens", "size", "I", false)
def tyX7 : Nat → FieldType := fun k => match k with
  | 0 => .array .byte
  | 1 => .array .long
  | 2 => .array .int
  | 3 => .array .int
  | 4 => .array .int
  | 5 => .array .long
  | 6 => .int
  | _ => .int
theorem nmX7 : ∀ a, a < 8 → ∀ b, b < 8 → a ≠ b → (TX7 a).2.1 ≠ (TX7 b).2.1 := by decide +kernel
theorem tyX7_ok : ∀ k, k < 8 → parseFieldDescriptor (TX7 k).2.2.1 = some (tyX7 k) := by decide +kernel
theorem onX7 : ∀ k, k < 8 → (TX7 k).1 = RX7 := by decide +kernel
def RX8 : String := "TypeLoom$Types"
def TX8 : u_T := fun k => match k with
  | 0 => ("TypeLoom$Types", "tags", "[I", false)
  | 1 => ("TypeLoom$Types", "kids", "[I", false)
  | 2 => ("TypeLoom$Types", "links", "[I", false)
  | 3 => ("TypeLoom$Types", "seen", "[I", false)
  | 4 => ("TypeLoom$Types", "notes", "[I", false)
  | 5 => ("TypeLoom$Types", "order", "[I", false)
  | 6 => ("TypeLoom$Types", "path", "[I", false)
  | 7 => ("TypeLoom$Types", "room", "I", false)
  | 8 => ("TypeLoom$Types", "used", "I", false)
  | 9 => ("TypeLoom$Types", "frozen", "I", false)
  | 10 => ("TypeLoom$Types", "gathered", "I", false)
  | _ => ("TypeLoom$Types", "round", "I", false)
def tyX8 : Nat → FieldType := fun k => match k with
  | 0 => .array .int
  | 1 => .array .int
  | 2 => .array .int
  | 3 => .array .int
  | 4 => .array .int
  | 5 => .array .int
  | 6 => .array .int
  | 7 => .int
  | 8 => .int
  | 9 => .int
  | 10 => .int
  | _ => .int
theorem nmX8 : ∀ a, a < 12 → ∀ b, b < 12 → a ≠ b → (TX8 a).2.1 ≠ (TX8 b).2.1 := by decide +kernel
theorem tyX8_ok : ∀ k, k < 12 → parseFieldDescriptor (TX8 k).2.2.1 = some (tyX8 k) := by decide +kernel
theorem onX8 : ∀ k, k < 12 → (TX8 k).1 = RX8 := by decide +kernel
def RX9 : String := "TypeLoom$Writer"
def TX9 : u_T := fun k => match k with
  | 0 => ("TypeLoom$Writer", "types", "LTypeLoom$Types;", true)
  | 1 => ("TypeLoom$Writer", "known", "LTypeLoom$Known;", true)
  | 2 => ("TypeLoom$Writer", "paper", "[B", true)
  | 3 => ("TypeLoom$Writer", "pending", "[I", true)
  | 4 => ("TypeLoom$Writer", "pendingSize", "I", false)
  | 5 => ("TypeLoom$Writer", "size", "I", false)
  | _ => ("TypeLoom$Writer", "marks", "I", false)
def tyX9 : Nat → FieldType := fun k => match k with
  | 0 => .object "TypeLoom$Types"
  | 1 => .object "TypeLoom$Known"
  | 2 => .array .byte
  | 3 => .array .int
  | 4 => .int
  | 5 => .int
  | _ => .int
theorem nmX9 : ∀ a, a < 7 → ∀ b, b < 7 → a ≠ b → (TX9 a).2.1 ≠ (TX9 b).2.1 := by decide +kernel
theorem tyX9_ok : ∀ k, k < 7 → parseFieldDescriptor (TX9 k).2.2.1 = some (tyX9 k) := by decide +kernel
theorem onX9 : ∀ k, k < 7 → (TX9 k).1 = RX9 := by decide +kernel
def RX10 : String := "TypeLoom"
def TX10 : u_T := fun k => match k with
  | 0 => ("TypeLoom", "tape", "[B", true)
  | 1 => ("TypeLoom", "fault", "LTypeLoom$Fault;", true)
  | 2 => ("TypeLoom", "tokens", "LTypeLoom$Tokens;", true)
  | 3 => ("TypeLoom", "types", "LTypeLoom$Types;", true)
  | 4 => ("TypeLoom", "known", "LTypeLoom$Known;", true)
  | 5 => ("TypeLoom", "program", "LTypeLoom$Steps;", true)
  | 6 => ("TypeLoom", "question", "LTypeLoom$Steps;", true)
  | 7 => ("TypeLoom", "parser", "LTypeLoom$Parser;", true)
  | 8 => ("TypeLoom", "checker", "LTypeLoom$Checker;", true)
  | 9 => ("TypeLoom", "writer", "LTypeLoom$Writer;", true)
  | _ => ("TypeLoom", "tapeSize", "I", false)
def tyX10 : Nat → FieldType := fun k => match k with
  | 0 => .array .byte
  | 1 => .object "TypeLoom$Fault"
  | 2 => .object "TypeLoom$Tokens"
  | 3 => .object "TypeLoom$Types"
  | 4 => .object "TypeLoom$Known"
  | 5 => .object "TypeLoom$Steps"
  | 6 => .object "TypeLoom$Steps"
  | 7 => .object "TypeLoom$Parser"
  | 8 => .object "TypeLoom$Checker"
  | 9 => .object "TypeLoom$Writer"
  | _ => .int
theorem nmX10 : ∀ a, a < 11 → ∀ b, b < 11 → a ≠ b → (TX10 a).2.1 ≠ (TX10 b).2.1 := by decide +kernel
theorem tyX10_ok : ∀ k, k < 11 → parseFieldDescriptor (TX10 k).2.2.1 = some (tyX10 k) := by decide +kernel
theorem onX10 : ∀ k, k < 11 → (TX10 k).1 = RX10 := by decide +kernel
def RX11 : String := "TypeLoomModel"
def TX11 : u_T := fun k => match k with
  | 0 => ("TypeLoomModel", "thrown", "I", false)
  | 1 => ("TypeLoomModel", "tape", "[I", true)
  | 2 => ("TypeLoomModel", "length", "I", false)
  | 3 => ("TypeLoomModel", "errorAt", "I", false)
  | 4 => ("TypeLoomModel", "kinds", "[I", true)
  | 5 => ("TypeLoomModel", "froms", "[I", true)
  | 6 => ("TypeLoomModel", "ends", "[I", true)
  | 7 => ("TypeLoomModel", "at", "I", false)
  | 8 => ("TypeLoomModel", "paper", "[I", true)
  | 9 => ("TypeLoomModel", "papered", "I", false)
  | 10 => ("TypeLoomModel", "top", "I", false)
  | 11 => ("TypeLoomModel", "sort", "[I", true)
  | 12 => ("TypeLoomModel", "one", "[I", true)
  | 13 => ("TypeLoomModel", "two", "[I", true)
  | 14 => ("TypeLoomModel", "three", "[I", true)
  | 15 => ("TypeLoomModel", "named", "[I", true)
  | 16 => ("TypeLoomModel", "tour", "I", false)
  | 17 => ("TypeLoomModel", "met", "[I", true)
  | 18 => ("TypeLoomModel", "copies", "[I", true)
  | 19 => ("TypeLoomModel", "waiting", "[I", true)
  | 20 => ("TypeLoomModel", "makings", "I", false)
  | 21 => ("TypeLoomModel", "made", "[I", true)
  | 22 => ("TypeLoomModel", "leaders", "[I", true)
  | 23 => ("TypeLoomModel", "lefts", "[I", true)
  | 24 => ("TypeLoomModel", "rights", "[I", true)
  | 25 => ("TypeLoomModel", "typeInt", "I", false)
  | 26 => ("TypeLoomModel", "typeBool", "I", false)
  | 27 => ("TypeLoomModel", "types", "I", false)
  | 28 => ("TypeLoomModel", "typeNames", "[J", true)
  | 29 => ("TypeLoomModel", "typeMarks", "[I", true)
  | 30 => ("TypeLoomModel", "makers", "I", false)
  | 31 => ("TypeLoomModel", "makerNames", "[J", true)
  | 32 => ("TypeLoomModel", "makerTypes", "[I", true)
  | 33 => ("TypeLoomModel", "makerParts", "[I", true)
  | 34 => ("TypeLoomModel", "defs", "I", false)
  | 35 => ("TypeLoomModel", "defNames", "[J", true)
  | 36 => ("TypeLoomModel", "defTypes", "[I", true)
  | 37 => ("TypeLoomModel", "uses", "[I", true)
  | 38 => ("TypeLoomModel", "nameFst", "J", false)
  | 39 => ("TypeLoomModel", "nameSnd", "J", false)
  | 40 => ("TypeLoomModel", "typeFst", "I", false)
  | 41 => ("TypeLoomModel", "typeSnd", "I", false)
  | 42 => ("TypeLoomModel", "base", "I", false)
  | 43 => ("TypeLoomModel", "nodes", "I", false)
  | 44 => ("TypeLoomModel", "node", "[I", true)
  | 45 => ("TypeLoomModel", "nodeA", "[I", true)
  | 46 => ("TypeLoomModel", "nodeB", "[I", true)
  | 47 => ("TypeLoomModel", "nodeC", "[I", true)
  | 48 => ("TypeLoomModel", "nodeNext", "[I", true)
  | 49 => ("TypeLoomModel", "nodeFrom", "[I", true)
  | 50 => ("TypeLoomModel", "nodeUntil", "[I", true)
  | 51 => ("TypeLoomModel", "nodeType", "[I", true)
  | 52 => ("TypeLoomModel", "programNodes", "I", false)
  | 53 => ("TypeLoomModel", "bound", "I", false)
  | 54 => ("TypeLoomModel", "boundNames", "[J", true)
  | 55 => ("TypeLoomModel", "boundTypes", "[I", true)
  | 56 => ("TypeLoomModel", "boundLets", "[I", true)
  | 57 => ("TypeLoomModel", "ownDef", "I", false)
  | 58 => ("TypeLoomModel", "ownName", "J", false)
  | 59 => ("TypeLoomModel", "ownType", "I", false)
  | 60 => ("TypeLoomModel", "error", "I", false)
  | 61 => ("TypeLoomModel", "marksNow", "[I", true)
  | 62 => ("TypeLoomModel", "areAllKnown", "Z", false)
  | 63 => ("TypeLoomModel", "freezing", "I", false)
  | 64 => ("TypeLoomModel", "frozenAt", "[I", true)
  | 65 => ("TypeLoomModel", "frozenAs", "[I", true)
  | 66 => ("TypeLoomModel", "nodeName", "[J", true)
  | 67 => ("TypeLoomModel", "written", "I", false)
  | 68 => ("TypeLoomModel", "writtenTypes", "[I", true)
  | 69 => ("TypeLoomModel", "draft", "[I", true)
  | _ => ("TypeLoomModel", "drafted", "I", false)
def tyX11 : Nat → FieldType := fun k => match k with
  | 0 => .int
  | 1 => .array .int
  | 2 => .int
  | 3 => .int
  | 4 => .array .int
  | 5 => .array .int
  | 6 => .array .int
  | 7 => .int
  | 8 => .array .int
  | 9 => .int
  | 10 => .int
  | 11 => .array .int
  | 12 => .array .int
  | 13 => .array .int
  | 14 => .array .int
  | 15 => .array .int
  | 16 => .int
  | 17 => .array .int
  | 18 => .array .int
  | 19 => .array .int
  | 20 => .int
  | 21 => .array .int
  | 22 => .array .int
  | 23 => .array .int
  | 24 => .array .int
  | 25 => .int
  | 26 => .int
  | 27 => .int
  | 28 => .array .long
  | 29 => .array .int
  | 30 => .int
  | 31 => .array .long
  | 32 => .array .int
  | 33 => .array .int
  | 34 => .int
  | 35 => .array .long
  | 36 => .array .int
  | 37 => .array .int
  | 38 => .long
  | 39 => .long
  | 40 => .int
  | 41 => .int
  | 42 => .int
  | 43 => .int
  | 44 => .array .int
  | 45 => .array .int
  | 46 => .array .int
  | 47 => .array .int
  | 48 => .array .int
  | 49 => .array .int
  | 50 => .array .int
  | 51 => .array .int
  | 52 => .int
  | 53 => .int
  | 54 => .array .long
  | 55 => .array .int
  | 56 => .array .int
  | 57 => .int
  | 58 => .long
  | 59 => .int
  | 60 => .int
  | 61 => .array .int
  | 62 => .boolean
  | 63 => .int
  | 64 => .array .int
  | 65 => .array .int
  | 66 => .array .long
  | 67 => .int
  | 68 => .array .int
  | 69 => .array .int
  | _ => .int
theorem nmX11 : ∀ a, a < 71 → ∀ b, b < 71 → a ≠ b → (TX11 a).2.1 ≠ (TX11 b).2.1 := by decide +kernel
theorem tyX11_ok : ∀ k, k < 71 → parseFieldDescriptor (TX11 k).2.2.1 = some (tyX11 k) := by decide +kernel
theorem onX11 : ∀ k, k < 71 → (TX11 k).1 = RX11 := by decide +kernel
def mi_cl : List vw_C := [(RX0, TX0, 12), (RX1, TX1, 2), (RX2, TX2, 11), (RX3, TX3, 15), (RX4, TX4, 4), (RX5, TX5, 4), (RX6, TX6, 8), (RX7, TX7, 8), (RX8, TX8, 12), (RX9, TX9, 7), (RX10, TX10, 11), (RX11, TX11, 71)]
def mi_ty : Nat → Nat → FieldType := fun c => match c with
  | 0 => tyX0
  | 1 => tyX1
  | 2 => tyX2
  | 3 => tyX3
  | 4 => tyX4
  | 5 => tyX5
  | 6 => tyX6
  | 7 => tyX7
  | 8 => tyX8
  | 9 => tyX9
  | 10 => tyX10
  | _ => tyX11
def mi_on : Nat → String := fun c => match c with
  | 0 => "TypeLoom$Checker"
  | 1 => "TypeLoom$Fault"
  | 2 => "TypeLoom$Forms"
  | 3 => "TypeLoom$Known"
  | 4 => "TypeLoom$Parser"
  | 5 => "TypeLoom$Scope"
  | 6 => "TypeLoom$Steps"
  | 7 => "TypeLoom$Tokens"
  | 8 => "TypeLoom$Types"
  | 9 => "TypeLoom$Writer"
  | 10 => "TypeLoom"
  | 11 => "TypeLoomModel"
  | 12 => "TypeLoomLaw"
  | 13 => "java/lang/String"
  | 14 => "java/lang/StringLatin1"
  | 15 => "java/util/Arrays"
  | _ => "jdk/internal/util/Preconditions"
def mi_oS : Nat := 13
def mi_fl : Nat → List (Nat × Nat × Nat) := fun o => match o with
  | 0 => [(10, 0, 5), (16, 0, 0), (20, 0, 2), (24, 0, 3), (28, 0, 6), (38, 0, 1), (44, 0, 4), (91, 0, 7), (97, 0, 9), (100, 0, 10)]
  | 1 => [(7, 1, 1), (13, 1, 0)]
  | 2 => [(9, 2, 4), (13, 2, 5), (18, 2, 6), (21, 2, 0), (25, 2, 1), (29, 2, 2), (33, 2, 3)]
  | 3 => [(9, 3, 1), (13, 3, 2), (17, 3, 3), (20, 3, 4), (23, 3, 5), (26, 3, 6), (29, 3, 7), (32, 3, 8), (35, 3, 0), (70, 3, 9), (74, 3, 10), (83, 3, 11), (86, 3, 12), (89, 3, 13), (105, 3, 14)]
  | 4 => [(7, 4, 0), (13, 4, 1), (17, 4, 2), (53, 4, 3)]
  | 5 => [(9, 5, 0), (15, 5, 1), (19, 5, 2), (23, 5, 3)]
  | 6 => [(9, 6, 0), (13, 6, 1), (16, 6, 2), (19, 6, 3), (22, 6, 4), (25, 6, 5), (28, 6, 6), (31, 6, 7)]
  | 7 => [(9, 7, 1), (13, 7, 2), (17, 7, 3), (20, 7, 4), (23, 7, 5), (26, 7, 0), (51, 7, 6), (55, 7, 7)]
  | 8 => [(9, 8, 0), (13, 8, 1), (16, 8, 2), (19, 8, 3), (22, 8, 4), (25, 8, 5), (28, 8, 6), (31, 8, 7), (35, 8, 8), (38, 8, 9)]
  | 9 => [(9, 9, 2), (13, 9, 3), (17, 9, 0), (21, 9, 1), (25, 9, 5)]
  | 10 => [(9, 10, 0), (16, 10, 1), (25, 10, 2), (32, 10, 3), (41, 10, 4), (48, 10, 5), (52, 10, 6), (60, 10, 7), (69, 10, 8), (78, 10, 9), (82, 10, 10), (125, 1, 0), (128, 1, 1)]
  | 11 => [(9, 11, 1), (13, 11, 3), (17, 11, 4), (20, 11, 5), (23, 11, 6), (26, 11, 8), (30, 11, 11), (33, 11, 12), (36, 11, 13), (39, 11, 14), (42, 11, 15), (45, 11, 17), (48, 11, 18), (51, 11, 19), (54, 11, 21), (57, 11, 22), (60, 11, 23), (63, 11, 24), (66, 11, 28), (70, 11, 29), (73, 11, 31), (76, 11, 32), (79, 11, 33), (82, 11, 35), (85, 11, 36), (88, 11, 37), (91, 11, 44), (94, 11, 45), (97, 11, 46), (100, 11, 47), (103, 11, 48), (106, 11, 49), (109, 11, 50), (112, 11, 51), (115, 11, 54), (118, 11, 55), (121, 11, 56), (124, 11, 61), (127, 11, 64), (130, 11, 65), (133, 11, 66), (136, 11, 68), (139, 11, 69), (145, 11, 0), (148, 11, 10), (159, 11, 25), (162, 11, 26), (165, 11, 27), (178, 11, 30), (191, 11, 38), (197, 11, 39), (203, 11, 40), (206, 11, 41), (209, 11, 34), (212, 11, 43), (215, 11, 52), (218, 11, 42), (221, 11, 16), (247, 11, 2), (305, 11, 7), (411, 11, 60), (474, 11, 57), (486, 11, 53), (572, 11, 9)]
  | _ => []
def mi_nf : Nat → List (Nat × Nat × Nat) := fun o => match o with
  | 0 => [(32, 3, 0)]
  | _ => []
def mi_ml : Nat → List (Nat × Nat) := fun o => match o with
  | 0 => [(1, 1000000), (41, 27), (48, 21), (51, 56), (57, 25), (88, 52)]
  | 1 => [(1, 1000000)]
  | 2 => [(1, 1000000)]
  | 3 => [(1, 1000000), (41, 35), (49, 72), (55, 71), (63, 69), (67, 73), (77, 70), (80, 68), (92, 138), (97, 134), (101, 66), (108, 140), (125, 33)]
  | 4 => [(1, 1000000), (21, 47), (25, 41), (30, 25), (36, 42), (40, 50), (44, 39), (48, 54), (57, 60), (60, 62), (63, 26), (67, 40), (118, 46), (133, 49), (136, 43), (139, 38), (142, 37), (145, 48)]
  | 5 => [(1, 1000000)]
  | 6 => [(3, 1000000)]
  | 7 => [(1, 1000000), (32, 138), (38, 134), (42, 1000002), (48, 1000003), (58, 61), (62, 64), (65, 60), (68, 59), (71, 58)]
  | 8 => [(1, 1000000), (48, 71)]
  | 9 => [(1, 1000000)]
  | 10 => [(1, 1000000), (22, 57), (31, 65), (38, 28), (57, 36), (66, 20), (75, 74), (93, 2), (102, 11), (105, 24), (108, 63), (111, 44), (115, 22), (118, 25), (122, 70), (136, 1), (140, 31), (154, 75), (158, 32), (166, 55), (196, 67), (202, 45), (206, 62), (209, 26), (213, 29), (220, 54), (221, 30), (224, 34), (227, 33)]
  | 11 => [(1, 1000000), (142, 111), (151, 128), (170, 116), (174, 101), (185, 100), (200, 118), (250, 117), (253, 107), (257, 125), (267, 109), (271, 106), (274, 105), (280, 1000002), (285, 138), (287, 134), (295, 102), (301, 112), (308, 122), (316, 108), (319, 110), (323, 124), (343, 98), (384, 123), (389, 119), (396, 91), (403, 89), (406, 103), (424, 133), (563, 121), (566, 120), (575, 94), (613, 104)]
  | 12 => [(7, 10), (15, 15), (21, 6), (26, 17), (29, 19), (32, 18), (35, 4), (38, 13), (42, 16), (45, 7), (49, 14), (52, 0), (55, 87), (56, 79), (61, 99), (62, 126), (66, 82), (69, 127), (70, 5), (73, 92), (74, 9), (77, 97), (78, 77), (80, 93), (81, 84), (83, 130), (84, 86), (86, 132), (87, 85), (89, 131), (90, 76), (92, 90), (93, 80), (96, 114), (97, 83), (99, 129), (100, 78), (102, 95), (103, 81), (105, 115), (106, 3), (109, 88), (110, 12), (114, 113), (115, 8), (119, 96)]
  | 13 => [(335, 136), (492, 137), (495, 139), (1059, 141)]
  | 14 => [(9, 135)]
  | _ => []
def mi_nm : Nat → List (Nat × Nat) := fun o => match o with
  | 0 => [(9, 51)]
  | 10 => [(15, 23), (47, 53)]
  | _ => []
def mi_kl : Nat → List (Nat × Nat) := fun o => match o with
  | 0 => [(7, 5), (39, 2)]
  | 10 => [(13, 1), (20, 7), (29, 8), (36, 3), (45, 6), (55, 4), (64, 0), (73, 9)]
  | 12 => [(8, 10), (53, 11)]
  | _ => []
def mi_xl : Nat → List (Nat × Nat) := fun o => match o with
  | 10 => [(86, 0), (97, 1), (131, 2)]
  | 12 => [(13, 0), (19, 1), (24, 2)]
  | _ => []
def mi_il : Nat → List (Nat × Int32) := fun o => match o with
  | 6 => [(43, 2147483647)]
  | 8 => [(41, 131072)]
  | 11 => [(29, 90000)]
  | _ => []
def mi_jl : Nat → List (Nat × Int64) := fun o => match o with
  | 10 => [(216, 409), (218, 31)]
  | 11 => [(299, 64), (634, 409), (636, 31)]
  | _ => []
def mi_sl : Nat → List (Nat × Nat) := fun o => match o with
  | 3 => [(39, 1), (45, 2), (47, 3), (59, 4), (61, 5)]
  | 7 => [(30, 0)]
  | 10 => [(88, 11), (99, 12), (133, 13), (144, 14), (152, 15), (161, 16), (169, 17), (174, 18), (179, 19)]
  | 11 => [(168, 20), (181, 21), (183, 22), (189, 23), (195, 24), (322, 26), (329, 27), (334, 33), (336, 34), (338, 35), (354, 28), (356, 31), (361, 29), (363, 30), (365, 36), (367, 37), (369, 38), (370, 39), (372, 40), (374, 41), (376, 42), (378, 43), (383, 44), (387, 50), (392, 48), (394, 49), (399, 45), (401, 46), (409, 47)]
  | _ => []
def mi_sf : Nat → List (Nat × Nat) := fun o => match o with
  | 13 => [(9, 0), (15, 1)]
  | _ => []
def mi_gl : Nat → List (Nat × Nat) := fun o => match o with
  | 11 => [(291, 0)]
  | 13 => [(38, 2), (1053, 1)]
  | _ => []
/- statics: [('TypeLoomModel', 'KEYWORDS', '[Ljava/lang/String;'), ('jdk/internal/util/Preconditions', 'SIOOBE_FORMATTER', 'Ljava/util/function/BiFunction;'), ('java/lang/String', 'COMPACT_STRINGS', 'Z')] -/
def mi_st_ : List (String × String × String) := [("TypeLoomModel", "KEYWORDS", "[Ljava/lang/String;"), ("jdk/internal/util/Preconditions", "SIOOBE_FORMATTER", "Ljava/util/function/BiFunction;"), ("java/lang/String", "COMPACT_STRINGS", "Z")]
def mi_nS : Nat := 55
def mi_sw : List (String × Nat × String) := [("TypeLoom$Tokens", 30, "type def let in fun if then else case of end true false "), ("TypeLoom$Known", 39, "int"), ("TypeLoom$Known", 45, "bool"), ("TypeLoom$Known", 47, "list"), ("TypeLoom$Known", 59, "Nil"), ("TypeLoom$Known", 61, "Cons"), ("TypeLoom$Tokens", 98, "(),;:=|+-*<"), ("TypeLoom$Writer", 110, "int"), ("TypeLoom$Writer", 116, "bool"), ("TypeLoom$Writer", 124, " * "), ("TypeLoom$Writer", 129, " -> "), ("TypeLoom", 88, "the tape has no room for twenty bytes"), ("TypeLoom", 99, "the tape does not have so many bytes"), ("TypeLoom", 133, "there is nothing of this number to count"), ("TypeLoom", 144, "there is no such definition"), ("TypeLoom", 152, "the type is too long for the paper"), ("TypeLoom", 161, "there is no such constructor"), ("TypeLoom", 169, "no expression is there"), ("TypeLoom", 174, "there is no such place on the paper"), ("TypeLoom", 179, "there is no such definition or measure"), ("TypeLoomModel", 168, "list"), ("TypeLoomModel", 181, "Nil"), ("TypeLoomModel", 183, "Cons"), ("TypeLoomModel", 189, "fst"), ("TypeLoomModel", 195, "snd"), ("TypeLoomModel", 260, "(),;:=|+-*<"), ("TypeLoomModel", 322, "type"), ("TypeLoomModel", 329, "="), ("TypeLoomModel", 354, "("), ("TypeLoomModel", 361, "*"), ("TypeLoomModel", 363, "->"), ("TypeLoomModel", 356, ")"), ("TypeLoomModel", 352, "|"), ("TypeLoomModel", 334, ";"), ("TypeLoomModel", 336, "def"), ("TypeLoomModel", 338, ":"), ("TypeLoomModel", 365, "let"), ("TypeLoomModel", 367, "in"), ("TypeLoomModel", 369, "fun"), ("TypeLoomModel", 370, "if"), ("TypeLoomModel", 372, "then"), ("TypeLoomModel", 374, "else"), ("TypeLoomModel", 376, "case"), ("TypeLoomModel", 378, "of"), ("TypeLoomModel", 383, "end"), ("TypeLoomModel", 399, "true"), ("TypeLoomModel", 401, "false"), ("TypeLoomModel", 409, ","), ("TypeLoomModel", 392, "+"), ("TypeLoomModel", 394, "-"), ("TypeLoomModel", 387, "<"), ("TypeLoomModel", 427, "int"), ("TypeLoomModel", 429, "bool"), ("TypeLoomModel", 597, " * "), ("TypeLoomModel", 599, " -> ")]
def mi_byt : List (List Int32) := [[116, 121, 112, 101, 32, 100, 101, 102, 32, 108, 101, 116, 32, 105, 110, 32, 102, 117, 110, 32, 105, 102, 32, 116, 104, 101, 110, 32, 101, 108, 115, 101, 32, 99, 97, 115, 101, 32, 111, 102, 32, 101, 110, 100, 32, 116, 114, 117, 101, 32, 102, 97, 108, 115, 101, 32], [105, 110, 116], [98, 111, 111, 108], [108, 105, 115, 116], [78, 105, 108], [67, 111, 110, 115], [40, 41, 44, 59, 58, 61, 124, 43, 45, 42, 60], [105, 110, 116], [98, 111, 111, 108], [32, 42, 32], [32, 45, 62, 32], [116, 104, 101, 32, 116, 97, 112, 101, 32, 104, 97, 115, 32, 110, 111, 32, 114, 111, 111, 109, 32, 102, 111, 114, 32, 116, 119, 101, 110, 116, 121, 32, 98, 121, 116, 101, 115], [116, 104, 101, 32, 116, 97, 112, 101, 32, 100, 111, 101, 115, 32, 110, 111, 116, 32, 104, 97, 118, 101, 32, 115, 111, 32, 109, 97, 110, 121, 32, 98, 121, 116, 101, 115], [116, 104, 101, 114, 101, 32, 105, 115, 32, 110, 111, 116, 104, 105, 110, 103, 32, 111, 102, 32, 116, 104, 105, 115, 32, 110, 117, 109, 98, 101, 114, 32, 116, 111, 32, 99, 111, 117, 110, 116], [116, 104, 101, 114, 101, 32, 105, 115, 32, 110, 111, 32, 115, 117, 99, 104, 32, 100, 101, 102, 105, 110, 105, 116, 105, 111, 110], [116, 104, 101, 32, 116, 121, 112, 101, 32, 105, 115, 32, 116, 111, 111, 32, 108, 111, 110, 103, 32, 102, 111, 114, 32, 116, 104, 101, 32, 112, 97, 112, 101, 114], [116, 104, 101, 114, 101, 32, 105, 115, 32, 110, 111, 32, 115, 117, 99, 104, 32, 99, 111, 110, 115, 116, 114, 117, 99, 116, 111, 114], [110, 111, 32, 101, 120, 112, 114, 101, 115, 115, 105, 111, 110, 32, 105, 115, 32, 116, 104, 101, 114, 101], [116, 104, 101, 114, 101, 32, 105, 115, 32, 110, 111, 32, 115, 117, 99, 104, 32, 112, 108, 97, 99, 101, 32, 111, 110, 32, 116, 104, 101, 32, 112, 97, 112, 101, 114], [116, 104, 101, 114, 101, 32, 105, 115, 32, 110, 111, 32, 115, 117, 99, 104, 32, 100, 101, 102, 105, 110, 105, 116, 105, 111, 110, 32, 111, 114, 32, 109, 101, 97, 115, 117, 114, 101], [108, 105, 115, 116], [78, 105, 108], [67, 111, 110, 115], [102, 115, 116], [115, 110, 100], [40, 41, 44, 59, 58, 61, 124, 43, 45, 42, 60], [116, 121, 112, 101], [61], [40], [42], [45, 62], [41], [124], [59], [100, 101, 102], [58], [108, 101, 116], [105, 110], [102, 117, 110], [105, 102], [116, 104, 101, 110], [101, 108, 115, 101], [99, 97, 115, 101], [111, 102], [101, 110, 100], [116, 114, 117, 101], [102, 97, 108, 115, 101], [44], [43], [45], [60], [105, 110, 116], [98, 111, 111, 108], [32, 42, 32], [32, 45, 62, 32]]
def mi_xn : Nat → String := fun x => match x with
  | 0 => "java/lang/IllegalStateException"
  | 1 => "java/lang/IllegalArgumentException"
  | _ => "java/lang/IndexOutOfBoundsException"
abbrev mi_M : Type := MethodName × ByteArray × Nat × Option FieldType × Nat × Nat × Nat × List (Nat × Instr × Nat) × List (Nat × Nat × Nat × Nat × Nat × Bool) × List (Nat × Nat × Nat × Nat)
def mi_q0 : List (Nat × Instr × Nat) := [(0, .aload_n 0, 1), (1, .invokespecial 1, 3), (4, .aload_n 0, 1), (5, .sipush 1200, 3), (8, .newarray .byte, 2), (10, .putfield 9, 3), (13, .aload_n 0, 1), (14, .new 13, 3), (17, .dup, 1), (18, .invokespecial 15, 3), (21, .putfield 16, 3), (24, .aload_n 0, 1), (25, .new 20, 3), (28, .dup, 1), (29, .aload_n 0, 1), (30, .getfield 9, 3), (33, .invokespecial 22, 3), (36, .putfield 25, 3), (39, .aload_n 0, 1), (40, .new 29, 3), (43, .dup, 1), (44, .invokespecial 31, 3), (47, .putfield 32, 3), (50, .aload_n 0, 1), (51, .new 36, 3), (54, .dup, 1), (55, .aload_n 0, 1), (56, .getfield 32, 3), (59, .invokespecial 38, 3), (62, .putfield 41, 3), (65, .aload_n 0, 1), (66, .new 45, 3), (69, .dup, 1), (70, .invokespecial 47, 3), (73, .putfield 48, 3), (76, .aload_n 0, 1), (77, .new 45, 3), (80, .dup, 1), (81, .invokespecial 47, 3), (84, .putfield 52, 3), (87, .aload_n 0, 1), (88, .new 55, 3), (91, .dup, 1), (92, .aload_n 0, 1), (93, .getfield 25, 3), (96, .aload_n 0, 1), (97, .getfield 16, 3), (100, .aload_n 0, 1), (101, .getfield 48, 3), (104, .invokespecial 57, 3), (107, .putfield 60, 3), (110, .aload_n 0, 1), (111, .new 64, 3), (114, .dup, 1), (115, .aload_n 0, 1), (116, .getfield 25, 3), (119, .aload_n 0, 1), (120, .getfield 41, 3), (123, .aload_n 0, 1), (124, .getfield 16, 3), (127, .aload_n 0, 1), (128, .getfield 48, 3), (131, .invokespecial 66, 3), (134, .putfield 69, 3), (137, .aload_n 0, 1), (138, .new 73, 3), (141, .dup, 1), (142, .aload_n 0, 1), (143, .getfield 32, 3), (146, .aload_n 0, 1), (147, .getfield 41, 3), (150, .invokespecial 75, 3), (153, .putfield 78, 3), (156, .aload_n 0, 1), (157, .iconst 0, 1), (158, .putfield 82, 3), (161, .return_, 1)]
def mi_M0 : mi_M := (⟨"TypeLoom", "<init>", "()V"⟩, prog_1_method_1_code, 1, none, 10, 2, 0, mi_q0, [], [])
def mi_q1 : List (Nat × Instr × Nat) := [(0, .iload_n 1, 1), (1, .tableswitch 60 0 3 #[31, 39, 47, 55], 31), (32, .aload_n 0, 1), (33, .getfield 41, 3), (36, .invokevirtual 224, 3), (39, .ireturn, 1), (40, .aload_n 0, 1), (41, .getfield 41, 3), (44, .invokevirtual 227, 3), (47, .ireturn, 1), (48, .aload_n 0, 1), (49, .getfield 41, 3), (52, .invokevirtual 213, 3), (55, .ireturn, 1), (56, .aload_n 0, 1), (57, .getfield 82, 3), (60, .ireturn, 1), (61, .aload_n 0, 1), (62, .getfield 78, 3), (65, .invokevirtual 154, 3), (68, .ireturn, 1)]
def mi_M1 : mi_M := (⟨"TypeLoom", "amountOf", "(I)I"⟩, prog_1_method_20_code, 2, (some .int), 10, 1, 1, mi_q1, [], [])
def mi_q2 : List (Nat × Instr × Nat) := [(0, .bipush 24, 2), (2, .istore_n 2, 1), (3, .iload_n 2, 1), (4, .ifCond .lt 42, 3), (7, .aload_n 0, 1), (8, .getfield 82, 3), (11, .sipush 1200, 3), (14, .if_icmp .ge 26, 3), (17, .aload_n 0, 1), (18, .getfield 9, 3), (21, .aload_n 0, 1), (22, .getfield 82, 3), (25, .iload_n 1, 1), (26, .iload_n 2, 1), (27, .ishr, 1), (28, .i2b, 1), (29, .bastore, 1), (30, .aload_n 0, 1), (31, .dup, 1), (32, .getfield 82, 3), (35, .iconst 1, 1), (36, .iadd, 1), (37, .putfield 82, 3), (40, .iinc 2 (-8), 3), (43, .goto (-40), 3), (46, .return_, 1)]
def mi_M2 : mi_M := (⟨"TypeLoom", "append", "(I)V"⟩, prog_1_method_18_code, 3, none, 10, 1, 1, mi_q2, [], [])
def mi_q3 : List (Nat × Instr × Nat) := [(0, .aload_n 0, 1), (1, .getfield 16, 3), (4, .invokevirtual 105, 3), (7, .aload_n 0, 1), (8, .getfield 25, 3), (11, .aload_n 0, 1), (12, .getfield 82, 3), (15, .invokevirtual 108, 3), (18, .aload_n 0, 1), (19, .iconst 0, 1), (20, .putfield 82, 3), (23, .aload_n 0, 1), (24, .getfield 60, 3), (27, .aload_n 0, 1), (28, .getfield 52, 3), (31, .invokevirtual 202, 3), (34, .istore_n 1, 1), (35, .aload_n 0, 1), (36, .getfield 69, 3), (39, .aload_n 0, 1), (40, .getfield 52, 3), (43, .invokevirtual 115, 3), (46, .aload_n 0, 1), (47, .getfield 16, 3), (50, .invokevirtual 118, 3), (53, .ifCond .ne 38, 3), (56, .aload_n 0, 1), (57, .getfield 78, 3), (60, .aload_n 0, 1), (61, .getfield 52, 3), (64, .iload_n 1, 1), (65, .invokevirtual 171, 3), (68, .invokevirtual 149, 3), (71, .ifCond .ne 20, 3), (74, .aload_n 0, 1), (75, .getfield 16, 3), (78, .bipush 9, 2), (80, .aload_n 0, 1), (81, .getfield 25, 3), (84, .iconst 0, 1), (85, .invokevirtual 206, 3), (88, .invokevirtual 209, 3), (91, .aload_n 0, 1), (92, .getfield 32, 3), (95, .invokevirtual 196, 3), (98, .aload_n 0, 1), (99, .getfield 16, 3), (102, .getfield 125, 3), (105, .ireturn, 1)]
def mi_M3 : mi_M := (⟨"TypeLoom", "ask", "()I"⟩, prog_1_method_15_code, 2, (some .int), 10, 1, 0, mi_q3, [], [])
def mi_q4 : List (Nat × Instr × Nat) := [(0, .iload_n 1, 1), (1, .ifCond .lt 14, 3), (4, .iload_n 1, 1), (5, .aload_n 0, 1), (6, .getfield 78, 3), (9, .invokevirtual 154, 3), (12, .if_icmp .lt 13, 3), (15, .new 131, 3), (18, .dup, 1), (19, .ldc 174, 2), (21, .invokespecial 135, 3), (24, .athrow, 1), (25, .aload_n 0, 1), (26, .getfield 78, 3), (29, .iload_n 1, 1), (30, .invokevirtual 176, 3), (33, .ireturn, 1)]
def mi_M4 : mi_M := (⟨"TypeLoom", "byteAt", "(I)I"⟩, prog_1_method_10_code, 2, (some .int), 10, 1, 1, mi_q4, [(15, 2, 131, 174, 135, false)], [])
def mi_q5 : List (Nat × Instr × Nat) := [(0, .aload_n 0, 1), (1, .invokevirtual 102, 3), (4, .aload_n 0, 1), (5, .getfield 16, 3), (8, .invokevirtual 105, 3), (11, .aload_n 0, 1), (12, .getfield 25, 3), (15, .aload_n 0, 1), (16, .getfield 82, 3), (19, .invokevirtual 108, 3), (22, .aload_n 0, 1), (23, .iconst 0, 1), (24, .putfield 82, 3), (27, .aload_n 0, 1), (28, .getfield 60, 3), (31, .aload_n 0, 1), (32, .getfield 48, 3), (35, .invokevirtual 111, 3), (38, .aload_n 0, 1), (39, .getfield 69, 3), (42, .aload_n 0, 1), (43, .getfield 48, 3), (46, .invokevirtual 115, 3), (49, .aload_n 0, 1), (50, .getfield 16, 3), (53, .invokevirtual 118, 3), (56, .ifCond .eq 10, 3), (59, .aload_n 0, 1), (60, .invokevirtual 102, 3), (63, .goto 10, 3), (66, .aload_n 0, 1), (67, .getfield 32, 3), (70, .invokevirtual 122, 3), (73, .aload_n 0, 1), (74, .getfield 16, 3), (77, .getfield 125, 3), (80, .ireturn, 1)]
def mi_M5 : mi_M := (⟨"TypeLoom", "compile", "()I"⟩, prog_1_method_4_code, 1, (some .int), 10, 1, 0, mi_q5, [], [])
def mi_q6 : List (Nat × Instr × Nat) := [(0, .iload_n 1, 1), (1, .ifCond .lt 8, 3), (4, .iload_n 1, 1), (5, .iconst 5, 1), (6, .if_icmp .lt 13, 3), (9, .new 131, 3), (12, .dup, 1), (13, .ldc 133, 2), (15, .invokespecial 135, 3), (18, .athrow, 1), (19, .aload_n 0, 1), (20, .iload_n 1, 1), (21, .invokevirtual 136, 3), (24, .ireturn, 1)]
def mi_M6 : mi_M := (⟨"TypeLoom", "count", "(I)I"⟩, prog_1_method_6_code, 2, (some .int), 10, 1, 1, mi_q6, [(9, 2, 131, 133, 135, false)], [])
def mi_q7 : List (Nat × Instr × Nat) := [(0, .aload_n 0, 1), (1, .getfield 41, 3), (4, .iload_n 1, 1), (5, .invokevirtual 140, 3), (8, .ifCond .eq 14, 3), (11, .aload_n 0, 1), (12, .getfield 41, 3), (15, .iload_n 2, 1), (16, .invokevirtual 140, 3), (19, .ifCond .ne 13, 3), (22, .new 131, 3), (25, .dup, 1), (26, .ldc 144, 2), (28, .invokespecial 135, 3), (31, .athrow, 1), (32, .aload_n 0, 1), (33, .getfield 32, 3), (36, .aload_n 0, 1), (37, .getfield 41, 3), (40, .iload_n 1, 1), (41, .invokevirtual 146, 3), (44, .iconst 0, 1), (45, .invokevirtual 188, 3), (48, .istore_n 3, 1), (49, .aload_n 0, 1), (50, .getfield 32, 3), (53, .aload_n 0, 1), (54, .getfield 41, 3), (57, .iload_n 2, 1), (58, .invokevirtual 146, 3), (61, .iconst 1, 1), (62, .invokevirtual 188, 3), (65, .istore 4, 2), (67, .aload_n 0, 1), (68, .getfield 32, 3), (71, .iload_n 3, 1), (72, .iload 4, 2), (74, .invokevirtual 192, 3), (77, .istore 5, 2), (79, .aload_n 0, 1), (80, .getfield 32, 3), (83, .invokevirtual 196, 3), (86, .iload 5, 2), (88, .ireturn, 1)]
def mi_M7 : mi_M := (⟨"TypeLoom", "covers", "(II)Z"⟩, prog_1_method_13_code, 6, (some .boolean), 10, 1, 2, mi_q7, [(22, 2, 131, 144, 135, false)], [])
def mi_q8 : List (Nat × Instr × Nat) := [(0, .ldc2_w 216, 3), (3, .lstore_n 1, 1), (4, .iconst 0, 1), (5, .istore_n 3, 1), (6, .iload_n 3, 1), (7, .iconst 5, 1), (8, .if_icmp .ge 22, 3), (11, .lload_n 1, 1), (12, .ldc2_w 218, 3), (15, .lmul, 1), (16, .aload_n 0, 1), (17, .iload_n 3, 1), (18, .invokevirtual 136, 3), (21, .i2l, 1), (22, .ladd, 1), (23, .lstore_n 1, 1), (24, .iinc 3 1, 3), (27, .goto (-21), 3), (30, .aload_n 0, 1), (31, .getfield 41, 3), (34, .invokevirtual 213, 3), (37, .istore_n 3, 1), (38, .iconst 0, 1), (39, .istore 4, 2), (41, .iload 4, 2), (43, .iload_n 3, 1), (44, .if_icmp .ge 74, 3), (47, .iconst 0, 1), (48, .istore 5, 2), (50, .iload 5, 2), (52, .iconst 3, 1), (53, .if_icmp .ge 25, 3), (56, .lload_n 1, 1), (57, .ldc2_w 218, 3), (60, .lmul, 1), (61, .aload_n 0, 1), (62, .iload 4, 2), (64, .iload 5, 2), (66, .invokevirtual 181, 3), (69, .i2l, 1), (70, .ladd, 1), (71, .lstore_n 1, 1), (72, .iinc 5 1, 3), (75, .goto (-25), 3), (78, .iconst 0, 1), (79, .istore 5, 2), (81, .iload 5, 2), (83, .iload_n 3, 1), (84, .if_icmp .ge 28, 3), (87, .lload_n 1, 1), (88, .ldc2_w 218, 3), (91, .lmul, 1), (92, .aload_n 0, 1), (93, .getfield 41, 3), (96, .iload 4, 2), (98, .iload 5, 2), (100, .invokevirtual 185, 3), (103, .i2l, 1), (104, .ladd, 1), (105, .lstore_n 1, 1), (106, .iinc 5 1, 3), (109, .goto (-28), 3), (112, .iinc 4 1, 3), (115, .goto (-74), 3), (118, .iconst 0, 1), (119, .istore 4, 2), (121, .iload 4, 2), (123, .aload_n 0, 1), (124, .getfield 78, 3), (127, .invokevirtual 154, 3), (130, .if_icmp .ge 26, 3), (133, .lload_n 1, 1), (134, .ldc2_w 218, 3), (137, .lmul, 1), (138, .aload_n 0, 1), (139, .getfield 78, 3), (142, .iload 4, 2), (144, .invokevirtual 176, 3), (147, .i2l, 1), (148, .ladd, 1), (149, .lstore_n 1, 1), (150, .iinc 4 1, 3), (153, .goto (-32), 3), (156, .lload_n 1, 1), (157, .lreturn, 1)]
def mi_M8 : mi_M := (⟨"TypeLoom", "digest", "()J"⟩, prog_1_method_17_code, 6, (some .long), 10, 1, 0, mi_q8, [], [])
def mi_q9 : List (Nat × Instr × Nat) := [(0, .aload_n 0, 1), (1, .getfield 16, 3), (4, .getfield 128, 3), (7, .ireturn, 1)]
def mi_M9 : mi_M := (⟨"TypeLoom", "errorAt", "()I"⟩, prog_1_method_5_code, 1, (some .int), 10, 1, 0, mi_q9, [], [])
def mi_q10 : List (Nat × Instr × Nat) := [(0, .aload_n 0, 1), (1, .getfield 82, 3), (4, .bipush 20, 2), (6, .iadd, 1), (7, .sipush 1200, 3), (10, .if_icmp .le 13, 3), (13, .new 86, 3), (16, .dup, 1), (17, .ldc 88, 2), (19, .invokespecial 90, 3), (22, .athrow, 1), (23, .aload_n 0, 1), (24, .iload_n 1, 1), (25, .invokevirtual 93, 3), (28, .aload_n 0, 1), (29, .iload_n 2, 1), (30, .invokevirtual 93, 3), (33, .aload_n 0, 1), (34, .iload_n 3, 1), (35, .invokevirtual 93, 3), (38, .aload_n 0, 1), (39, .iload 4, 2), (41, .invokevirtual 93, 3), (44, .aload_n 0, 1), (45, .iload 5, 2), (47, .invokevirtual 93, 3), (50, .aload_n 0, 1), (51, .getfield 82, 3), (54, .ireturn, 1)]
def mi_M10 : mi_M := (⟨"TypeLoom", "feed", "(IIIII)I"⟩, prog_1_method_2_code, 6, (some .int), 10, 1, 5, mi_q10, [(13, 0, 86, 88, 90, false)], [])
def mi_q11 : List (Nat × Instr × Nat) := [(0, .aload_n 0, 1), (1, .getfield 48, 3), (4, .invokevirtual 220, 3), (7, .aload_n 0, 1), (8, .getfield 41, 3), (11, .invokevirtual 221, 3), (14, .return_, 1)]
def mi_M11 : mi_M := (⟨"TypeLoom", "forgetProgram", "()V"⟩, prog_1_method_19_code, 1, none, 10, 1, 0, mi_q11, [], [])
def mi_q12 : List (Nat × Instr × Nat) := [(0, .aload_n 0, 1), (1, .getfield 41, 3), (4, .invokevirtual 213, 3), (7, .istore_n 1, 1), (8, .iload_n 1, 1), (9, .ifCond .ne 5, 3), (12, .dconst 0, 1), (13, .dreturn, 1), (14, .lconst 0, 1), (15, .lstore_n 2, 1), (16, .iconst 0, 1), (17, .istore 4, 2), (19, .iload 4, 2), (21, .iload_n 1, 1), (22, .if_icmp .ge 20, 3), (25, .lload_n 2, 1), (26, .aload_n 0, 1), (27, .iload 4, 2), (29, .iconst 0, 1), (30, .invokevirtual 181, 3), (33, .i2l, 1), (34, .ladd, 1), (35, .lstore_n 2, 1), (36, .iinc 4 1, 3), (39, .goto (-20), 3), (42, .lload_n 2, 1), (43, .l2d, 1), (44, .iload_n 1, 1), (45, .i2d, 1), (46, .ddiv, 1), (47, .dreturn, 1)]
def mi_M12 : mi_M := (⟨"TypeLoom", "meanParts", "()D"⟩, prog_1_method_16_code, 5, (some .double), 10, 1, 0, mi_q12, [], [])
def mi_q13 : List (Nat × Instr × Nat) := [(0, .aload_n 0, 1), (1, .getfield 41, 3), (4, .iload_n 1, 1), (5, .invokevirtual 140, 3), (8, .ifCond .eq 12, 3), (11, .iload_n 2, 1), (12, .ifCond .lt 8, 3), (15, .iload_n 2, 1), (16, .iconst 3, 1), (17, .if_icmp .lt 13, 3), (20, .new 131, 3), (23, .dup, 1), (24, .ldc 179, 2), (26, .invokespecial 135, 3), (29, .athrow, 1), (30, .aload_n 0, 1), (31, .iload_n 1, 1), (32, .iload_n 2, 1), (33, .invokevirtual 181, 3), (36, .ireturn, 1)]
def mi_M13 : mi_M := (⟨"TypeLoom", "measure", "(II)I"⟩, prog_1_method_11_code, 3, (some .int), 10, 1, 2, mi_q13, [(20, 2, 131, 179, 135, false)], [])
def mi_q14 : List (Nat × Instr × Nat) := [(0, .aload_n 0, 1), (1, .getfield 41, 3), (4, .iload_n 1, 1), (5, .invokevirtual 140, 3), (8, .ifCond .eq 14, 3), (11, .aload_n 0, 1), (12, .getfield 41, 3), (15, .iload_n 2, 1), (16, .invokevirtual 140, 3), (19, .ifCond .ne 13, 3), (22, .new 131, 3), (25, .dup, 1), (26, .ldc 144, 2), (28, .invokespecial 135, 3), (31, .athrow, 1), (32, .aload_n 0, 1), (33, .getfield 32, 3), (36, .aload_n 0, 1), (37, .getfield 41, 3), (40, .iload_n 1, 1), (41, .invokevirtual 146, 3), (44, .iconst 0, 1), (45, .invokevirtual 188, 3), (48, .istore_n 3, 1), (49, .aload_n 0, 1), (50, .getfield 32, 3), (53, .aload_n 0, 1), (54, .getfield 41, 3), (57, .iload_n 2, 1), (58, .invokevirtual 146, 3), (61, .iconst 0, 1), (62, .invokevirtual 188, 3), (65, .istore 4, 2), (67, .iconst 1, 1), (68, .istore 5, 2), (70, .aload_n 0, 1), (71, .getfield 32, 3), (74, .iload_n 3, 1), (75, .iload 4, 2), (77, .invokevirtual 192, 3), (80, .ifCond .eq 16, 3), (83, .aload_n 0, 1), (84, .getfield 78, 3), (87, .iload_n 3, 1), (88, .invokevirtual 149, 3), (91, .istore 5, 2), (93, .goto 10, 3), (96, .aload_n 0, 1), (97, .getfield 78, 3), (100, .invokevirtual 199, 3), (103, .aload_n 0, 1), (104, .getfield 32, 3), (107, .invokevirtual 196, 3), (110, .iload 5, 2), (112, .ifCond .ne 13, 3), (115, .new 86, 3), (118, .dup, 1), (119, .ldc 152, 2), (121, .invokespecial 90, 3), (124, .athrow, 1), (125, .aload_n 0, 1), (126, .getfield 78, 3), (129, .invokevirtual 154, 3), (132, .ireturn, 1)]
def mi_M14 : mi_M := (⟨"TypeLoom", "meet", "(II)I"⟩, prog_1_method_14_code, 6, (some .int), 10, 1, 2, mi_q14, [(22, 2, 131, 144, 135, false), (115, 0, 86, 152, 90, false)], [])
def mi_q15 : List (Nat × Instr × Nat) := [(0, .iload_n 1, 1), (1, .ifCond .lt 11, 3), (4, .iload_n 1, 1), (5, .aload_n 0, 1), (6, .getfield 82, 3), (9, .if_icmp .le 13, 3), (12, .new 97, 3), (15, .dup, 1), (16, .ldc 99, 2), (18, .invokespecial 101, 3), (21, .athrow, 1), (22, .aload_n 0, 1), (23, .iload_n 1, 1), (24, .putfield 82, 3), (27, .iload_n 1, 1), (28, .ireturn, 1)]
def mi_M15 : mi_M := (⟨"TypeLoom", "trim", "(I)I"⟩, prog_1_method_3_code, 2, (some .int), 10, 1, 1, mi_q15, [(12, 1, 97, 99, 101, false)], [])
def mi_q16 : List (Nat × Instr × Nat) := [(0, .aload_n 0, 1), (1, .getfield 41, 3), (4, .iload_n 1, 1), (5, .invokevirtual 140, 3), (8, .ifCond .eq 14, 3), (11, .aload_n 0, 1), (12, .getfield 41, 3), (15, .iload_n 2, 1), (16, .invokevirtual 140, 3), (19, .ifCond .ne 13, 3), (22, .new 131, 3), (25, .dup, 1), (26, .ldc 144, 2), (28, .invokespecial 135, 3), (31, .athrow, 1), (32, .aload_n 0, 1), (33, .getfield 41, 3), (36, .iload_n 1, 1), (37, .iload_n 2, 1), (38, .invokevirtual 185, 3), (41, .ireturn, 1)]
def mi_M16 : mi_M := (⟨"TypeLoom", "uses", "(II)I"⟩, prog_1_method_12_code, 3, (some .int), 10, 1, 2, mi_q16, [(22, 2, 131, 144, 135, false)], [])
def mi_q17 : List (Nat × Instr × Nat) := [(0, .aload_n 0, 1), (1, .getfield 41, 3), (4, .iload_n 1, 1), (5, .invokevirtual 140, 3), (8, .ifCond .ne 13, 3), (11, .new 131, 3), (14, .dup, 1), (15, .ldc 144, 2), (17, .invokespecial 135, 3), (20, .athrow, 1), (21, .aload_n 0, 1), (22, .getfield 78, 3), (25, .aload_n 0, 1), (26, .getfield 41, 3), (29, .iload_n 1, 1), (30, .invokevirtual 146, 3), (33, .invokevirtual 149, 3), (36, .ifCond .ne 13, 3), (39, .new 86, 3), (42, .dup, 1), (43, .ldc 152, 2), (45, .invokespecial 90, 3), (48, .athrow, 1), (49, .aload_n 0, 1), (50, .getfield 78, 3), (53, .invokevirtual 154, 3), (56, .ireturn, 1)]
def mi_M17 : mi_M := (⟨"TypeLoom", "write", "(I)I"⟩, prog_1_method_7_code, 2, (some .int), 10, 1, 1, mi_q17, [(11, 2, 131, 144, 135, false), (39, 0, 86, 152, 90, false)], [])
def mi_q18 : List (Nat × Instr × Nat) := [(0, .aload_n 0, 1), (1, .getfield 48, 3), (4, .iload_n 1, 1), (5, .invokevirtual 166, 3), (8, .istore_n 2, 1), (9, .iload_n 2, 1), (10, .ifCond .ge 13, 3), (13, .new 131, 3), (16, .dup, 1), (17, .ldc 169, 2), (19, .invokespecial 135, 3), (22, .athrow, 1), (23, .aload_n 0, 1), (24, .getfield 78, 3), (27, .aload_n 0, 1), (28, .getfield 48, 3), (31, .iload_n 2, 1), (32, .invokevirtual 171, 3), (35, .invokevirtual 149, 3), (38, .ifCond .ne 13, 3), (41, .new 86, 3), (44, .dup, 1), (45, .ldc 152, 2), (47, .invokespecial 90, 3), (50, .athrow, 1), (51, .aload_n 0, 1), (52, .getfield 78, 3), (55, .invokevirtual 154, 3), (58, .ireturn, 1)]
def mi_M18 : mi_M := (⟨"TypeLoom", "writeAt", "(I)I"⟩, prog_1_method_9_code, 3, (some .int), 10, 1, 1, mi_q18, [(13, 2, 131, 169, 135, false), (41, 0, 86, 152, 90, false)], [])
def mi_q19 : List (Nat × Instr × Nat) := [(0, .aload_n 0, 1), (1, .getfield 41, 3), (4, .iload_n 1, 1), (5, .invokevirtual 158, 3), (8, .ifCond .ne 13, 3), (11, .new 131, 3), (14, .dup, 1), (15, .ldc 161, 2), (17, .invokespecial 135, 3), (20, .athrow, 1), (21, .aload_n 0, 1), (22, .getfield 78, 3), (25, .aload_n 0, 1), (26, .getfield 41, 3), (29, .iload_n 1, 1), (30, .invokevirtual 163, 3), (33, .invokevirtual 149, 3), (36, .ifCond .ne 13, 3), (39, .new 86, 3), (42, .dup, 1), (43, .ldc 152, 2), (45, .invokespecial 90, 3), (48, .athrow, 1), (49, .aload_n 0, 1), (50, .getfield 78, 3), (53, .invokevirtual 154, 3), (56, .ireturn, 1)]
def mi_M19 : mi_M := (⟨"TypeLoom", "writeConstructor", "(I)I"⟩, prog_1_method_8_code, 2, (some .int), 10, 1, 1, mi_q19, [(11, 2, 131, 161, 135, false), (39, 0, 86, 152, 90, false)], [])
def mi_q20 : List (Nat × Instr × Nat) := [(0, .aload_n 0, 1), (1, .invokespecial 1, 3), (4, .aload_n 0, 1), (5, .new 7, 3), (8, .dup, 1), (9, .invokespecial 9, 3), (12, .putfield 10, 3), (15, .aload_n 0, 1), (16, .aload_n 1, 1), (17, .putfield 16, 3), (20, .aload_n 0, 1), (21, .aload_n 2, 1), (22, .putfield 20, 3), (25, .aload_n 0, 1), (26, .aload_n 3, 1), (27, .putfield 24, 3), (30, .aload_n 0, 1), (31, .aload 4, 2), (33, .putfield 28, 3), (36, .aload_n 0, 1), (37, .aload_n 2, 1), (38, .getfield 32, 3), (41, .putfield 38, 3), (44, .aload_n 0, 1), (45, .new 39, 3), (48, .dup, 1), (49, .aload_n 1, 1), (50, .aload_n 0, 1), (51, .getfield 38, 3), (54, .aload_n 2, 1), (55, .aload_n 3, 1), (56, .invokespecial 41, 3), (59, .putfield 44, 3), (62, .return_, 1)]
def mi_M20 : mi_M := (⟨"TypeLoom$Checker", "<init>", "(LTypeLoom$Tokens;LTypeLoom$Known;LTypeLoom$Fault;LTypeLoom$Steps;)V"⟩, prog_2_method_1_code, 5, none, 0, 2, 4, mi_q20, [], [])
def mi_q21 : List (Nat × Instr × Nat) := [(0, .aload_n 0, 1), (1, .getfield 10, 3), (4, .invokevirtual 88, 3), (7, .aload_n 0, 1), (8, .iconst (-1), 1), (9, .putfield 91, 3), (12, .aload_n 0, 1), (13, .iconst 0, 1), (14, .putfield 97, 3), (17, .aload_n 0, 1), (18, .iconst 0, 1), (19, .putfield 100, 3), (22, .return_, 1)]
def mi_M21 : mi_M := (⟨"TypeLoom$Checker", "leaveDefinition", "()V"⟩, prog_2_method_3_code, 1, none, 0, 1, 0, mi_q21, [], [])
def mi_q22 : List (Nat × Instr × Nat) := [(0, .aload_n 0, 1), (1, .aload_n 1, 1), (2, .putfield 28, 3), (5, .aload_n 0, 1), (6, .invokevirtual 48, 3), (9, .iconst 0, 1), (10, .istore_n 2, 1), (11, .iload_n 2, 1), (12, .aload_n 1, 1), (13, .invokevirtual 51, 3), (16, .if_icmp .ge 87, 3), (19, .aload_n 0, 1), (20, .getfield 24, 3), (23, .invokevirtual 57, 3), (26, .ifCond .ne 77, 3), (29, .aload_n 1, 1), (30, .iload_n 2, 1), (31, .invokevirtual 63, 3), (34, .istore_n 3, 1), (35, .iload_n 3, 1), (36, .bipush 19, 2), (38, .if_icmp .lt 26, 3), (41, .aload_n 1, 1), (42, .iload_n 2, 1), (43, .aload_n 0, 1), (44, .iload_n 3, 1), (45, .aload_n 1, 1), (46, .iload_n 2, 1), (47, .invokevirtual 67, 3), (50, .aload_n 1, 1), (51, .iload_n 2, 1), (52, .invokevirtual 70, 3), (55, .invokevirtual 73, 3), (58, .invokevirtual 77, 3), (61, .goto 36, 3), (64, .iload_n 3, 1), (65, .bipush 10, 2), (67, .if_icmp .lt 12, 3), (70, .aload_n 0, 1), (71, .iload_n 3, 1), (72, .iload_n 2, 1), (73, .invokevirtual 81, 3), (76, .goto 21, 3), (79, .aload_n 0, 1), (80, .getfield 44, 3), (83, .iload_n 3, 1), (84, .aload_n 1, 1), (85, .iload_n 2, 1), (86, .invokevirtual 67, 3), (89, .aload_n 1, 1), (90, .iload_n 2, 1), (91, .invokevirtual 70, 3), (94, .invokevirtual 84, 3), (97, .iinc 2 1, 3), (100, .goto (-89), 3), (103, .return_, 1)]
def mi_M22 : mi_M := (⟨"TypeLoom$Checker", "run", "(LTypeLoom$Steps;)V"⟩, prog_2_method_2_code, 4, none, 0, 1, 1, mi_q22, [], [])
def mi_q23 : List (Nat × Instr × Nat) := [(0, .aload_n 0, 1), (1, .invokespecial 1, 3), (4, .aload_n 0, 1), (5, .iconst (-1), 1), (6, .putfield 7, 3), (9, .return_, 1)]
def mi_M23 : mi_M := (⟨"TypeLoom$Fault", "<init>", "()V"⟩, prog_3_method_1_code, 1, none, 1, 2, 0, mi_q23, [], [])
def mi_q24 : List (Nat × Instr × Nat) := [(0, .aload_n 0, 1), (1, .iconst 0, 1), (2, .putfield 13, 3), (5, .aload_n 0, 1), (6, .iconst (-1), 1), (7, .putfield 7, 3), (10, .return_, 1)]
def mi_M24 : mi_M := (⟨"TypeLoom$Fault", "clear", "()V"⟩, prog_3_method_2_code, 1, none, 1, 1, 0, mi_q24, [], [])
def mi_q25 : List (Nat × Instr × Nat) := [(0, .aload_n 0, 1), (1, .getfield 13, 3), (4, .ifCond .eq 7, 3), (7, .iconst 1, 1), (8, .goto 4, 3), (11, .iconst 0, 1), (12, .ireturn, 1)]
def mi_M25 : mi_M := (⟨"TypeLoom$Fault", "stands", "()Z"⟩, prog_3_method_3_code, 1, (some .boolean), 1, 1, 0, mi_q25, [], [])
def mi_q26 : List (Nat × Instr × Nat) := [(0, .aload_n 0, 1), (1, .getfield 13, 3), (4, .ifCond .ne 13, 3), (7, .aload_n 0, 1), (8, .iload_n 1, 1), (9, .putfield 13, 3), (12, .aload_n 0, 1), (13, .iload_n 2, 1), (14, .putfield 7, 3), (17, .return_, 1)]
def mi_M26 : mi_M := (⟨"TypeLoom$Fault", "tell", "(II)V"⟩, prog_3_method_4_code, 3, none, 1, 1, 2, mi_q26, [], [])
def mi_q27 : List (Nat × Instr × Nat) := [(0, .aload_n 0, 1), (1, .invokespecial 1, 3), (4, .aload_n 0, 1), (5, .bipush 26, 2), (7, .newarray .int, 2), (9, .putfield 9, 3), (12, .aload_n 0, 1), (13, .iconst 3, 1), (14, .newarray .int, 2), (16, .putfield 13, 3), (19, .aload_n 0, 1), (20, .sipush 300, 3), (23, .newarray .int, 2), (25, .putfield 18, 3), (28, .aload_n 0, 1), (29, .aload_n 1, 1), (30, .putfield 21, 3), (33, .aload_n 0, 1), (34, .aload_n 2, 1), (35, .putfield 25, 3), (38, .aload_n 0, 1), (39, .aload_n 3, 1), (40, .putfield 29, 3), (43, .aload_n 0, 1), (44, .aload 4, 2), (46, .putfield 33, 3), (49, .return_, 1)]
def mi_M27 : mi_M := (⟨"TypeLoom$Forms", "<init>", "(LTypeLoom$Tokens;LTypeLoom$Types;LTypeLoom$Known;LTypeLoom$Fault;)V"⟩, prog_4_method_1_code, 5, none, 2, 2, 4, mi_q27, [], [])
def mi_q28 : List (Nat × Instr × Nat) := [(0, .aload_n 0, 1), (1, .invokespecial 1, 3), (4, .aload_n 0, 1), (5, .bipush 9, 2), (7, .newarray .long, 2), (9, .putfield 9, 3), (12, .aload_n 0, 1), (13, .bipush 9, 2), (15, .newarray .int, 2), (17, .putfield 13, 3), (20, .aload_n 0, 1), (21, .bipush 26, 2), (23, .newarray .long, 2), (25, .putfield 17, 3), (28, .aload_n 0, 1), (29, .bipush 26, 2), (31, .newarray .int, 2), (33, .putfield 20, 3), (36, .aload_n 0, 1), (37, .bipush 26, 2), (39, .newarray .int, 2), (41, .putfield 23, 3), (44, .aload_n 0, 1), (45, .bipush 24, 2), (47, .newarray .long, 2), (49, .putfield 26, 3), (52, .aload_n 0, 1), (53, .bipush 24, 2), (55, .newarray .int, 2), (57, .putfield 29, 3), (60, .aload_n 0, 1), (61, .sipush 576, 3), (64, .newarray .int, 2), (66, .putfield 32, 3), (69, .aload_n 0, 1), (70, .aload_n 1, 1), (71, .putfield 35, 3), (74, .aload_n 0, 1), (75, .getfield 9, 3), (78, .iconst 0, 1), (79, .ldc 39, 2), (81, .invokestatic 41, 3), (84, .lastore, 1), (85, .aload_n 0, 1), (86, .getfield 9, 3), (89, .iconst 1, 1), (90, .ldc 45, 2), (92, .invokestatic 41, 3), (95, .lastore, 1), (96, .aload_n 0, 1), (97, .getfield 9, 3), (100, .iconst 2, 1), (101, .ldc 47, 2), (103, .invokestatic 41, 3), (106, .lastore, 1), (107, .aload_n 0, 1), (108, .getfield 13, 3), (111, .iconst 2, 1), (112, .iconst 1, 1), (113, .iastore, 1), (114, .aload_n 1, 1), (115, .invokevirtual 49, 3), (118, .istore_n 2, 1), (119, .aload_n 1, 1), (120, .bipush 9, 2), (122, .iload_n 2, 1), (123, .iconst 0, 1), (124, .iconst 0, 1), (125, .invokevirtual 55, 3), (128, .istore_n 3, 1), (129, .aload_n 0, 1), (130, .getfield 17, 3), (133, .iconst 0, 1), (134, .ldc 59, 2), (136, .invokestatic 41, 3), (139, .lastore, 1), (140, .aload_n 0, 1), (141, .getfield 20, 3), (144, .iconst 0, 1), (145, .iload_n 3, 1), (146, .iastore, 1), (147, .aload_n 0, 1), (148, .getfield 17, 3), (151, .iconst 1, 1), (152, .ldc 61, 2), (154, .invokestatic 41, 3), (157, .lastore, 1), (158, .aload_n 0, 1), (159, .getfield 20, 3), (162, .iconst 1, 1), (163, .aload_n 1, 1), (164, .iload_n 2, 1), (165, .aload_n 1, 1), (166, .iload_n 3, 1), (167, .iload_n 3, 1), (168, .invokevirtual 63, 3), (171, .invokevirtual 63, 3), (174, .iastore, 1), (175, .aload_n 0, 1), (176, .getfield 23, 3), (179, .iconst 1, 1), (180, .iconst 2, 1), (181, .iastore, 1), (182, .aload_n 1, 1), (183, .invokevirtual 49, 3), (186, .istore 4, 2), (188, .aload_n 1, 1), (189, .invokevirtual 49, 3), (192, .istore 5, 2), (194, .aload_n 0, 1), (195, .aload_n 1, 1), (196, .aload_n 1, 1), (197, .iload 4, 2), (199, .iload 5, 2), (201, .invokevirtual 67, 3), (204, .iload 4, 2), (206, .invokevirtual 63, 3), (209, .putfield 70, 3), (212, .aload_n 0, 1), (213, .aload_n 1, 1), (214, .aload_n 1, 1), (215, .iload 4, 2), (217, .iload 5, 2), (219, .invokevirtual 67, 3), (222, .iload 5, 2), (224, .invokevirtual 63, 3), (227, .putfield 74, 3), (230, .aload_n 1, 1), (231, .invokevirtual 77, 3), (234, .aload_n 0, 1), (235, .aload_n 1, 1), (236, .invokevirtual 80, 3), (239, .putfield 83, 3), (242, .aload_n 0, 1), (243, .iconst 3, 1), (244, .putfield 86, 3), (247, .aload_n 0, 1), (248, .iconst 2, 1), (249, .putfield 89, 3), (252, .return_, 1)]
def mi_M28 : mi_M := (⟨"TypeLoom$Known", "<init>", "(LTypeLoom$Types;)V"⟩, prog_5_method_1_code, 6, none, 3, 2, 1, mi_q28, [], [])
def mi_q29 : List (Nat × Instr × Nat) := [(0, .aload_n 0, 1), (1, .getfield 105, 3), (4, .ireturn, 1)]
def mi_M29 : mi_M := (⟨"TypeLoom$Known", "definitions", "()I"⟩, prog_5_method_6_code, 1, (some .int), 3, 1, 0, mi_q29, [], [])
def mi_q30 : List (Nat × Instr × Nat) := [(0, .aload_n 0, 1), (1, .getfield 35, 3), (4, .aload_n 0, 1), (5, .getfield 83, 3), (8, .invokevirtual 101, 3), (11, .aload_n 0, 1), (12, .iconst 3, 1), (13, .putfield 86, 3), (16, .aload_n 0, 1), (17, .iconst 2, 1), (18, .putfield 89, 3), (21, .aload_n 0, 1), (22, .iconst 0, 1), (23, .putfield 105, 3), (26, .aload_n 0, 1), (27, .getfield 32, 3), (30, .iconst 0, 1), (31, .invokestatic 108, 3), (34, .return_, 1)]
def mi_M30 : mi_M := (⟨"TypeLoom$Known", "forgetItems", "()V"⟩, prog_5_method_3_code, 1, none, 3, 1, 0, mi_q30, [], [])
def mi_q31 : List (Nat × Instr × Nat) := [(0, .iload_n 1, 1), (1, .ifCond .lt 15, 3), (4, .iload_n 1, 1), (5, .aload_n 0, 1), (6, .getfield 105, 3), (9, .if_icmp .ge 7, 3), (12, .iconst 1, 1), (13, .goto 4, 3), (16, .iconst 0, 1), (17, .ireturn, 1)]
def mi_M31 : mi_M := (⟨"TypeLoom$Known", "hasDefinition", "(I)Z"⟩, prog_5_method_25_code, 2, (some .boolean), 3, 1, 1, mi_q31, [], [])
def mi_q32 : List (Nat × Instr × Nat) := [(0, .iload_n 1, 1), (1, .ifCond .lt 15, 3), (4, .iload_n 1, 1), (5, .aload_n 0, 1), (6, .invokevirtual 125, 3), (9, .if_icmp .ge 7, 3), (12, .iconst 1, 1), (13, .goto 4, 3), (16, .iconst 0, 1), (17, .ireturn, 1)]
def mi_M32 : mi_M := (⟨"TypeLoom$Known", "hasItemConstructor", "(I)Z"⟩, prog_5_method_22_code, 2, (some .boolean), 3, 1, 1, mi_q32, [], [])
def mi_q33 : List (Nat × Instr × Nat) := [(0, .aload_n 0, 1), (1, .getfield 89, 3), (4, .iconst 2, 1), (5, .isub, 1), (6, .ireturn, 1)]
def mi_M33 : mi_M := (⟨"TypeLoom$Known", "itemConstructors", "()I"⟩, prog_5_method_5_code, 1, (some .int), 3, 1, 0, mi_q33, [], [])
def mi_q34 : List (Nat × Instr × Nat) := [(0, .aload_n 0, 1), (1, .getfield 86, 3), (4, .iconst 3, 1), (5, .isub, 1), (6, .ireturn, 1)]
def mi_M34 : mi_M := (⟨"TypeLoom$Known", "itemTypes", "()I"⟩, prog_5_method_4_code, 1, (some .int), 3, 1, 0, mi_q34, [], [])
def mi_q35 : List (Nat × Instr × Nat) := [(0, .lconst 0, 1), (1, .lstore_n 1, 1), (2, .iconst 0, 1), (3, .istore_n 3, 1), (4, .iload_n 3, 1), (5, .aload_n 0, 1), (6, .invokevirtual 92, 3), (9, .if_icmp .ge 21, 3), (12, .lload_n 1, 1), (13, .bipush 8, 2), (15, .lshl, 1), (16, .aload_n 0, 1), (17, .iload_n 3, 1), (18, .invokevirtual 97, 3), (21, .i2l, 1), (22, .lor, 1), (23, .lstore_n 1, 1), (24, .iinc 3 1, 3), (27, .goto (-23), 3), (30, .lload_n 1, 1), (31, .lreturn, 1)]
def mi_M35 : mi_M := (⟨"TypeLoom$Known", "keyOf", "(Ljava/lang/String;)J"⟩, prog_5_method_2_code, 4, (some .long), 3, 0, 1, mi_q35, [], [])
def mi_q36 : List (Nat × Instr × Nat) := [(0, .aload_n 0, 1), (1, .invokespecial 1, 3), (4, .aload_n 0, 1), (5, .aload_n 1, 1), (6, .putfield 7, 3), (9, .aload_n 0, 1), (10, .aload_n 2, 1), (11, .putfield 13, 3), (14, .aload_n 0, 1), (15, .aload_n 3, 1), (16, .putfield 17, 3), (19, .return_, 1)]
def mi_M36 : mi_M := (⟨"TypeLoom$Parser", "<init>", "(LTypeLoom$Tokens;LTypeLoom$Fault;LTypeLoom$Steps;)V"⟩, prog_6_method_1_code, 4, none, 4, 2, 3, mi_q36, [], [])
def mi_q37 : List (Nat × Instr × Nat) := [(0, .aload_n 0, 1), (1, .getfield 53, 3), (4, .istore_n 2, 1), (5, .aload_n 0, 1), (6, .invokevirtual 36, 3), (9, .lookupswitch 97 #[(11, 83), (12, 83), (13, 67), (14, 75), (16, 59), (40, 91)], 59), (68, .aload_n 0, 1), (69, .bipush 19, 2), (71, .iload_n 2, 1), (72, .invokevirtual 148, 3), (75, .ireturn, 1), (76, .aload_n 0, 1), (77, .bipush 21, 2), (79, .iload_n 2, 1), (80, .invokevirtual 148, 3), (83, .ireturn, 1), (84, .aload_n 0, 1), (85, .bipush 22, 2), (87, .iload_n 2, 1), (88, .invokevirtual 148, 3), (91, .ireturn, 1), (92, .aload_n 0, 1), (93, .bipush 20, 2), (95, .iload_n 2, 1), (96, .invokevirtual 148, 3), (99, .ireturn, 1), (100, .aload_n 0, 1), (101, .iload_n 1, 1), (102, .invokevirtual 152, 3), (105, .ireturn, 1), (106, .aload_n 0, 1), (107, .invokevirtual 67, 3), (110, .iconst (-1), 1), (111, .ireturn, 1)]
def mi_M37 : mi_M := (⟨"TypeLoom$Parser", "atom", "(I)I"⟩, prog_6_method_30_code, 3, (some .int), 4, 1, 1, mi_q37, [], [])
def mi_q38 : List (Nat × Instr × Nat) := [(0, .aload_n 0, 1), (1, .getfield 53, 3), (4, .istore_n 2, 1), (5, .aload_n 0, 1), (6, .iload_n 1, 1), (7, .invokevirtual 142, 3), (10, .istore_n 3, 1), (11, .iconst 0, 1), (12, .istore 4, 2), (14, .iload 4, 2), (16, .sipush 300, 3), (19, .if_icmp .ge 34, 3), (22, .aload_n 0, 1), (23, .invokevirtual 145, 3), (26, .ifCond .eq 27, 3), (29, .aload_n 0, 1), (30, .iload_n 1, 1), (31, .invokevirtual 142, 3), (34, .istore 5, 2), (36, .aload_n 0, 1), (37, .bipush 25, 2), (39, .iload_n 3, 1), (40, .iload 5, 2), (42, .iload_n 2, 1), (43, .invokevirtual 121, 3), (46, .istore_n 3, 1), (47, .iinc 4 1, 3), (50, .goto (-36), 3), (53, .iload_n 3, 1), (54, .ireturn, 1)]
def mi_M38 : mi_M := (⟨"TypeLoom$Parser", "call", "(I)I"⟩, prog_6_method_28_code, 6, (some .int), 4, 1, 1, mi_q38, [], [])
def mi_q39 : List (Nat × Instr × Nat) := [(0, .iload_n 1, 1), (1, .bipush 12, 2), (3, .if_icmp .le 9, 3), (6, .aload_n 0, 1), (7, .invokevirtual 67, 3), (10, .iconst (-1), 1), (11, .ireturn, 1), (12, .aload_n 0, 1), (13, .invokevirtual 36, 3), (16, .tableswitch 68 2 8 #[44, 68, 50, 56, 68, 68, 62], 44), (60, .aload_n 0, 1), (61, .iload_n 1, 1), (62, .invokevirtual 106, 3), (65, .ireturn, 1), (66, .aload_n 0, 1), (67, .iload_n 1, 1), (68, .invokevirtual 109, 3), (71, .ireturn, 1), (72, .aload_n 0, 1), (73, .iload_n 1, 1), (74, .invokevirtual 112, 3), (77, .ireturn, 1), (78, .aload_n 0, 1), (79, .iload_n 1, 1), (80, .invokevirtual 115, 3), (83, .ireturn, 1), (84, .aload_n 0, 1), (85, .iload_n 1, 1), (86, .invokevirtual 118, 3), (89, .ireturn, 1)]
def mi_M39 : mi_M := (⟨"TypeLoom$Parser", "expression", "(I)I"⟩, prog_6_method_19_code, 2, (some .int), 4, 1, 1, mi_q39, [], [])
def mi_q40 : List (Nat × Instr × Nat) := [(0, .aload_n 0, 1), (1, .getfield 13, 3), (4, .iconst 1, 1), (5, .aload_n 0, 1), (6, .getfield 7, 3), (9, .aload_n 0, 1), (10, .getfield 53, 3), (13, .invokevirtual 60, 3), (16, .invokevirtual 63, 3), (19, .return_, 1)]
def mi_M40 : mi_M := (⟨"TypeLoom$Parser", "fail", "()V"⟩, prog_6_method_6_code, 1, none, 4, 1, 0, mi_q40, [], [])
def mi_q41 : List (Nat × Instr × Nat) := [(0, .aload_n 0, 1), (1, .invokevirtual 36, 3), (4, .ifCond .ne 10, 3), (7, .aload_n 0, 1), (8, .invokevirtual 82, 3), (11, .goto 22, 3), (14, .aload_n 0, 1), (15, .invokevirtual 36, 3), (18, .iconst 1, 1), (19, .if_icmp .ne 10, 3), (22, .aload_n 0, 1), (23, .invokevirtual 85, 3), (26, .goto 7, 3), (29, .aload_n 0, 1), (30, .invokevirtual 67, 3), (33, .return_, 1)]
def mi_M41 : mi_M := (⟨"TypeLoom$Parser", "item", "()V"⟩, prog_6_method_10_code, 1, none, 4, 1, 0, mi_q41, [], [])
def mi_q42 : List (Nat × Instr × Nat) := [(0, .aload_n 0, 1), (1, .getfield 13, 3), (4, .invokevirtual 30, 3), (7, .ifCond .eq 8, 3), (10, .bipush 19, 2), (12, .goto 14, 3), (15, .aload_n 0, 1), (16, .getfield 7, 3), (19, .aload_n 0, 1), (20, .getfield 53, 3), (23, .invokevirtual 57, 3), (26, .ireturn, 1)]
def mi_M42 : mi_M := (⟨"TypeLoom$Parser", "kind", "()I"⟩, prog_6_method_5_code, 1, (some .int), 4, 1, 0, mi_q42, [], [])
def mi_q43 : List (Nat × Instr × Nat) := [(0, .aload_n 0, 1), (1, .getfield 53, 3), (4, .istore_n 2, 1), (5, .aload_n 0, 1), (6, .iload_n 1, 1), (7, .invokevirtual 139, 3), (10, .istore_n 3, 1), (11, .iconst 0, 1), (12, .istore 4, 2), (14, .iload 4, 2), (16, .sipush 300, 3), (19, .if_icmp .ge 52, 3), (22, .aload_n 0, 1), (23, .invokevirtual 36, 3), (26, .bipush 42, 2), (28, .if_icmp .ne 43, 3), (31, .aload_n 0, 1), (32, .bipush 42, 2), (34, .invokevirtual 40, 3), (37, .aload_n 0, 1), (38, .bipush 13, 2), (40, .iload_n 3, 1), (41, .iconst 0, 1), (42, .iconst 0, 1), (43, .invokevirtual 74, 3), (46, .pop, 1), (47, .aload_n 0, 1), (48, .iload_n 1, 1), (49, .invokevirtual 139, 3), (52, .istore 5, 2), (54, .aload_n 0, 1), (55, .bipush 26, 2), (57, .iload_n 3, 1), (58, .iload 5, 2), (60, .iload_n 2, 1), (61, .invokevirtual 121, 3), (64, .istore_n 3, 1), (65, .iinc 4 1, 3), (68, .goto (-54), 3), (71, .iload_n 3, 1), (72, .ireturn, 1)]
def mi_M43 : mi_M := (⟨"TypeLoom$Parser", "product", "(I)I"⟩, prog_6_method_27_code, 6, (some .int), 4, 1, 1, mi_q43, [], [])
def mi_q44 : List (Nat × Instr × Nat) := [(0, .aload_n 0, 1), (1, .aload_n 1, 1), (2, .invokevirtual 21, 3), (5, .aload_n 0, 1), (6, .invokevirtual 25, 3), (9, .iconst 0, 1), (10, .istore_n 2, 1), (11, .iload_n 2, 1), (12, .sipush 300, 3), (15, .if_icmp .ge 32, 3), (18, .aload_n 0, 1), (19, .getfield 13, 3), (22, .invokevirtual 30, 3), (25, .ifCond .ne 22, 3), (28, .aload_n 0, 1), (29, .invokevirtual 36, 3), (32, .bipush 18, 2), (34, .if_icmp .eq 13, 3), (37, .aload_n 0, 1), (38, .invokevirtual 25, 3), (41, .iinc 2 1, 3), (44, .goto (-33), 3), (47, .aload_n 0, 1), (48, .bipush 18, 2), (50, .invokevirtual 40, 3), (53, .return_, 1)]
def mi_M44 : mi_M := (⟨"TypeLoom$Parser", "readProgram", "(LTypeLoom$Steps;)V"⟩, prog_6_method_2_code, 3, none, 4, 1, 1, mi_q44, [], [])
def mi_q45 : List (Nat × Instr × Nat) := [(0, .aload_n 0, 1), (1, .aload_n 1, 1), (2, .invokevirtual 21, 3), (5, .aload_n 0, 1), (6, .iconst 0, 1), (7, .invokevirtual 44, 3), (10, .istore_n 2, 1), (11, .aload_n 0, 1), (12, .bipush 18, 2), (14, .invokevirtual 40, 3), (17, .iload_n 2, 1), (18, .ireturn, 1)]
def mi_M45 : mi_M := (⟨"TypeLoom$Parser", "readQuestion", "(LTypeLoom$Steps;)I"⟩, prog_6_method_3_code, 3, (some .int), 4, 1, 1, mi_q45, [], [])
def mi_q46 : List (Nat × Instr × Nat) := [(0, .aload_n 0, 1), (1, .getfield 53, 3), (4, .istore_n 2, 1), (5, .aload_n 0, 1), (6, .iload_n 1, 1), (7, .invokevirtual 133, 3), (10, .istore_n 3, 1), (11, .aload_n 0, 1), (12, .invokevirtual 36, 3), (15, .bipush 61, 2), (17, .if_icmp .ne 27, 3), (20, .aload_n 0, 1), (21, .bipush 61, 2), (23, .invokevirtual 40, 3), (26, .aload_n 0, 1), (27, .iload_n 1, 1), (28, .invokevirtual 133, 3), (31, .istore 4, 2), (33, .aload_n 0, 1), (34, .bipush 28, 2), (36, .iload_n 3, 1), (37, .iload 4, 2), (39, .iload_n 2, 1), (40, .invokevirtual 121, 3), (43, .ireturn, 1), (44, .aload_n 0, 1), (45, .invokevirtual 36, 3), (48, .bipush 60, 2), (50, .if_icmp .ne 37, 3), (53, .aload_n 0, 1), (54, .bipush 60, 2), (56, .invokevirtual 40, 3), (59, .aload_n 0, 1), (60, .bipush 13, 2), (62, .iload_n 3, 1), (63, .iconst 0, 1), (64, .iconst 0, 1), (65, .invokevirtual 74, 3), (68, .pop, 1), (69, .aload_n 0, 1), (70, .iload_n 1, 1), (71, .invokevirtual 133, 3), (74, .istore 4, 2), (76, .aload_n 0, 1), (77, .bipush 27, 2), (79, .iload_n 3, 1), (80, .iload 4, 2), (82, .iload_n 2, 1), (83, .invokevirtual 121, 3), (86, .ireturn, 1), (87, .iload_n 3, 1), (88, .ireturn, 1)]
def mi_M46 : mi_M := (⟨"TypeLoom$Parser", "relation", "(I)I"⟩, prog_6_method_25_code, 5, (some .int), 4, 1, 1, mi_q46, [], [])
def mi_q47 : List (Nat × Instr × Nat) := [(0, .aload_n 0, 1), (1, .aload_n 1, 1), (2, .putfield 17, 3), (5, .aload_n 0, 1), (6, .getfield 17, 3), (9, .invokevirtual 48, 3), (12, .aload_n 0, 1), (13, .iconst 0, 1), (14, .putfield 53, 3), (17, .return_, 1)]
def mi_M47 : mi_M := (⟨"TypeLoom$Parser", "start", "(LTypeLoom$Steps;)V"⟩, prog_6_method_4_code, 2, none, 4, 1, 1, mi_q47, [], [])
def mi_q48 : List (Nat × Instr × Nat) := [(0, .aload_n 0, 1), (1, .invokevirtual 36, 3), (4, .lookupswitch 62 #[(11, 60), (12, 60), (13, 60), (14, 60), (16, 60), (40, 60)], 60), (64, .iconst 1, 1), (65, .ireturn, 1), (66, .iconst 0, 1), (67, .ireturn, 1)]
def mi_M48 : mi_M := (⟨"TypeLoom$Parser", "startsAtom", "()Z"⟩, prog_6_method_29_code, 1, (some .boolean), 4, 1, 0, mi_q48, [], [])
def mi_q49 : List (Nat × Instr × Nat) := [(0, .aload_n 0, 1), (1, .getfield 53, 3), (4, .istore_n 2, 1), (5, .aload_n 0, 1), (6, .iload_n 1, 1), (7, .invokevirtual 136, 3), (10, .istore_n 3, 1), (11, .iconst 0, 1), (12, .istore 4, 2), (14, .iload 4, 2), (16, .sipush 300, 3), (19, .if_icmp .ge 63, 3), (22, .aload_n 0, 1), (23, .invokevirtual 36, 3), (26, .bipush 43, 2), (28, .if_icmp .eq 12, 3), (31, .aload_n 0, 1), (32, .invokevirtual 36, 3), (35, .bipush 45, 2), (37, .if_icmp .ne 45, 3), (40, .aload_n 0, 1), (41, .aload_n 0, 1), (42, .invokevirtual 36, 3), (45, .invokevirtual 40, 3), (48, .aload_n 0, 1), (49, .bipush 13, 2), (51, .iload_n 3, 1), (52, .iconst 0, 1), (53, .iconst 0, 1), (54, .invokevirtual 74, 3), (57, .pop, 1), (58, .aload_n 0, 1), (59, .iload_n 1, 1), (60, .invokevirtual 136, 3), (63, .istore 5, 2), (65, .aload_n 0, 1), (66, .bipush 26, 2), (68, .iload_n 3, 1), (69, .iload 5, 2), (71, .iload_n 2, 1), (72, .invokevirtual 121, 3), (75, .istore_n 3, 1), (76, .iinc 4 1, 3), (79, .goto (-65), 3), (82, .iload_n 3, 1), (83, .ireturn, 1)]
def mi_M49 : mi_M := (⟨"TypeLoom$Parser", "sum", "(I)I"⟩, prog_6_method_26_code, 6, (some .int), 4, 1, 1, mi_q49, [], [])
def mi_q50 : List (Nat × Instr × Nat) := [(0, .aload_n 0, 1), (1, .invokevirtual 36, 3), (4, .iload_n 1, 1), (5, .if_icmp .ne 16, 3), (8, .aload_n 0, 1), (9, .dup, 1), (10, .getfield 53, 3), (13, .iconst 1, 1), (14, .iadd, 1), (15, .putfield 53, 3), (18, .goto 7, 3), (21, .aload_n 0, 1), (22, .invokevirtual 67, 3), (25, .return_, 1)]
def mi_M50 : mi_M := (⟨"TypeLoom$Parser", "take", "(I)V"⟩, prog_6_method_7_code, 2, none, 4, 1, 1, mi_q50, [], [])
def mi_q51 : List (Nat × Instr × Nat) := [(0, .aload_n 0, 1), (1, .invokespecial 1, 3), (4, .aload_n 0, 1), (5, .sipush 300, 3), (8, .newarray .long, 2), (10, .putfield 9, 3), (13, .aload_n 0, 1), (14, .sipush 300, 3), (17, .newarray .int, 2), (19, .putfield 15, 3), (22, .aload_n 0, 1), (23, .sipush 300, 3), (26, .newarray .boolean, 2), (28, .putfield 19, 3), (31, .return_, 1)]
def mi_M51 : mi_M := (⟨"TypeLoom$Scope", "<init>", "()V"⟩, prog_7_method_1_code, 1, none, 5, 2, 0, mi_q51, [], [])
def mi_q52 : List (Nat × Instr × Nat) := [(0, .aload_n 0, 1), (1, .iconst 0, 1), (2, .putfield 23, 3), (5, .return_, 1)]
def mi_M52 : mi_M := (⟨"TypeLoom$Scope", "clear", "()V"⟩, prog_7_method_2_code, 1, none, 5, 1, 0, mi_q52, [], [])
def mi_q53 : List (Nat × Instr × Nat) := [(0, .aload_n 0, 1), (1, .invokespecial 3, 3), (4, .aload_n 0, 1), (5, .sipush 1024, 3), (8, .newarray .int, 2), (10, .putfield 9, 3), (13, .aload_n 0, 1), (14, .sipush 1024, 3), (17, .newarray .int, 2), (19, .putfield 13, 3), (22, .aload_n 0, 1), (23, .sipush 1024, 3), (26, .newarray .int, 2), (28, .putfield 16, 3), (31, .aload_n 0, 1), (32, .sipush 1024, 3), (35, .newarray .int, 2), (37, .putfield 19, 3), (40, .aload_n 0, 1), (41, .sipush 1024, 3), (44, .newarray .int, 2), (46, .putfield 22, 3), (49, .aload_n 0, 1), (50, .sipush 1024, 3), (53, .newarray .int, 2), (55, .putfield 25, 3), (58, .aload_n 0, 1), (59, .sipush 1024, 3), (62, .newarray .int, 2), (64, .putfield 28, 3), (67, .return_, 1)]
def mi_M53 : mi_M := (⟨"TypeLoom$Steps", "<init>", "()V"⟩, prog_8_method_1_code, 1, none, 6, 2, 0, mi_q53, [], [])
def mi_q54 : List (Nat × Instr × Nat) := [(0, .aload_n 0, 1), (1, .iconst 0, 1), (2, .putfield 31, 3), (5, .return_, 1)]
def mi_M54 : mi_M := (⟨"TypeLoom$Steps", "clear", "()V"⟩, prog_8_method_2_code, 1, none, 6, 1, 0, mi_q54, [], [])
def mi_q55 : List (Nat × Instr × Nat) := [(0, .iconst (-1), 1), (1, .istore_n 2, 1), (2, .ldc 43, 2), (4, .istore_n 3, 1), (5, .iconst 0, 1), (6, .istore 4, 2), (8, .iload 4, 2), (10, .aload_n 0, 1), (11, .getfield 31, 3), (14, .if_icmp .ge 93, 3), (17, .aload_n 0, 1), (18, .getfield 9, 3), (21, .iload 4, 2), (23, .iaload, 1), (24, .bipush 19, 2), (26, .if_icmp .lt 29, 3), (29, .aload_n 0, 1), (30, .getfield 22, 3), (33, .iload 4, 2), (35, .iaload, 1), (36, .iload_n 1, 1), (37, .if_icmp .gt 18, 3), (40, .iload_n 1, 1), (41, .aload_n 0, 1), (42, .getfield 25, 3), (45, .iload 4, 2), (47, .iaload, 1), (48, .if_icmp .gt 7, 3), (51, .iconst 1, 1), (52, .goto 4, 3), (55, .iconst 0, 1), (56, .istore 5, 2), (58, .iload 5, 2), (60, .ifCond .eq 41, 3), (63, .aload_n 0, 1), (64, .getfield 25, 3), (67, .iload 4, 2), (69, .iaload, 1), (70, .aload_n 0, 1), (71, .getfield 22, 3), (74, .iload 4, 2), (76, .iaload, 1), (77, .isub, 1), (78, .iload_n 3, 1), (79, .if_icmp .ge 22, 3), (82, .iload 4, 2), (84, .istore_n 2, 1), (85, .aload_n 0, 1), (86, .getfield 25, 3), (89, .iload 4, 2), (91, .iaload, 1), (92, .aload_n 0, 1), (93, .getfield 22, 3), (96, .iload 4, 2), (98, .iaload, 1), (99, .isub, 1), (100, .istore_n 3, 1), (101, .iinc 4 1, 3), (104, .goto (-96), 3), (107, .iload_n 2, 1), (108, .ireturn, 1)]
def mi_M55 : mi_M := (⟨"TypeLoom$Steps", "shortestAround", "(I)I"⟩, prog_8_method_13_code, 6, (some .int), 6, 1, 1, mi_q55, [], [])
def mi_q56 : List (Nat × Instr × Nat) := [(0, .aload_n 0, 1), (1, .getfield 31, 3), (4, .ireturn, 1)]
def mi_M56 : mi_M := (⟨"TypeLoom$Steps", "size", "()I"⟩, prog_8_method_3_code, 1, (some .int), 6, 1, 0, mi_q56, [], [])
def mi_q57 : List (Nat × Instr × Nat) := [(0, .aload_n 0, 1), (1, .invokespecial 1, 3), (4, .aload_n 0, 1), (5, .bipush 13, 2), (7, .newarray .long, 2), (9, .putfield 9, 3), (12, .aload_n 0, 1), (13, .sipush 301, 3), (16, .newarray .int, 2), (18, .putfield 13, 3), (21, .aload_n 0, 1), (22, .sipush 301, 3), (25, .newarray .int, 2), (27, .putfield 17, 3), (30, .aload_n 0, 1), (31, .sipush 301, 3), (34, .newarray .int, 2), (36, .putfield 20, 3), (39, .aload_n 0, 1), (40, .sipush 301, 3), (43, .newarray .long, 2), (45, .putfield 23, 3), (48, .aload_n 0, 1), (49, .aload_n 1, 1), (50, .putfield 26, 3), (53, .iconst 0, 1), (54, .istore_n 2, 1), (55, .iconst 0, 1), (56, .istore_n 3, 1), (57, .iload_n 3, 1), (58, .ldc 30, 2), (60, .invokevirtual 32, 3), (63, .if_icmp .ge 55, 3), (66, .ldc 30, 2), (68, .iload_n 3, 1), (69, .invokevirtual 38, 3), (72, .bipush 32, 2), (74, .if_icmp .ne 9, 3), (77, .iinc 2 1, 3), (80, .goto 32, 3), (83, .iload_n 2, 1), (84, .bipush 13, 2), (86, .if_icmp .ge 26, 3), (89, .aload_n 0, 1), (90, .getfield 9, 3), (93, .iload_n 2, 1), (94, .aload_n 0, 1), (95, .getfield 9, 3), (98, .iload_n 2, 1), (99, .laload, 1), (100, .bipush 8, 2), (102, .lshl, 1), (103, .ldc 30, 2), (105, .iload_n 3, 1), (106, .invokevirtual 38, 3), (109, .i2l, 1), (110, .lor, 1), (111, .lastore, 1), (112, .iinc 3 1, 3), (115, .goto (-58), 3), (118, .return_, 1)]
def mi_M57 : mi_M := (⟨"TypeLoom$Tokens", "<init>", "([B)V"⟩, prog_9_method_1_code, 4, none, 7, 2, 1, mi_q57, [], [])
def mi_q58 : List (Nat × Instr × Nat) := [(0, .aload_n 0, 1), (1, .getfield 55, 3), (4, .sipush 300, 3), (7, .if_icmp .gt 56, 3), (10, .aload_n 0, 1), (11, .getfield 13, 3), (14, .aload_n 0, 1), (15, .getfield 55, 3), (18, .iload_n 1, 1), (19, .iastore, 1), (20, .aload_n 0, 1), (21, .getfield 17, 3), (24, .aload_n 0, 1), (25, .getfield 55, 3), (28, .iload_n 2, 1), (29, .iastore, 1), (30, .aload_n 0, 1), (31, .getfield 20, 3), (34, .aload_n 0, 1), (35, .getfield 55, 3), (38, .iload_n 3, 1), (39, .iconst 1, 1), (40, .isub, 1), (41, .iastore, 1), (42, .aload_n 0, 1), (43, .getfield 23, 3), (46, .aload_n 0, 1), (47, .getfield 55, 3), (50, .lload 4, 2), (52, .lastore, 1), (53, .aload_n 0, 1), (54, .dup, 1), (55, .getfield 55, 3), (58, .iconst 1, 1), (59, .iadd, 1), (60, .putfield 55, 3), (63, .iload_n 3, 1), (64, .ireturn, 1)]
def mi_M58 : mi_M := (⟨"TypeLoom$Tokens", "add", "(IIIJ)I"⟩, prog_9_method_12_code, 6, (some .int), 7, 1, 4, mi_q58, [], [])
def mi_q59 : List (Nat × Instr × Nat) := [(0, .iload_n 1, 1), (1, .ifCond .lt 24, 3), (4, .iload_n 1, 1), (5, .aload_n 0, 1), (6, .getfield 51, 3), (9, .if_icmp .ge 16, 3), (12, .aload_n 0, 1), (13, .getfield 26, 3), (16, .iload_n 1, 1), (17, .baload, 1), (18, .sipush 255, 3), (21, .iand, 1), (22, .goto 4, 3), (25, .iconst (-1), 1), (26, .ireturn, 1)]
def mi_M59 : mi_M := (⟨"TypeLoom$Tokens", "byteOf", "(I)I"⟩, prog_9_method_14_code, 2, (some .int), 7, 1, 1, mi_q59, [], [])
def mi_q60 : List (Nat × Instr × Nat) := [(0, .iload_n 1, 1), (1, .ifCond .lt 20, 3), (4, .iload_n 1, 1), (5, .aload_n 0, 1), (6, .getfield 55, 3), (9, .if_icmp .ge 12, 3), (12, .aload_n 0, 1), (13, .getfield 13, 3), (16, .iload_n 1, 1), (17, .iaload, 1), (18, .goto 5, 3), (21, .bipush 19, 2), (23, .ireturn, 1)]
def mi_M60 : mi_M := (⟨"TypeLoom$Tokens", "kindOf", "(I)I"⟩, prog_9_method_3_code, 2, (some .int), 7, 1, 1, mi_q60, [], [])
def mi_q61 : List (Nat × Instr × Nat) := [(0, .iload_n 1, 1), (1, .istore_n 2, 1), (2, .iload_n 2, 1), (3, .aload_n 0, 1), (4, .getfield 51, 3), (7, .if_icmp .ge 29, 3), (10, .aload_n 0, 1), (11, .iload_n 2, 1), (12, .invokevirtual 68, 3), (15, .bipush 32, 2), (17, .if_icmp .eq 13, 3), (20, .aload_n 0, 1), (21, .iload_n 2, 1), (22, .invokevirtual 68, 3), (25, .bipush 10, 2), (27, .if_icmp .ne 9, 3), (30, .iinc 2 1, 3), (33, .goto (-31), 3), (36, .iload_n 2, 1), (37, .ireturn, 1)]
def mi_M61 : mi_M := (⟨"TypeLoom$Tokens", "pastBlanks", "(I)I"⟩, prog_9_method_13_code, 3, (some .int), 7, 1, 1, mi_q61, [], [])
def mi_q62 : List (Nat × Instr × Nat) := [(0, .iload_n 1, 1), (1, .ifCond .lt 20, 3), (4, .iload_n 1, 1), (5, .aload_n 0, 1), (6, .getfield 55, 3), (9, .if_icmp .ge 12, 3), (12, .aload_n 0, 1), (13, .getfield 17, 3), (16, .iload_n 1, 1), (17, .iaload, 1), (18, .goto 7, 3), (21, .aload_n 0, 1), (22, .getfield 51, 3), (25, .ireturn, 1)]
def mi_M62 : mi_M := (⟨"TypeLoom$Tokens", "placeOf", "(I)I"⟩, prog_9_method_4_code, 2, (some .int), 7, 1, 1, mi_q62, [], [])
def mi_q63 : List (Nat × Instr × Nat) := [(0, .aload_n 0, 1), (1, .iload_n 1, 1), (2, .iconst 0, 1), (3, .invokestatic 42, 3), (6, .aload_n 0, 1), (7, .getfield 26, 3), (10, .arraylength, 1), (11, .invokestatic 48, 3), (14, .putfield 51, 3), (17, .aload_n 0, 1), (18, .iconst 0, 1), (19, .putfield 55, 3), (22, .iconst 0, 1), (23, .istore_n 2, 1), (24, .iconst 1, 1), (25, .istore_n 3, 1), (26, .iconst 0, 1), (27, .istore 4, 2), (29, .iload 4, 2), (31, .sipush 300, 3), (34, .if_icmp .gt 51, 3), (37, .iload_n 3, 1), (38, .ifCond .eq 47, 3), (41, .aload_n 0, 1), (42, .aload_n 0, 1), (43, .iload_n 2, 1), (44, .invokevirtual 58, 3), (47, .invokevirtual 62, 3), (50, .istore_n 2, 1), (51, .aload_n 0, 1), (52, .iload 4, 2), (54, .invokevirtual 65, 3), (57, .bipush 18, 2), (59, .if_icmp .eq 18, 3), (62, .aload_n 0, 1), (63, .iload 4, 2), (65, .invokevirtual 65, 3), (68, .bipush 19, 2), (70, .if_icmp .eq 7, 3), (73, .iconst 1, 1), (74, .goto 4, 3), (77, .iconst 0, 1), (78, .istore_n 3, 1), (79, .iinc 4 1, 3), (82, .goto (-53), 3), (85, .return_, 1)]
def mi_M63 : mi_M := (⟨"TypeLoom$Tokens", "read", "(I)V"⟩, prog_9_method_2_code, 5, none, 7, 1, 1, mi_q63, [], [])
def mi_q64 : List (Nat × Instr × Nat) := [(0, .aload_n 0, 1), (1, .iload_n 1, 1), (2, .invokevirtual 68, 3), (5, .istore_n 2, 1), (6, .iload_n 2, 1), (7, .ifCond .ge 15, 3), (10, .aload_n 0, 1), (11, .bipush 18, 2), (13, .iload_n 1, 1), (14, .iload_n 1, 1), (15, .iconst 1, 1), (16, .iadd, 1), (17, .lconst 0, 1), (18, .invokevirtual 71, 3), (21, .ireturn, 1), (22, .aload_n 0, 1), (23, .getfield 55, 3), (26, .sipush 300, 3), (29, .if_icmp .lt 15, 3), (32, .aload_n 0, 1), (33, .bipush 19, 2), (35, .iload_n 1, 1), (36, .iload_n 1, 1), (37, .iconst 1, 1), (38, .iadd, 1), (39, .lconst 0, 1), (40, .invokevirtual 71, 3), (43, .ireturn, 1), (44, .iload_n 2, 1), (45, .invokestatic 75, 3), (48, .ifCond .ne 10, 3), (51, .iload_n 2, 1), (52, .invokestatic 79, 3), (55, .ifCond .eq 23, 3), (58, .aload_n 0, 1), (59, .iload_n 1, 1), (60, .iload_n 2, 1), (61, .invokestatic 75, 3), (64, .ifCond .eq 8, 3), (67, .bipush 13, 2), (69, .goto 5, 3), (72, .bipush 14, 2), (74, .invokevirtual 82, 3), (77, .ireturn, 1), (78, .iload_n 2, 1), (79, .invokestatic 85, 3), (82, .ifCond .eq 9, 3), (85, .aload_n 0, 1), (86, .iload_n 1, 1), (87, .invokevirtual 88, 3), (90, .ireturn, 1), (91, .iload_n 2, 1), (92, .bipush 39, 2), (94, .if_icmp .ne 36, 3), (97, .aload_n 0, 1), (98, .iload_n 1, 1), (99, .iconst 1, 1), (100, .iadd, 1), (101, .invokevirtual 68, 3), (104, .istore_n 3, 1), (105, .aload_n 0, 1), (106, .iload_n 3, 1), (107, .invokestatic 75, 3), (110, .ifCond .eq 8, 3), (113, .bipush 15, 2), (115, .goto 5, 3), (118, .bipush 19, 2), (120, .iload_n 1, 1), (121, .iload_n 1, 1), (122, .iconst 2, 1), (123, .iadd, 1), (124, .iload_n 3, 1), (125, .i2l, 1), (126, .invokevirtual 71, 3), (129, .ireturn, 1), (130, .aload_n 0, 1), (131, .iload_n 1, 1), (132, .iload_n 2, 1), (133, .invokevirtual 91, 3), (136, .ireturn, 1)]
def mi_M64 : mi_M := (⟨"TypeLoom$Tokens", "readToken", "(I)I"⟩, prog_9_method_7_code, 4, (some .int), 7, 1, 1, mi_q64, [], [])
def mi_q65 : List (Nat × Instr × Nat) := [(0, .aload_n 0, 1), (1, .invokespecial 1, 3), (4, .aload_n 0, 1), (5, .sipush 512, 3), (8, .newarray .int, 2), (10, .putfield 9, 3), (13, .aload_n 0, 1), (14, .sipush 1536, 3), (17, .newarray .int, 2), (19, .putfield 13, 3), (22, .aload_n 0, 1), (23, .sipush 512, 3), (26, .newarray .int, 2), (28, .putfield 16, 3), (31, .aload_n 0, 1), (32, .sipush 512, 3), (35, .newarray .int, 2), (37, .putfield 19, 3), (40, .aload_n 0, 1), (41, .sipush 512, 3), (44, .newarray .int, 2), (46, .putfield 22, 3), (49, .aload_n 0, 1), (50, .sipush 512, 3), (53, .newarray .int, 2), (55, .putfield 25, 3), (58, .aload_n 0, 1), (59, .sipush 512, 3), (62, .newarray .int, 2), (64, .putfield 28, 3), (67, .aload_n 0, 1), (68, .sipush 512, 3), (71, .putfield 31, 3), (74, .aload_n 0, 1), (75, .getfield 9, 3), (78, .iconst 1, 1), (79, .iconst 1, 1), (80, .iastore, 1), (81, .aload_n 0, 1), (82, .getfield 9, 3), (85, .iconst 2, 1), (86, .iconst 2, 1), (87, .iastore, 1), (88, .aload_n 0, 1), (89, .getfield 16, 3), (92, .iconst 1, 1), (93, .iconst 1, 1), (94, .iastore, 1), (95, .aload_n 0, 1), (96, .getfield 16, 3), (99, .iconst 2, 1), (100, .iconst 2, 1), (101, .iastore, 1), (102, .aload_n 0, 1), (103, .iconst 3, 1), (104, .putfield 35, 3), (107, .aload_n 0, 1), (108, .aload_n 0, 1), (109, .getfield 35, 3), (112, .putfield 38, 3), (115, .return_, 1)]
def mi_M65 : mi_M := (⟨"TypeLoom$Types", "<init>", "()V"⟩, prog_10_method_1_code, 1, none, 8, 2, 0, mi_q65, [], [])
def mi_q66 : List (Nat × Instr × Nat) := [(0, .iload_n 1, 1), (1, .iconst 2, 1), (2, .if_icmp .le 21, 3), (5, .iload_n 1, 1), (6, .aload_n 0, 1), (7, .getfield 35, 3), (10, .if_icmp .gt 13, 3), (13, .aload_n 0, 1), (14, .iload_n 1, 1), (15, .putfield 35, 3), (18, .aload_n 0, 1), (19, .iload_n 1, 1), (20, .putfield 38, 3), (23, .return_, 1)]
def mi_M66 : mi_M := (⟨"TypeLoom$Types", "cut", "(I)V"⟩, prog_10_method_8_code, 2, none, 8, 1, 1, mi_q66, [], [])
def mi_q67 : List (Nat × Instr × Nat) := [(0, .aload_n 0, 1), (1, .aload_n 0, 1), (2, .getfield 38, 3), (5, .putfield 35, 3), (8, .return_, 1)]
def mi_M67 : mi_M := (⟨"TypeLoom$Types", "dropLoose", "()V"⟩, prog_10_method_10_code, 1, none, 8, 1, 0, mi_q67, [], [])
def mi_q68 : List (Nat × Instr × Nat) := [(0, .aload_n 0, 1), (1, .getfield 35, 3), (4, .ireturn, 1)]
def mi_M68 : mi_M := (⟨"TypeLoom$Types", "extent", "()I"⟩, prog_10_method_7_code, 1, (some .int), 8, 1, 0, mi_q68, [], [])
def mi_q69 : List (Nat × Instr × Nat) := [(0, .aload_n 0, 1), (1, .bipush 6, 2), (3, .iload_n 1, 1), (4, .iload_n 2, 1), (5, .iconst 0, 1), (6, .invokevirtual 48, 3), (9, .ireturn, 1)]
def mi_M69 : mi_M := (⟨"TypeLoom$Types", "function", "(II)I"⟩, prog_10_method_6_code, 3, (some .int), 8, 1, 2, mi_q69, [], [])
def mi_q70 : List (Nat × Instr × Nat) := [(0, .aload_n 0, 1), (1, .aload_n 0, 1), (2, .getfield 35, 3), (5, .putfield 38, 3), (8, .return_, 1)]
def mi_M70 : mi_M := (⟨"TypeLoom$Types", "keep", "()V"⟩, prog_10_method_9_code, 1, none, 8, 1, 0, mi_q70, [], [])
def mi_q71 : List (Nat × Instr × Nat) := [(0, .aload_n 0, 1), (1, .getfield 35, 3), (4, .aload_n 0, 1), (5, .getfield 31, 3), (8, .if_icmp .lt 129, 3), (11, .aload_n 0, 1), (12, .getfield 31, 3), (15, .ldc 41, 2), (17, .if_icmp .ge 120, 3), (20, .aload_n 0, 1), (21, .aload_n 0, 1), (22, .getfield 31, 3), (25, .iconst 2, 1), (26, .imul, 1), (27, .putfield 31, 3), (30, .aload_n 0, 1), (31, .aload_n 0, 1), (32, .getfield 9, 3), (35, .aload_n 0, 1), (36, .getfield 31, 3), (39, .invokestatic 42, 3), (42, .putfield 9, 3), (45, .aload_n 0, 1), (46, .aload_n 0, 1), (47, .getfield 13, 3), (50, .aload_n 0, 1), (51, .getfield 31, 3), (54, .iconst 3, 1), (55, .imul, 1), (56, .invokestatic 42, 3), (59, .putfield 13, 3), (62, .aload_n 0, 1), (63, .aload_n 0, 1), (64, .getfield 16, 3), (67, .aload_n 0, 1), (68, .getfield 31, 3), (71, .invokestatic 42, 3), (74, .putfield 16, 3), (77, .aload_n 0, 1), (78, .aload_n 0, 1), (79, .getfield 19, 3), (82, .aload_n 0, 1), (83, .getfield 31, 3), (86, .invokestatic 42, 3), (89, .putfield 19, 3), (92, .aload_n 0, 1), (93, .aload_n 0, 1), (94, .getfield 22, 3), (97, .aload_n 0, 1), (98, .getfield 31, 3), (101, .invokestatic 42, 3), (104, .putfield 22, 3), (107, .aload_n 0, 1), (108, .aload_n 0, 1), (109, .getfield 25, 3), (112, .aload_n 0, 1), (113, .getfield 31, 3), (116, .invokestatic 42, 3), (119, .putfield 25, 3), (122, .aload_n 0, 1), (123, .aload_n 0, 1), (124, .getfield 28, 3), (127, .aload_n 0, 1), (128, .getfield 31, 3), (131, .invokestatic 42, 3), (134, .putfield 28, 3), (137, .aload_n 0, 1), (138, .getfield 35, 3), (141, .aload_n 0, 1), (142, .getfield 31, 3), (145, .if_icmp .lt 5, 3), (148, .iconst 0, 1), (149, .ireturn, 1), (150, .aload_n 0, 1), (151, .getfield 35, 3), (154, .istore 5, 2), (156, .aload_n 0, 1), (157, .dup, 1), (158, .getfield 35, 3), (161, .iconst 1, 1), (162, .iadd, 1), (163, .putfield 35, 3), (166, .aload_n 0, 1), (167, .getfield 9, 3), (170, .iload 5, 2), (172, .iload_n 1, 1), (173, .iastore, 1), (174, .aload_n 0, 1), (175, .getfield 16, 3), (178, .iload 5, 2), (180, .iload 5, 2), (182, .iastore, 1), (183, .aload_n 0, 1), (184, .getfield 19, 3), (187, .iload 5, 2), (189, .iconst 0, 1), (190, .iastore, 1), (191, .aload_n 0, 1), (192, .getfield 22, 3), (195, .iload 5, 2), (197, .iconst 0, 1), (198, .iastore, 1), (199, .aload_n 0, 1), (200, .getfield 13, 3), (203, .iload 5, 2), (205, .iconst 3, 1), (206, .imul, 1), (207, .iload_n 2, 1), (208, .iastore, 1), (209, .aload_n 0, 1), (210, .getfield 13, 3), (213, .iload 5, 2), (215, .iconst 3, 1), (216, .imul, 1), (217, .iconst 1, 1), (218, .iadd, 1), (219, .iload_n 3, 1), (220, .iastore, 1), (221, .aload_n 0, 1), (222, .getfield 13, 3), (225, .iload 5, 2), (227, .iconst 3, 1), (228, .imul, 1), (229, .iconst 2, 1), (230, .iadd, 1), (231, .iload 4, 2), (233, .iastore, 1), (234, .iload 5, 2), (236, .ireturn, 1)]
def mi_M71 : mi_M := (⟨"TypeLoom$Types", "make", "(IIII)I"⟩, prog_10_method_2_code, 6, (some .int), 8, 1, 4, mi_q71, [], [])
def mi_q72 : List (Nat × Instr × Nat) := [(0, .aload_n 0, 1), (1, .iconst 4, 1), (2, .iconst 0, 1), (3, .iconst 0, 1), (4, .iconst 0, 1), (5, .invokevirtual 48, 3), (8, .ireturn, 1)]
def mi_M72 : mi_M := (⟨"TypeLoom$Types", "mark", "()I"⟩, prog_10_method_4_code, 1, (some .int), 8, 1, 0, mi_q72, [], [])
def mi_q73 : List (Nat × Instr × Nat) := [(0, .aload_n 0, 1), (1, .iconst 5, 1), (2, .iload_n 1, 1), (3, .iload_n 2, 1), (4, .iconst 0, 1), (5, .invokevirtual 48, 3), (8, .ireturn, 1)]
def mi_M73 : mi_M := (⟨"TypeLoom$Types", "pair", "(II)I"⟩, prog_10_method_5_code, 3, (some .int), 8, 1, 2, mi_q73, [], [])
def mi_q74 : List (Nat × Instr × Nat) := [(0, .aload_n 0, 1), (1, .invokespecial 1, 3), (4, .aload_n 0, 1), (5, .sipush 400, 3), (8, .newarray .byte, 2), (10, .putfield 9, 3), (13, .aload_n 0, 1), (14, .sipush 1024, 3), (17, .newarray .int, 2), (19, .putfield 13, 3), (22, .aload_n 0, 1), (23, .aload_n 1, 1), (24, .putfield 17, 3), (27, .aload_n 0, 1), (28, .aload_n 2, 1), (29, .putfield 21, 3), (32, .return_, 1)]
def mi_M74 : mi_M := (⟨"TypeLoom$Writer", "<init>", "(LTypeLoom$Types;LTypeLoom$Known;)V"⟩, prog_11_method_1_code, 3, none, 9, 2, 2, mi_q74, [], [])
def mi_q75 : List (Nat × Instr × Nat) := [(0, .aload_n 0, 1), (1, .getfield 25, 3), (4, .ireturn, 1)]
def mi_M75 : mi_M := (⟨"TypeLoom$Writer", "size", "()I"⟩, prog_11_method_2_code, 1, (some .int), 9, 1, 0, mi_q75, [], [])
def mi_q76 : List (Nat × Instr × Nat) := [(0, .aload_n 2, 1), (1, .iconst 0, 1), (2, .aload_n 0, 1), (3, .iload_n 1, 1), (4, .invokevirtual 35, 3), (7, .i2l, 1), (8, .lastore, 1), (9, .goto 6, 3), (12, .astore_n 3, 1), (13, .iconst 1, 1), (14, .ireturn, 1), (15, .iconst 0, 1), (16, .ireturn, 1)]
def mi_M76 : mi_M := (⟨"TypeLoomLaw", "byteAt", "(LTypeLoom;I[J)I"⟩, method_9_code, 4, (some .int), 12, 3, 3, mi_q76, [], [(0, 9, 12, 24)])
def mi_q77 : List (Nat × Instr × Nat) := [(0, .aload_n 2, 1), (1, .iconst 0, 1), (2, .aload_n 0, 1), (3, .iload_n 1, 1), (4, .invokevirtual 21, 3), (7, .i2l, 1), (8, .lastore, 1), (9, .goto 6, 3), (12, .astore_n 3, 1), (13, .iconst 1, 1), (14, .ireturn, 1), (15, .iconst 0, 1), (16, .ireturn, 1)]
def mi_M77 : mi_M := (⟨"TypeLoomLaw", "count", "(LTypeLoom;I[J)I"⟩, method_5_code, 4, (some .int), 12, 3, 3, mi_q77, [], [(0, 9, 12, 24)])
def mi_q78 : List (Nat × Instr × Nat) := [(0, .aload_n 3, 1), (1, .iconst 0, 1), (2, .aload_n 0, 1), (3, .iload_n 1, 1), (4, .iload_n 2, 1), (5, .invokevirtual 45, 3), (8, .ifCond .eq 7, 3), (11, .lconst 1, 1), (12, .goto 4, 3), (15, .lconst 0, 1), (16, .lastore, 1), (17, .goto 7, 3), (20, .astore 4, 2), (22, .iconst 1, 1), (23, .ireturn, 1), (24, .iconst 0, 1), (25, .ireturn, 1)]
def mi_M78 : mi_M := (⟨"TypeLoomLaw", "covers", "(LTypeLoom;II[J)I"⟩, method_12_code, 5, (some .int), 12, 3, 4, mi_q78, [], [(0, 17, 20, 24)])
def mi_q79 : List (Nat × Instr × Nat) := [(0, .aload 6, 2), (2, .iconst 0, 1), (3, .aload_n 0, 1), (4, .iload_n 1, 1), (5, .iload_n 2, 1), (6, .iload_n 3, 1), (7, .iload 4, 2), (9, .iload 5, 2), (11, .invokevirtual 7, 3), (14, .i2l, 1), (15, .lastore, 1), (16, .goto 7, 3), (19, .astore 7, 2), (21, .iconst 1, 1), (22, .ireturn, 1), (23, .iconst 0, 1), (24, .ireturn, 1)]
def mi_M79 : mi_M := (⟨"TypeLoomLaw", "feed", "(LTypeLoom;IIIII[J)I"⟩, method_3_code, 8, (some .int), 12, 3, 7, mi_q79, [], [(0, 16, 19, 13)])
def mi_q80 : List (Nat × Instr × Nat) := [(0, .aload_n 3, 1), (1, .iconst 0, 1), (2, .aload_n 0, 1), (3, .iload_n 1, 1), (4, .iload_n 2, 1), (5, .invokevirtual 38, 3), (8, .i2l, 1), (9, .lastore, 1), (10, .goto 7, 3), (13, .astore 4, 2), (15, .iconst 1, 1), (16, .ireturn, 1), (17, .iconst 0, 1), (18, .ireturn, 1)]
def mi_M80 : mi_M := (⟨"TypeLoomLaw", "measure", "(LTypeLoom;II[J)I"⟩, method_10_code, 5, (some .int), 12, 3, 4, mi_q80, [], [(0, 10, 13, 24)])
def mi_q81 : List (Nat × Instr × Nat) := [(0, .aload_n 3, 1), (1, .iconst 0, 1), (2, .aload_n 0, 1), (3, .iload_n 1, 1), (4, .iload_n 2, 1), (5, .invokevirtual 49, 3), (8, .i2l, 1), (9, .lastore, 1), (10, .goto 11, 3), (13, .astore 4, 2), (15, .iconst 1, 1), (16, .ireturn, 1), (17, .astore 4, 2), (19, .iconst 2, 1), (20, .ireturn, 1), (21, .iconst 0, 1), (22, .ireturn, 1)]
def mi_M81 : mi_M := (⟨"TypeLoomLaw", "meet", "(LTypeLoom;II[J)I"⟩, method_13_code, 5, (some .int), 12, 3, 4, mi_q81, [], [(0, 10, 13, 24), (0, 10, 17, 13)])
def mi_q82 : List (Nat × Instr × Nat) := [(0, .aload_n 2, 1), (1, .iconst 0, 1), (2, .aload_n 0, 1), (3, .iload_n 1, 1), (4, .invokevirtual 15, 3), (7, .i2l, 1), (8, .lastore, 1), (9, .goto 6, 3), (12, .astore_n 3, 1), (13, .iconst 1, 1), (14, .ireturn, 1), (15, .iconst 0, 1), (16, .ireturn, 1)]
def mi_M82 : mi_M := (⟨"TypeLoomLaw", "trim", "(LTypeLoom;I[J)I"⟩, method_4_code, 4, (some .int), 12, 3, 3, mi_q82, [], [(0, 9, 12, 19)])
def mi_q83 : List (Nat × Instr × Nat) := [(0, .aload_n 3, 1), (1, .iconst 0, 1), (2, .aload_n 0, 1), (3, .iload_n 1, 1), (4, .iload_n 2, 1), (5, .invokevirtual 42, 3), (8, .i2l, 1), (9, .lastore, 1), (10, .goto 7, 3), (13, .astore 4, 2), (15, .iconst 1, 1), (16, .ireturn, 1), (17, .iconst 0, 1), (18, .ireturn, 1)]
def mi_M83 : mi_M := (⟨"TypeLoomLaw", "uses", "(LTypeLoom;II[J)I"⟩, method_11_code, 5, (some .int), 12, 3, 4, mi_q83, [], [(0, 10, 13, 24)])
def mi_q84 : List (Nat × Instr × Nat) := [(0, .aload_n 2, 1), (1, .iconst 0, 1), (2, .aload_n 0, 1), (3, .iload_n 1, 1), (4, .invokevirtual 26, 3), (7, .i2l, 1), (8, .lastore, 1), (9, .goto 9, 3), (12, .astore_n 3, 1), (13, .iconst 1, 1), (14, .ireturn, 1), (15, .astore_n 3, 1), (16, .iconst 2, 1), (17, .ireturn, 1), (18, .iconst 0, 1), (19, .ireturn, 1)]
def mi_M84 : mi_M := (⟨"TypeLoomLaw", "write", "(LTypeLoom;I[J)I"⟩, method_6_code, 4, (some .int), 12, 3, 3, mi_q84, [], [(0, 9, 12, 24), (0, 9, 15, 13)])
def mi_q85 : List (Nat × Instr × Nat) := [(0, .aload_n 2, 1), (1, .iconst 0, 1), (2, .aload_n 0, 1), (3, .iload_n 1, 1), (4, .invokevirtual 32, 3), (7, .i2l, 1), (8, .lastore, 1), (9, .goto 9, 3), (12, .astore_n 3, 1), (13, .iconst 1, 1), (14, .ireturn, 1), (15, .astore_n 3, 1), (16, .iconst 2, 1), (17, .ireturn, 1), (18, .iconst 0, 1), (19, .ireturn, 1)]
def mi_M85 : mi_M := (⟨"TypeLoomLaw", "writeAt", "(LTypeLoom;I[J)I"⟩, method_8_code, 4, (some .int), 12, 3, 3, mi_q85, [], [(0, 9, 12, 24), (0, 9, 15, 13)])
def mi_q86 : List (Nat × Instr × Nat) := [(0, .aload_n 2, 1), (1, .iconst 0, 1), (2, .aload_n 0, 1), (3, .iload_n 1, 1), (4, .invokevirtual 29, 3), (7, .i2l, 1), (8, .lastore, 1), (9, .goto 9, 3), (12, .astore_n 3, 1), (13, .iconst 1, 1), (14, .ireturn, 1), (15, .astore_n 3, 1), (16, .iconst 2, 1), (17, .ireturn, 1), (18, .iconst 0, 1), (19, .ireturn, 1)]
def mi_M86 : mi_M := (⟨"TypeLoomLaw", "writeConstructor", "(LTypeLoom;I[J)I"⟩, method_7_code, 4, (some .int), 12, 3, 3, mi_q86, [], [(0, 9, 12, 24), (0, 9, 15, 13)])
def mi_q87 : List (Nat × Instr × Nat) := [(0, .aload_n 0, 1), (1, .invokespecial 1, 3), (4, .aload_n 0, 1), (5, .sipush 1200, 3), (8, .newarray .int, 2), (10, .putfield 9, 3), (13, .aload_n 0, 1), (14, .iconst (-1), 1), (15, .putfield 13, 3), (18, .aload_n 0, 1), (19, .sipush 1201, 3), (22, .newarray .int, 2), (24, .putfield 17, 3), (27, .aload_n 0, 1), (28, .sipush 1201, 3), (31, .newarray .int, 2), (33, .putfield 20, 3), (36, .aload_n 0, 1), (37, .sipush 1201, 3), (40, .newarray .int, 2), (42, .putfield 23, 3), (45, .aload_n 0, 1), (46, .sipush 400, 3), (49, .newarray .int, 2), (51, .putfield 26, 3), (54, .aload_n 0, 1), (55, .ldc 29, 2), (57, .newarray .int, 2), (59, .putfield 30, 3), (62, .aload_n 0, 1), (63, .ldc 29, 2), (65, .newarray .int, 2), (67, .putfield 33, 3), (70, .aload_n 0, 1), (71, .ldc 29, 2), (73, .newarray .int, 2), (75, .putfield 36, 3), (78, .aload_n 0, 1), (79, .ldc 29, 2), (81, .newarray .int, 2), (83, .putfield 39, 3), (86, .aload_n 0, 1), (87, .ldc 29, 2), (89, .newarray .int, 2), (91, .putfield 42, 3), (94, .aload_n 0, 1), (95, .ldc 29, 2), (97, .newarray .int, 2), (99, .putfield 45, 3), (102, .aload_n 0, 1), (103, .ldc 29, 2), (105, .newarray .int, 2), (107, .putfield 48, 3), (110, .aload_n 0, 1), (111, .ldc 29, 2), (113, .newarray .int, 2), (115, .putfield 51, 3), (118, .aload_n 0, 1), (119, .ldc 29, 2), (121, .newarray .int, 2), (123, .putfield 54, 3), (126, .aload_n 0, 1), (127, .ldc 29, 2), (129, .newarray .int, 2), (131, .putfield 57, 3), (134, .aload_n 0, 1), (135, .ldc 29, 2), (137, .newarray .int, 2), (139, .putfield 60, 3), (142, .aload_n 0, 1), (143, .ldc 29, 2), (145, .newarray .int, 2), (147, .putfield 63, 3), (150, .aload_n 0, 1), (151, .bipush 7, 2), (153, .newarray .long, 2), (155, .putfield 66, 3), (158, .aload_n 0, 1), (159, .bipush 7, 2), (161, .newarray .int, 2), (163, .putfield 70, 3), (166, .aload_n 0, 1), (167, .bipush 26, 2), (169, .newarray .long, 2), (171, .putfield 73, 3), (174, .aload_n 0, 1), (175, .bipush 26, 2), (177, .newarray .int, 2), (179, .putfield 76, 3), (182, .aload_n 0, 1), (183, .bipush 26, 2), (185, .newarray .int, 2), (187, .putfield 79, 3), (190, .aload_n 0, 1), (191, .bipush 24, 2), (193, .newarray .long, 2), (195, .putfield 82, 3), (198, .aload_n 0, 1), (199, .bipush 24, 2), (201, .newarray .int, 2), (203, .putfield 85, 3), (206, .aload_n 0, 1), (207, .sipush 576, 3), (210, .newarray .int, 2), (212, .putfield 88, 3), (215, .aload_n 0, 1), (216, .sipush 1300, 3), (219, .newarray .int, 2), (221, .putfield 91, 3), (224, .aload_n 0, 1), (225, .sipush 1300, 3), (228, .newarray .int, 2), (230, .putfield 94, 3), (233, .aload_n 0, 1), (234, .sipush 1300, 3), (237, .newarray .int, 2), (239, .putfield 97, 3), (242, .aload_n 0, 1), (243, .sipush 1300, 3), (246, .newarray .int, 2), (248, .putfield 100, 3), (251, .aload_n 0, 1), (252, .sipush 1300, 3), (255, .newarray .int, 2), (257, .putfield 103, 3), (260, .aload_n 0, 1), (261, .sipush 1300, 3), (264, .newarray .int, 2), (266, .putfield 106, 3), (269, .aload_n 0, 1), (270, .sipush 1300, 3), (273, .newarray .int, 2), (275, .putfield 109, 3), (278, .aload_n 0, 1), (279, .sipush 1300, 3), (282, .newarray .int, 2), (284, .putfield 112, 3), (287, .aload_n 0, 1), (288, .sipush 301, 3), (291, .newarray .long, 2), (293, .putfield 115, 3), (296, .aload_n 0, 1), (297, .sipush 301, 3), (300, .newarray .int, 2), (302, .putfield 118, 3), (305, .aload_n 0, 1), (306, .sipush 301, 3), (309, .newarray .int, 2), (311, .putfield 121, 3), (314, .aload_n 0, 1), (315, .bipush 26, 2), (317, .newarray .int, 2), (319, .putfield 124, 3), (322, .aload_n 0, 1), (323, .ldc 29, 2), (325, .newarray .int, 2), (327, .putfield 127, 3), (330, .aload_n 0, 1), (331, .ldc 29, 2), (333, .newarray .int, 2), (335, .putfield 130, 3), (338, .aload_n 0, 1), (339, .sipush 1300, 3), (342, .newarray .long, 2), (344, .putfield 133, 3), (347, .aload_n 0, 1), (348, .sipush 400, 3), (351, .newarray .int, 2), (353, .putfield 136, 3), (356, .aload_n 0, 1), (357, .sipush 400, 3), (360, .newarray .int, 2), (362, .putfield 139, 3), (365, .aload_n 0, 1), (366, .invokevirtual 142, 3), (369, .return_, 1)]
def mi_M87 : mi_M := (⟨"TypeLoomModel", "<init>", "()V"⟩, prog_13_method_1_code, 1, none, 11, 2, 0, mi_q87, [], [])
def mi_q88 : List (Nat × Instr × Nat) := [(0, .aload_n 0, 1), (1, .iconst 0, 1), (2, .putfield 145, 3), (5, .aload_n 0, 1), (6, .iconst 0, 1), (7, .putfield 411, 3), (10, .aload_n 0, 1), (11, .iconst (-1), 1), (12, .putfield 13, 3), (15, .aload_n 0, 1), (16, .invokevirtual 563, 3), (19, .aload_n 0, 1), (20, .iconst 0, 1), (21, .putfield 305, 3), (24, .aload_n 0, 1), (25, .iconst 0, 1), (26, .invokevirtual 343, 3), (29, .ifCond .eq 15, 3), (32, .aload_n 0, 1), (33, .getfield 17, 3), (36, .aload_n 0, 1), (37, .getfield 305, 3), (40, .iaload, 1), (41, .ifCond .eq 18, 3), (44, .aload_n 0, 1), (45, .iconst 1, 1), (46, .aload_n 0, 1), (47, .getfield 20, 3), (50, .aload_n 0, 1), (51, .getfield 305, 3), (54, .iaload, 1), (55, .invokevirtual 424, 3), (58, .pop, 1), (59, .aload_n 0, 1), (60, .iconst 0, 1), (61, .putfield 305, 3), (64, .aload_n 0, 1), (65, .aload_n 0, 1), (66, .getfield 215, 3), (69, .putfield 212, 3), (72, .aload_n 0, 1), (73, .aload_n 0, 1), (74, .getfield 218, 3), (77, .putfield 148, 3), (80, .aload_n 0, 1), (81, .getfield 20, 3), (84, .iconst 0, 1), (85, .iaload, 1), (86, .istore_n 1, 1), (87, .aload_n 0, 1), (88, .getfield 411, 3), (91, .ifCond .ne 47, 3), (94, .aload_n 0, 1), (95, .invokevirtual 471, 3), (98, .istore_n 2, 1), (99, .aload_n 0, 1), (100, .iconst (-1), 1), (101, .putfield 474, 3), (104, .aload_n 0, 1), (105, .iconst 0, 1), (106, .putfield 486, 3), (109, .aload_n 0, 1), (110, .iload_n 2, 1), (111, .invokevirtual 489, 3), (114, .istore_n 3, 1), (115, .aload_n 0, 1), (116, .getfield 411, 3), (119, .ifCond .ne 19, 3), (122, .aload_n 0, 1), (123, .iload_n 3, 1), (124, .invokevirtual 610, 3), (127, .ifCond .ne 11, 3), (130, .aload_n 0, 1), (131, .bipush 9, 2), (133, .iload_n 1, 1), (134, .invokevirtual 424, 3), (137, .pop, 1), (138, .aload_n 0, 1), (139, .iconst 0, 1), (140, .putfield 247, 3), (143, .aload_n 0, 1), (144, .aload_n 0, 1), (145, .getfield 215, 3), (148, .putfield 212, 3), (151, .aload_n 0, 1), (152, .getfield 411, 3), (155, .ireturn, 1)]
def mi_M88 : mi_M := (⟨"TypeLoomModel", "ask", "()I"⟩, prog_13_method_114_code, 4, (some .int), 11, 1, 0, mi_q88, [], [])
def mi_q89 : List (Nat × Instr × Nat) := [(0, .aload_n 0, 1), (1, .invokevirtual 406, 3), (4, .ifCond .ne 5, 3), (7, .iconst 0, 1), (8, .ireturn, 1), (9, .aload_n 0, 1), (10, .ldc_w 354, 3), (13, .invokevirtual 308, 3), (16, .ifCond .ne 8, 3), (19, .aload_n 0, 1), (20, .invokevirtual 312, 3), (23, .ireturn, 1), (24, .aload_n 0, 1), (25, .invokevirtual 312, 3), (28, .ifCond .eq 54, 3), (31, .aload_n 0, 1), (32, .iload_n 1, 1), (33, .iconst 1, 1), (34, .iadd, 1), (35, .invokevirtual 343, 3), (38, .ifCond .eq 44, 3), (41, .aload_n 0, 1), (42, .ldc_w 409, 3), (45, .invokevirtual 308, 3), (48, .ifCond .eq 20, 3), (51, .aload_n 0, 1), (52, .invokevirtual 312, 3), (55, .ifCond .eq 27, 3), (58, .aload_n 0, 1), (59, .iload_n 1, 1), (60, .iconst 1, 1), (61, .iadd, 1), (62, .invokevirtual 343, 3), (65, .ifCond .eq 17, 3), (68, .aload_n 0, 1), (69, .ldc_w 356, 3), (72, .invokevirtual 323, 3), (75, .ifCond .eq 7, 3), (78, .iconst 1, 1), (79, .goto 4, 3), (82, .iconst 0, 1), (83, .ireturn, 1)]
def mi_M89 : mi_M := (⟨"TypeLoomModel", "atomForm", "(I)Z"⟩, prog_13_method_49_code, 2, (some .boolean), 11, 1, 1, mi_q89, [], [])
def mi_q90 : List (Nat × Instr × Nat) := [(0, .aload_n 0, 1), (1, .iconst 0, 1), (2, .putfield 145, 3), (5, .iload_n 1, 1), (6, .iconst 0, 1), (7, .aload_n 0, 1), (8, .getfield 572, 3), (11, .iconst 1, 1), (12, .isub, 1), (13, .invokestatic 253, 3), (16, .ifCond .eq 12, 3), (19, .aload_n 0, 1), (20, .getfield 26, 3), (23, .iload_n 1, 1), (24, .iaload, 1), (25, .goto 8, 3), (28, .aload_n 0, 1), (29, .iconst 1, 1), (30, .invokevirtual 250, 3), (33, .ireturn, 1)]
def mi_M90 : mi_M := (⟨"TypeLoomModel", "byteAt", "(I)I"⟩, prog_13_method_104_code, 2, (some .int), 11, 1, 1, mi_q90, [], [])
def mi_q91 : List (Nat × Instr × Nat) := [(0, .aload_n 0, 1), (1, .iload_n 1, 1), (2, .invokevirtual 403, 3), (5, .ifCond .ne 5, 3), (8, .iconst 0, 1), (9, .ireturn, 1), (10, .aload_n 0, 1), (11, .invokevirtual 406, 3), (14, .ifCond .eq 13, 3), (17, .aload_n 0, 1), (18, .iload_n 1, 1), (19, .invokevirtual 403, 3), (22, .ifCond .ne (-12), 3), (25, .iconst 0, 1), (26, .ireturn, 1), (27, .iconst 1, 1), (28, .ireturn, 1)]
def mi_M91 : mi_M := (⟨"TypeLoomModel", "callForm", "(I)Z"⟩, prog_13_method_48_code, 2, (some .boolean), 11, 1, 1, mi_q91, [], [])
def mi_q92 : List (Nat × Instr × Nat) := [(0, .aload_n 0, 1), (1, .iconst 0, 1), (2, .putfield 145, 3), (5, .aload_n 0, 1), (6, .invokevirtual 142, 3), (9, .aload_n 0, 1), (10, .iconst 0, 1), (11, .putfield 411, 3), (14, .aload_n 0, 1), (15, .iconst (-1), 1), (16, .putfield 13, 3), (19, .aload_n 0, 1), (20, .invokevirtual 563, 3), (23, .aload_n 0, 1), (24, .iconst 0, 1), (25, .putfield 305, 3), (28, .aload_n 0, 1), (29, .invokevirtual 566, 3), (32, .ifCond .ne 18, 3), (35, .aload_n 0, 1), (36, .iconst 1, 1), (37, .aload_n 0, 1), (38, .getfield 20, 3), (41, .aload_n 0, 1), (42, .getfield 305, 3), (45, .iaload, 1), (46, .invokevirtual 424, 3), (49, .pop, 1), (50, .aload_n 0, 1), (51, .iconst 0, 1), (52, .putfield 305, 3), (55, .aload_n 0, 1), (56, .getfield 411, 3), (59, .ifCond .ne 8, 3), (62, .aload_n 0, 1), (63, .invokevirtual 569, 3), (66, .pop, 1), (67, .aload_n 0, 1), (68, .iconst 0, 1), (69, .putfield 247, 3), (72, .aload_n 0, 1), (73, .getfield 411, 3), (76, .ifCond .eq 7, 3), (79, .aload_n 0, 1), (80, .invokevirtual 142, 3), (83, .aload_n 0, 1), (84, .aload_n 0, 1), (85, .getfield 212, 3), (88, .putfield 215, 3), (91, .aload_n 0, 1), (92, .aload_n 0, 1), (93, .getfield 148, 3), (96, .putfield 218, 3), (99, .aload_n 0, 1), (100, .getfield 411, 3), (103, .ireturn, 1)]
def mi_M92 : mi_M := (⟨"TypeLoomModel", "compile", "()I"⟩, prog_13_method_89_code, 1, (some .int), 11, 1, 0, mi_q92, [], [])
def mi_q93 : List (Nat × Instr × Nat) := [(0, .aload_n 0, 1), (1, .iconst 0, 1), (2, .putfield 145, 3), (5, .iload_n 1, 1), (6, .iconst 0, 1), (7, .iconst 4, 1), (8, .invokestatic 253, 3), (11, .ifCond .eq 11, 3), (14, .aload_n 0, 1), (15, .iload_n 1, 1), (16, .invokevirtual 575, 3), (19, .goto 8, 3), (22, .aload_n 0, 1), (23, .iconst 1, 1), (24, .invokevirtual 250, 3), (27, .ireturn, 1)]
def mi_M93 : mi_M := (⟨"TypeLoomModel", "count", "(I)I"⟩, prog_13_method_92_code, 2, (some .int), 11, 1, 1, mi_q93, [], [])
def mi_q94 : List (Nat × Instr × Nat) := [(0, .iload_n 1, 1), (1, .ifCond .ne 12, 3), (4, .aload_n 0, 1), (5, .getfield 165, 3), (8, .iconst 1, 1), (9, .isub, 1), (10, .goto 45, 3), (13, .iload_n 1, 1), (14, .iconst 1, 1), (15, .if_icmp .ne 12, 3), (18, .aload_n 0, 1), (19, .getfield 178, 3), (22, .iconst 2, 1), (23, .isub, 1), (24, .goto 31, 3), (27, .iload_n 1, 1), (28, .iconst 2, 1), (29, .if_icmp .ne 10, 3), (32, .aload_n 0, 1), (33, .getfield 209, 3), (36, .goto 19, 3), (39, .iload_n 1, 1), (40, .iconst 3, 1), (41, .if_icmp .ne 10, 3), (44, .aload_n 0, 1), (45, .getfield 247, 3), (48, .goto 7, 3), (51, .aload_n 0, 1), (52, .getfield 572, 3), (55, .ireturn, 1)]
def mi_M94 : mi_M := (⟨"TypeLoomModel", "counted", "(I)I"⟩, prog_13_method_91_code, 2, (some .int), 11, 1, 1, mi_q94, [], [])
def mi_q95 : List (Nat × Instr × Nat) := [(0, .aload_n 0, 1), (1, .aload_n 0, 1), (2, .iload_n 1, 1), (3, .invokevirtual 613, 3), (6, .ifCond .eq 15, 3), (9, .aload_n 0, 1), (10, .iload_n 2, 1), (11, .invokevirtual 613, 3), (14, .ifCond .eq 7, 3), (17, .iconst 0, 1), (18, .goto 4, 3), (21, .iconst 1, 1), (22, .putfield 145, 3), (25, .aload_n 0, 1), (26, .getfield 145, 3), (29, .ifCond .eq 5, 3), (32, .iconst 0, 1), (33, .ireturn, 1), (34, .aload_n 0, 1), (35, .dup, 1), (36, .getfield 221, 3), (39, .iconst 1, 1), (40, .iadd, 1), (41, .putfield 221, 3), (44, .aload_n 0, 1), (45, .aload_n 0, 1), (46, .getfield 85, 3), (49, .iload_n 1, 1), (50, .iaload, 1), (51, .aload_n 0, 1), (52, .getfield 85, 3), (55, .iload_n 2, 1), (56, .iaload, 1), (57, .invokevirtual 631, 3), (60, .ireturn, 1)]
def mi_M95 : mi_M := (⟨"TypeLoomModel", "covers", "(II)Z"⟩, prog_13_method_112_code, 3, (some .boolean), 11, 1, 2, mi_q95, [], [])
def mi_q96 : List (Nat × Instr × Nat) := [(0, .aload_n 0, 1), (1, .iconst 0, 1), (2, .putfield 145, 3), (5, .ldc2_w 634, 3), (8, .lstore_n 1, 1), (9, .iconst 0, 1), (10, .istore_n 3, 1), (11, .iload_n 3, 1), (12, .iconst 5, 1), (13, .if_icmp .ge 22, 3), (16, .lload_n 1, 1), (17, .ldc2_w 636, 3), (20, .lmul, 1), (21, .aload_n 0, 1), (22, .iload_n 3, 1), (23, .invokevirtual 575, 3), (26, .i2l, 1), (27, .ladd, 1), (28, .lstore_n 1, 1), (29, .iinc 3 1, 3), (32, .goto (-21), 3), (35, .iconst 0, 1), (36, .istore_n 3, 1), (37, .iload_n 3, 1), (38, .aload_n 0, 1), (39, .getfield 209, 3), (42, .if_icmp .ge 77, 3), (45, .iconst 0, 1), (46, .istore 4, 2), (48, .iload 4, 2), (50, .iconst 3, 1), (51, .if_icmp .ge 24, 3), (54, .lload_n 1, 1), (55, .ldc2_w 636, 3), (58, .lmul, 1), (59, .aload_n 0, 1), (60, .iload_n 3, 1), (61, .iload 4, 2), (63, .invokevirtual 625, 3), (66, .i2l, 1), (67, .ladd, 1), (68, .lstore_n 1, 1), (69, .iinc 4 1, 3), (72, .goto (-24), 3), (75, .iconst 0, 1), (76, .istore 4, 2), (78, .iload 4, 2), (80, .aload_n 0, 1), (81, .getfield 209, 3), (84, .if_icmp .ge 29, 3), (87, .lload_n 1, 1), (88, .ldc2_w 636, 3), (91, .lmul, 1), (92, .aload_n 0, 1), (93, .getfield 88, 3), (96, .bipush 24, 2), (98, .iload_n 3, 1), (99, .imul, 1), (100, .iload 4, 2), (102, .iadd, 1), (103, .iaload, 1), (104, .i2l, 1), (105, .ladd, 1), (106, .lstore_n 1, 1), (107, .iinc 4 1, 3), (110, .goto (-32), 3), (113, .iinc 3 1, 3), (116, .goto (-79), 3), (119, .iconst 0, 1), (120, .istore_n 3, 1), (121, .iload_n 3, 1), (122, .aload_n 0, 1), (123, .getfield 572, 3), (126, .if_icmp .ge 23, 3), (129, .lload_n 1, 1), (130, .ldc2_w 636, 3), (133, .lmul, 1), (134, .aload_n 0, 1), (135, .getfield 26, 3), (138, .iload_n 3, 1), (139, .iaload, 1), (140, .i2l, 1), (141, .ladd, 1), (142, .lstore_n 1, 1), (143, .iinc 3 1, 3), (146, .goto (-25), 3), (149, .lload_n 1, 1), (150, .lreturn, 1)]
def mi_M96 : mi_M := (⟨"TypeLoomModel", "digest", "()J"⟩, prog_13_method_116_code, 5, (some .long), 11, 1, 0, mi_q96, [], [])
def mi_q97 : List (Nat × Instr × Nat) := [(0, .aload_n 0, 1), (1, .iconst 0, 1), (2, .putfield 145, 3), (5, .aload_n 0, 1), (6, .getfield 13, 3), (9, .ireturn, 1)]
def mi_M97 : mi_M := (⟨"TypeLoomModel", "errorAt", "()I"⟩, prog_13_method_90_code, 1, (some .int), 11, 1, 0, mi_q97, [], [])
def mi_q98 : List (Nat × Instr × Nat) := [(0, .iload_n 1, 1), (1, .bipush 12, 2), (3, .if_icmp .le 5, 3), (6, .iconst 0, 1), (7, .ireturn, 1), (8, .aload_n 0, 1), (9, .ldc_w 365, 3), (12, .invokevirtual 323, 3), (15, .ifCond .eq 56, 3), (18, .aload_n 0, 1), (19, .invokevirtual 326, 3), (22, .ifCond .eq 47, 3), (25, .aload_n 0, 1), (26, .ldc_w 329, 3), (29, .invokevirtual 323, 3), (32, .ifCond .eq 37, 3), (35, .aload_n 0, 1), (36, .iload_n 1, 1), (37, .iconst 1, 1), (38, .iadd, 1), (39, .invokevirtual 343, 3), (42, .ifCond .eq 27, 3), (45, .aload_n 0, 1), (46, .ldc_w 367, 3), (49, .invokevirtual 323, 3), (52, .ifCond .eq 17, 3), (55, .aload_n 0, 1), (56, .iload_n 1, 1), (57, .iconst 1, 1), (58, .iadd, 1), (59, .invokevirtual 343, 3), (62, .ifCond .eq 7, 3), (65, .iconst 1, 1), (66, .goto 4, 3), (69, .iconst 0, 1), (70, .ireturn, 1), (71, .aload_n 0, 1), (72, .ldc_w 369, 3), (75, .invokevirtual 323, 3), (78, .ifCond .eq 58, 3), (81, .aload_n 0, 1), (82, .invokevirtual 326, 3), (85, .ifCond .ne 5, 3), (88, .iconst 0, 1), (89, .ireturn, 1), (90, .aload_n 0, 1), (91, .aload_n 0, 1), (92, .getfield 305, 3), (95, .invokevirtual 316, 3), (98, .ifCond .eq 12, 3), (101, .aload_n 0, 1), (102, .invokevirtual 312, 3), (105, .ifCond .ne (-15), 3), (108, .iconst 0, 1), (109, .ireturn, 1), (110, .aload_n 0, 1), (111, .ldc_w 363, 3), (114, .invokevirtual 323, 3), (117, .ifCond .eq 17, 3), (120, .aload_n 0, 1), (121, .iload_n 1, 1), (122, .iconst 1, 1), (123, .iadd, 1), (124, .invokevirtual 343, 3), (127, .ifCond .eq 7, 3), (130, .iconst 1, 1), (131, .goto 4, 3), (134, .iconst 0, 1), (135, .ireturn, 1), (136, .aload_n 0, 1), (137, .ldc_w 370, 3), (140, .invokevirtual 323, 3), (143, .ifCond .eq 59, 3), (146, .aload_n 0, 1), (147, .iload_n 1, 1), (148, .iconst 1, 1), (149, .iadd, 1), (150, .invokevirtual 343, 3), (153, .ifCond .eq 47, 3), (156, .aload_n 0, 1), (157, .ldc_w 372, 3), (160, .invokevirtual 323, 3), (163, .ifCond .eq 37, 3), (166, .aload_n 0, 1), (167, .iload_n 1, 1), (168, .iconst 1, 1), (169, .iadd, 1), (170, .invokevirtual 343, 3), (173, .ifCond .eq 27, 3), (176, .aload_n 0, 1), (177, .ldc_w 374, 3), (180, .invokevirtual 323, 3), (183, .ifCond .eq 17, 3), (186, .aload_n 0, 1), (187, .iload_n 1, 1), (188, .iconst 1, 1), (189, .iadd, 1), (190, .invokevirtual 343, 3), (193, .ifCond .eq 7, 3), (196, .iconst 1, 1), (197, .goto 4, 3), (200, .iconst 0, 1), (201, .ireturn, 1), (202, .aload_n 0, 1), (203, .ldc_w 376, 3), (206, .invokevirtual 323, 3), (209, .ifCond .eq 47, 3), (212, .aload_n 0, 1), (213, .iload_n 1, 1), (214, .iconst 1, 1), (215, .iadd, 1), (216, .invokevirtual 343, 3), (219, .ifCond .eq 35, 3), (222, .aload_n 0, 1), (223, .ldc_w 378, 3), (226, .invokevirtual 323, 3), (229, .ifCond .eq 25, 3), (232, .aload_n 0, 1), (233, .iload_n 1, 1), (234, .invokevirtual 380, 3), (237, .ifCond .eq 17, 3), (240, .aload_n 0, 1), (241, .ldc_w 383, 3), (244, .invokevirtual 323, 3), (247, .ifCond .eq 7, 3), (250, .iconst 1, 1), (251, .goto 4, 3), (254, .iconst 0, 1), (255, .ireturn, 1), (256, .aload_n 0, 1), (257, .iload_n 1, 1), (258, .invokevirtual 384, 3), (261, .ifCond .eq 42, 3), (264, .aload_n 0, 1), (265, .ldc_w 329, 3), (268, .invokevirtual 308, 3), (271, .ifCond .ne 13, 3), (274, .aload_n 0, 1), (275, .ldc_w 387, 3), (278, .invokevirtual 308, 3), (281, .ifCond .eq 18, 3), (284, .aload_n 0, 1), (285, .invokevirtual 312, 3), (288, .ifCond .eq 15, 3), (291, .aload_n 0, 1), (292, .iload_n 1, 1), (293, .invokevirtual 384, 3), (296, .ifCond .eq 7, 3), (299, .iconst 1, 1), (300, .goto 4, 3), (303, .iconst 0, 1), (304, .ireturn, 1)]
def mi_M98 : mi_M := (⟨"TypeLoomModel", "expressionForm", "(I)Z"⟩, prog_13_method_43_code, 2, (some .boolean), 11, 1, 1, mi_q98, [], [])
def mi_q99 : List (Nat × Instr × Nat) := [(0, .aload_n 0, 1), (1, .iconst 0, 1), (2, .putfield 145, 3), (5, .aload_n 0, 1), (6, .getfield 247, 3), (9, .bipush 20, 2), (11, .iadd, 1), (12, .sipush 1200, 3), (15, .if_icmp .le 9, 3), (18, .aload_n 0, 1), (19, .iconst 1, 1), (20, .invokevirtual 250, 3), (23, .ireturn, 1), (24, .iconst 5, 1), (25, .newarray .int, 2), (27, .dup, 1), (28, .iconst 0, 1), (29, .iload_n 1, 1), (30, .iastore, 1), (31, .dup, 1), (32, .iconst 1, 1), (33, .iload_n 2, 1), (34, .iastore, 1), (35, .dup, 1), (36, .iconst 2, 1), (37, .iload_n 3, 1), (38, .iastore, 1), (39, .dup, 1), (40, .iconst 3, 1), (41, .iload 4, 2), (43, .iastore, 1), (44, .dup, 1), (45, .iconst 4, 1), (46, .iload 5, 2), (48, .iastore, 1), (49, .astore 6, 2), (51, .aload 6, 2), (53, .astore 7, 2), (55, .aload 7, 2), (57, .arraylength, 1), (58, .istore 8, 2), (60, .iconst 0, 1), (61, .istore 9, 2), (63, .iload 9, 2), (65, .iload 8, 2), (67, .if_icmp .ge 61, 3), (70, .aload 7, 2), (72, .iload 9, 2), (74, .iaload, 1), (75, .istore 10, 2), (77, .iconst 3, 1), (78, .istore 11, 2), (80, .iload 11, 2), (82, .ifCond .lt 40, 3), (85, .aload_n 0, 1), (86, .getfield 9, 3), (89, .aload_n 0, 1), (90, .getfield 247, 3), (93, .iload 10, 2), (95, .bipush 8, 2), (97, .iload 11, 2), (99, .imul, 1), (100, .ishr, 1), (101, .sipush 255, 3), (104, .iand, 1), (105, .iastore, 1), (106, .aload_n 0, 1), (107, .dup, 1), (108, .getfield 247, 3), (111, .iconst 1, 1), (112, .iadd, 1), (113, .putfield 247, 3), (116, .iinc 11 (-1), 3), (119, .goto (-39), 3), (122, .iinc 9 1, 3), (125, .goto (-62), 3), (128, .aload_n 0, 1), (129, .getfield 247, 3), (132, .ireturn, 1)]
def mi_M99 : mi_M := (⟨"TypeLoomModel", "feed", "(IIIII)I"⟩, prog_13_method_19_code, 12, (some .int), 11, 1, 5, mi_q99, [], [])
def mi_q100 : List (Nat × Instr × Nat) := [(0, .aload_n 0, 1), (1, .iconst 5, 1), (2, .iload_n 1, 1), (3, .iload_n 2, 1), (4, .iconst (-1), 1), (5, .iconst (-1), 1), (6, .invokevirtual 151, 3), (9, .ireturn, 1)]
def mi_M100 : mi_M := (⟨"TypeLoomModel", "fun", "(II)I"⟩, prog_13_method_9_code, 3, (some .int), 11, 1, 2, mi_q100, [], [])
def mi_q101 : List (Nat × Instr × Nat) := [(0, .aload_n 0, 1), (1, .bipush 7, 2), (3, .iconst (-1), 1), (4, .iconst (-1), 1), (5, .iconst (-1), 1), (6, .iconst (-1), 1), (7, .invokevirtual 151, 3), (10, .ireturn, 1)]
def mi_M101 : mi_M := (⟨"TypeLoomModel", "general", "()I"⟩, prog_13_method_65_code, 1, (some .int), 11, 1, 0, mi_q101, [], [])
def mi_q102 : List (Nat × Instr × Nat) := [(0, .aload_n 0, 1), (1, .getfield 17, 3), (4, .iload_n 1, 1), (5, .iaload, 1), (6, .iconst 1, 1), (7, .if_icmp .eq 13, 3), (10, .aload_n 0, 1), (11, .getfield 17, 3), (14, .iload_n 1, 1), (15, .iaload, 1), (16, .iconst 5, 1), (17, .if_icmp .ne 27, 3), (20, .aload_n 0, 1), (21, .getfield 23, 3), (24, .iload_n 1, 1), (25, .iaload, 1), (26, .aload_n 0, 1), (27, .getfield 20, 3), (30, .iload_n 1, 1), (31, .iaload, 1), (32, .isub, 1), (33, .aload_n 2, 1), (34, .invokevirtual 285, 3), (37, .if_icmp .ne 7, 3), (40, .iconst 1, 1), (41, .goto 4, 3), (44, .iconst 0, 1), (45, .istore_n 3, 1), (46, .iconst 0, 1), (47, .istore 4, 2), (49, .iload 4, 2), (51, .aload_n 2, 1), (52, .invokevirtual 285, 3), (55, .if_icmp .ge 42, 3), (58, .iload_n 3, 1), (59, .ifCond .eq 38, 3), (62, .aload_n 0, 1), (63, .getfield 9, 3), (66, .aload_n 0, 1), (67, .getfield 20, 3), (70, .iload_n 1, 1), (71, .iaload, 1), (72, .iload 4, 2), (74, .iadd, 1), (75, .iaload, 1), (76, .aload_n 2, 1), (77, .iload 4, 2), (79, .invokevirtual 287, 3), (82, .if_icmp .ne 7, 3), (85, .iconst 1, 1), (86, .goto 4, 3), (89, .iconst 0, 1), (90, .istore_n 3, 1), (91, .iinc 4 1, 3), (94, .goto (-45), 3), (97, .iload_n 3, 1), (98, .ireturn, 1)]
def mi_M102 : mi_M := (⟨"TypeLoomModel", "is", "(ILjava/lang/String;)Z"⟩, prog_13_method_27_code, 5, (some .boolean), 11, 1, 2, mi_q102, [], [])
def mi_q103 : List (Nat × Instr × Nat) := [(0, .aload_n 0, 1), (1, .getfield 17, 3), (4, .aload_n 0, 1), (5, .getfield 305, 3), (8, .iaload, 1), (9, .iconst 4, 1), (10, .if_icmp .eq 57, 3), (13, .aload_n 0, 1), (14, .getfield 17, 3), (17, .aload_n 0, 1), (18, .getfield 305, 3), (21, .iaload, 1), (22, .iconst 2, 1), (23, .if_icmp .eq 44, 3), (26, .aload_n 0, 1), (27, .aload_n 0, 1), (28, .getfield 305, 3), (31, .invokevirtual 316, 3), (34, .ifCond .ne 33, 3), (37, .aload_n 0, 1), (38, .ldc_w 399, 3), (41, .invokevirtual 308, 3), (44, .ifCond .ne 23, 3), (47, .aload_n 0, 1), (48, .ldc_w 401, 3), (51, .invokevirtual 308, 3), (54, .ifCond .ne 13, 3), (57, .aload_n 0, 1), (58, .ldc_w 354, 3), (61, .invokevirtual 308, 3), (64, .ifCond .eq 7, 3), (67, .iconst 1, 1), (68, .goto 4, 3), (71, .iconst 0, 1), (72, .ireturn, 1)]
def mi_M103 : mi_M := (⟨"TypeLoomModel", "isAtomNext", "()Z"⟩, prog_13_method_47_code, 1, (some .boolean), 11, 1, 0, mi_q103, [], [])
def mi_q104 : List (Nat × Instr × Nat) := [(0, .iload_n 1, 1), (1, .iconst 0, 1), (2, .aload_n 0, 1), (3, .getfield 209, 3), (6, .iconst 1, 1), (7, .isub, 1), (8, .invokestatic 253, 3), (11, .ireturn, 1)]
def mi_M104 : mi_M := (⟨"TypeLoomModel", "isDef", "(I)Z"⟩, prog_13_method_100_code, 2, (some .boolean), 11, 1, 1, mi_q104, [], [])
def mi_q105 : List (Nat × Instr × Nat) := [(0, .iload_n 0, 1), (1, .bipush 48, 2), (3, .bipush 57, 2), (5, .invokestatic 253, 3), (8, .ireturn, 1)]
def mi_M105 : mi_M := (⟨"TypeLoomModel", "isDigit", "(I)Z"⟩, prog_13_method_24_code, 1, (some .boolean), 11, 0, 1, mi_q105, [], [])
def mi_q106 : List (Nat × Instr × Nat) := [(0, .iload_n 0, 1), (1, .bipush 65, 2), (3, .bipush 90, 2), (5, .invokestatic 253, 3), (8, .ireturn, 1)]
def mi_M106 : mi_M := (⟨"TypeLoomModel", "isGreat", "(I)Z"⟩, prog_13_method_23_code, 1, (some .boolean), 11, 0, 1, mi_q106, [], [])
def mi_q107 : List (Nat × Instr × Nat) := [(0, .iload_n 0, 1), (1, .iload_n 1, 1), (2, .if_icmp .lt 12, 3), (5, .iload_n 0, 1), (6, .iload_n 2, 1), (7, .if_icmp .gt 7, 3), (10, .iconst 1, 1), (11, .goto 4, 3), (14, .iconst 0, 1), (15, .ireturn, 1)]
def mi_M107 : mi_M := (⟨"TypeLoomModel", "isIn", "(III)Z"⟩, prog_13_method_4_code, 3, (some .boolean), 11, 0, 3, mi_q107, [], [])
def mi_q108 : List (Nat × Instr × Nat) := [(0, .aload_n 0, 1), (1, .getfield 17, 3), (4, .iload_n 1, 1), (5, .iaload, 1), (6, .iconst 1, 1), (7, .if_icmp .ne 7, 3), (10, .iconst 1, 1), (11, .goto 4, 3), (14, .iconst 0, 1), (15, .istore_n 2, 1), (16, .getstatic 291, 3), (19, .astore_n 3, 1), (20, .aload_n 3, 1), (21, .arraylength, 1), (22, .istore 4, 2), (24, .iconst 0, 1), (25, .istore 5, 2), (27, .iload 5, 2), (29, .iload 4, 2), (31, .if_icmp .ge 35, 3), (34, .aload_n 3, 1), (35, .iload 5, 2), (37, .aaload, 1), (38, .astore 6, 2), (40, .iload_n 2, 1), (41, .ifCond .eq 17, 3), (44, .aload_n 0, 1), (45, .iload_n 1, 1), (46, .aload 6, 2), (48, .invokevirtual 295, 3), (51, .ifCond .ne 7, 3), (54, .iconst 1, 1), (55, .goto 4, 3), (58, .iconst 0, 1), (59, .istore_n 2, 1), (60, .iinc 5 1, 3), (63, .goto (-36), 3), (66, .iload_n 2, 1), (67, .ireturn, 1)]
def mi_M108 : mi_M := (⟨"TypeLoomModel", "isName", "(I)Z"⟩, prog_13_method_28_code, 7, (some .boolean), 11, 1, 1, mi_q108, [], [])
def mi_q109 : List (Nat × Instr × Nat) := [(0, .iload_n 0, 1), (1, .bipush 97, 2), (3, .bipush 122, 2), (5, .invokestatic 253, 3), (8, .ireturn, 1)]
def mi_M109 : mi_M := (⟨"TypeLoomModel", "isSmall", "(I)Z"⟩, prog_13_method_22_code, 1, (some .boolean), 11, 0, 1, mi_q109, [], [])
def mi_q110 : List (Nat × Instr × Nat) := [(0, .aload_n 0, 1), (1, .ldc_w 322, 3), (4, .invokevirtual 323, 3), (7, .ifCond .eq 67, 3), (10, .aload_n 0, 1), (11, .invokevirtual 326, 3), (14, .ifCond .ne 5, 3), (17, .iconst 0, 1), (18, .ireturn, 1), (19, .aload_n 0, 1), (20, .getfield 17, 3), (23, .aload_n 0, 1), (24, .getfield 305, 3), (27, .iaload, 1), (28, .iconst 3, 1), (29, .if_icmp .ne 12, 3), (32, .aload_n 0, 1), (33, .invokevirtual 312, 3), (36, .ifCond .ne (-17), 3), (39, .iconst 0, 1), (40, .ireturn, 1), (41, .aload_n 0, 1), (42, .ldc_w 329, 3), (45, .invokevirtual 323, 3), (48, .ifCond .eq 24, 3), (51, .aload_n 0, 1), (52, .invokevirtual 331, 3), (55, .ifCond .eq 17, 3), (58, .aload_n 0, 1), (59, .ldc_w 334, 3), (62, .invokevirtual 323, 3), (65, .ifCond .eq 7, 3), (68, .iconst 1, 1), (69, .goto 4, 3), (72, .iconst 0, 1), (73, .ireturn, 1), (74, .aload_n 0, 1), (75, .ldc_w 336, 3), (78, .invokevirtual 323, 3), (81, .ifCond .eq 67, 3), (84, .aload_n 0, 1), (85, .invokevirtual 326, 3), (88, .ifCond .eq 60, 3), (91, .aload_n 0, 1), (92, .ldc_w 338, 3), (95, .invokevirtual 308, 3), (98, .ifCond .eq 18, 3), (101, .aload_n 0, 1), (102, .invokevirtual 312, 3), (105, .ifCond .eq 43, 3), (108, .aload_n 0, 1), (109, .iconst 0, 1), (110, .invokevirtual 340, 3), (113, .ifCond .eq 35, 3), (116, .aload_n 0, 1), (117, .ldc_w 329, 3), (120, .invokevirtual 323, 3), (123, .ifCond .eq 25, 3), (126, .aload_n 0, 1), (127, .iconst 0, 1), (128, .invokevirtual 343, 3), (131, .ifCond .eq 17, 3), (134, .aload_n 0, 1), (135, .ldc_w 334, 3), (138, .invokevirtual 323, 3), (141, .ifCond .eq 7, 3), (144, .iconst 1, 1), (145, .goto 4, 3), (148, .iconst 0, 1), (149, .ireturn, 1)]
def mi_M110 : mi_M := (⟨"TypeLoomModel", "itemForm", "()Z"⟩, prog_13_method_37_code, 1, (some .boolean), 11, 1, 0, mi_q110, [], [])
def mi_q111 : List (Nat × Instr × Nat) := [(0, .aload_n 0, 1), (1, .iconst 0, 1), (2, .putfield 148, 3), (5, .aload_n 0, 1), (6, .aload_n 0, 1), (7, .iconst 2, 1), (8, .iconst (-1), 1), (9, .iconst (-1), 1), (10, .iconst (-1), 1), (11, .iconst (-1), 1), (12, .invokevirtual 151, 3), (15, .putfield 159, 3), (18, .aload_n 0, 1), (19, .aload_n 0, 1), (20, .iconst 3, 1), (21, .iconst (-1), 1), (22, .iconst (-1), 1), (23, .iconst (-1), 1), (24, .iconst (-1), 1), (25, .invokevirtual 151, 3), (28, .putfield 162, 3), (31, .aload_n 0, 1), (32, .iconst 1, 1), (33, .putfield 165, 3), (36, .aload_n 0, 1), (37, .getfield 66, 3), (40, .iconst 0, 1), (41, .ldc 168, 2), (43, .invokestatic 170, 3), (46, .lastore, 1), (47, .aload_n 0, 1), (48, .getfield 70, 3), (51, .iconst 0, 1), (52, .iconst 1, 1), (53, .iastore, 1), (54, .aload_n 0, 1), (55, .invokevirtual 174, 3), (58, .istore_n 1, 1), (59, .aload_n 0, 1), (60, .bipush 6, 2), (62, .iload_n 1, 1), (63, .iconst (-1), 1), (64, .iconst (-1), 1), (65, .iconst 0, 1), (66, .invokevirtual 151, 3), (69, .istore_n 2, 1), (70, .aload_n 0, 1), (71, .iconst 2, 1), (72, .putfield 178, 3), (75, .aload_n 0, 1), (76, .getfield 73, 3), (79, .iconst 0, 1), (80, .ldc 181, 2), (82, .invokestatic 170, 3), (85, .lastore, 1), (86, .aload_n 0, 1), (87, .getfield 76, 3), (90, .iconst 0, 1), (91, .iload_n 2, 1), (92, .iastore, 1), (93, .aload_n 0, 1), (94, .getfield 79, 3), (97, .iconst 0, 1), (98, .iconst 0, 1), (99, .iastore, 1), (100, .aload_n 0, 1), (101, .getfield 73, 3), (104, .iconst 1, 1), (105, .ldc 183, 2), (107, .invokestatic 170, 3), (110, .lastore, 1), (111, .aload_n 0, 1), (112, .getfield 76, 3), (115, .iconst 1, 1), (116, .aload_n 0, 1), (117, .iload_n 1, 1), (118, .aload_n 0, 1), (119, .iload_n 2, 1), (120, .iload_n 2, 1), (121, .invokevirtual 185, 3), (124, .invokevirtual 185, 3), (127, .iastore, 1), (128, .aload_n 0, 1), (129, .getfield 79, 3), (132, .iconst 1, 1), (133, .iconst 2, 1), (134, .iastore, 1), (135, .aload_n 0, 1), (136, .ldc 189, 2), (138, .invokestatic 170, 3), (141, .putfield 191, 3), (144, .aload_n 0, 1), (145, .ldc 195, 2), (147, .invokestatic 170, 3), (150, .putfield 197, 3), (153, .aload_n 0, 1), (154, .invokevirtual 174, 3), (157, .istore_n 3, 1), (158, .aload_n 0, 1), (159, .aload_n 0, 1), (160, .aload_n 0, 1), (161, .iload_n 1, 1), (162, .iload_n 3, 1), (163, .invokevirtual 200, 3), (166, .iload_n 1, 1), (167, .invokevirtual 185, 3), (170, .putfield 203, 3), (173, .aload_n 0, 1), (174, .aload_n 0, 1), (175, .aload_n 0, 1), (176, .iload_n 1, 1), (177, .iload_n 3, 1), (178, .invokevirtual 200, 3), (181, .iload_n 3, 1), (182, .invokevirtual 185, 3), (185, .putfield 206, 3), (188, .aload_n 0, 1), (189, .iconst 0, 1), (190, .putfield 209, 3), (193, .aload_n 0, 1), (194, .iconst 0, 1), (195, .putfield 212, 3), (198, .aload_n 0, 1), (199, .iconst 0, 1), (200, .putfield 215, 3), (203, .aload_n 0, 1), (204, .aload_n 0, 1), (205, .getfield 148, 3), (208, .putfield 218, 3), (211, .return_, 1)]
def mi_M111 : mi_M := (⟨"TypeLoomModel", "known", "()V"⟩, prog_13_method_13_code, 4, none, 11, 1, 0, mi_q111, [], [])
def mi_q112 : List (Nat × Instr × Nat) := [(0, .iload_n 0, 1), (1, .invokestatic 274, 3), (4, .ifCond .eq 11, 3), (7, .iload_n 0, 1), (8, .bipush 47, 2), (10, .isub, 1), (11, .i2l, 1), (12, .goto 23, 3), (15, .iload_n 0, 1), (16, .invokestatic 267, 3), (19, .ifCond .eq 11, 3), (22, .iload_n 0, 1), (23, .bipush 86, 2), (25, .isub, 1), (26, .i2l, 1), (27, .goto 8, 3), (30, .iload_n 0, 1), (31, .bipush 28, 2), (33, .isub, 1), (34, .i2l, 1), (35, .lreturn, 1)]
def mi_M112 : mi_M := (⟨"TypeLoomModel", "letter", "(I)J"⟩, prog_13_method_29_code, 1, (some .long), 11, 0, 1, mi_q112, [], [])
def mi_q113 : List (Nat × Instr × Nat) := [(0, .aload_n 0, 1), (1, .iconst 0, 1), (2, .putfield 145, 3), (5, .iconst 0, 1), (6, .istore_n 1, 1), (7, .iconst 0, 1), (8, .istore_n 2, 1), (9, .iload_n 2, 1), (10, .aload_n 0, 1), (11, .getfield 209, 3), (14, .if_icmp .ge 23, 3), (17, .iload_n 1, 1), (18, .aload_n 0, 1), (19, .aload_n 0, 1), (20, .getfield 85, 3), (23, .iload_n 2, 1), (24, .iaload, 1), (25, .iconst 0, 1), (26, .invokevirtual 244, 3), (29, .iadd, 1), (30, .istore_n 1, 1), (31, .iinc 2 1, 3), (34, .goto (-25), 3), (37, .aload_n 0, 1), (38, .getfield 209, 3), (41, .ifCond .ne 7, 3), (44, .dconst 0, 1), (45, .goto 11, 3), (48, .iload_n 1, 1), (49, .i2d, 1), (50, .aload_n 0, 1), (51, .getfield 209, 3), (54, .i2d, 1), (55, .ddiv, 1), (56, .dreturn, 1)]
def mi_M113 : mi_M := (⟨"TypeLoomModel", "meanParts", "()D"⟩, prog_13_method_115_code, 3, (some .double), 11, 1, 0, mi_q113, [], [])
def mi_q114 : List (Nat × Instr × Nat) := [(0, .aload_n 0, 1), (1, .iconst 0, 1), (2, .putfield 145, 3), (5, .aload_n 0, 1), (6, .iload_n 1, 1), (7, .invokevirtual 613, 3), (10, .ifCond .eq 21, 3), (13, .iload_n 2, 1), (14, .iconst 0, 1), (15, .iconst 2, 1), (16, .invokestatic 253, 3), (19, .ifCond .eq 12, 3), (22, .aload_n 0, 1), (23, .iload_n 1, 1), (24, .iload_n 2, 1), (25, .invokevirtual 625, 3), (28, .goto 8, 3), (31, .aload_n 0, 1), (32, .iconst 1, 1), (33, .invokevirtual 250, 3), (36, .ireturn, 1)]
def mi_M114 : mi_M := (⟨"TypeLoomModel", "measure", "(II)I"⟩, prog_13_method_108_code, 3, (some .int), 11, 1, 2, mi_q114, [], [])
def mi_q115 : List (Nat × Instr × Nat) := [(0, .aload_n 0, 1), (1, .iconst 0, 1), (2, .putfield 145, 3), (5, .aload_n 0, 1), (6, .iload_n 1, 1), (7, .invokevirtual 613, 3), (10, .ifCond .eq 11, 3), (13, .aload_n 0, 1), (14, .iload_n 2, 1), (15, .invokevirtual 613, 3), (18, .ifCond .ne 9, 3), (21, .aload_n 0, 1), (22, .iconst 1, 1), (23, .invokevirtual 250, 3), (26, .ireturn, 1), (27, .aload_n 0, 1), (28, .aload_n 0, 1), (29, .getfield 218, 3), (32, .putfield 148, 3), (35, .aload_n 0, 1), (36, .aload_n 0, 1), (37, .getfield 85, 3), (40, .iload_n 1, 1), (41, .iaload, 1), (42, .invokevirtual 538, 3), (45, .istore_n 3, 1), (46, .aload_n 0, 1), (47, .iload_n 3, 1), (48, .aload_n 0, 1), (49, .aload_n 0, 1), (50, .getfield 85, 3), (53, .iload_n 2, 1), (54, .iaload, 1), (55, .invokevirtual 538, 3), (58, .invokevirtual 492, 3), (61, .ifCond .eq 9, 3), (64, .aload_n 0, 1), (65, .iload_n 3, 1), (66, .invokevirtual 616, 3), (69, .ireturn, 1), (70, .aload_n 0, 1), (71, .iconst 0, 1), (72, .putfield 572, 3), (75, .iconst 0, 1), (76, .ireturn, 1)]
def mi_M115 : mi_M := (⟨"TypeLoomModel", "meet", "(II)I"⟩, prog_13_method_113_code, 4, (some .int), 11, 1, 2, mi_q115, [], [])
def mi_q116 : List (Nat × Instr × Nat) := [(0, .lconst 0, 1), (1, .lstore_n 1, 1), (2, .iconst 0, 1), (3, .istore_n 3, 1), (4, .iload_n 3, 1), (5, .aload_n 0, 1), (6, .invokevirtual 285, 3), (9, .if_icmp .ge 24, 3), (12, .ldc2_w 299, 3), (15, .lload_n 1, 1), (16, .lmul, 1), (17, .aload_n 0, 1), (18, .iload_n 3, 1), (19, .invokevirtual 287, 3), (22, .invokestatic 301, 3), (25, .ladd, 1), (26, .lstore_n 1, 1), (27, .iinc 3 1, 3), (30, .goto (-26), 3), (33, .lload_n 1, 1), (34, .lreturn, 1)]
def mi_M116 : mi_M := (⟨"TypeLoomModel", "nameOf", "(Ljava/lang/String;)J"⟩, prog_13_method_30_code, 4, (some .long), 11, 0, 1, mi_q116, [], [])
def mi_q117 : List (Nat × Instr × Nat) := [(0, .aload_n 0, 1), (1, .iload_n 1, 1), (2, .putfield 145, 3), (5, .iconst 0, 1), (6, .ireturn, 1)]
def mi_M117 : mi_M := (⟨"TypeLoomModel", "no", "(I)I"⟩, prog_13_method_3_code, 2, (some .int), 11, 1, 1, mi_q117, [], [])
def mi_q118 : List (Nat × Instr × Nat) := [(0, .aload_n 0, 1), (1, .iconst 4, 1), (2, .iload_n 1, 1), (3, .iload_n 2, 1), (4, .iconst (-1), 1), (5, .iconst (-1), 1), (6, .invokevirtual 151, 3), (9, .ireturn, 1)]
def mi_M118 : mi_M := (⟨"TypeLoomModel", "pair", "(II)I"⟩, prog_13_method_8_code, 3, (some .int), 11, 1, 2, mi_q118, [], [])
def mi_q119 : List (Nat × Instr × Nat) := [(0, .aload_n 0, 1), (1, .iload_n 1, 1), (2, .invokevirtual 396, 3), (5, .ifCond .ne 5, 3), (8, .iconst 0, 1), (9, .ireturn, 1), (10, .aload_n 0, 1), (11, .ldc_w 361, 3), (14, .invokevirtual 308, 3), (17, .ifCond .eq 20, 3), (20, .aload_n 0, 1), (21, .invokevirtual 312, 3), (24, .ifCond .eq 11, 3), (27, .aload_n 0, 1), (28, .iload_n 1, 1), (29, .invokevirtual 396, 3), (32, .ifCond .ne (-22), 3), (35, .iconst 0, 1), (36, .ireturn, 1), (37, .iconst 1, 1), (38, .ireturn, 1)]
def mi_M119 : mi_M := (⟨"TypeLoomModel", "productForm", "(I)Z"⟩, prog_13_method_46_code, 2, (some .boolean), 11, 1, 1, mi_q119, [], [])
def mi_q120 : List (Nat × Instr × Nat) := [(0, .aload_n 0, 1), (1, .invokevirtual 319, 3), (4, .ifCond .ne 5, 3), (7, .iconst 0, 1), (8, .ireturn, 1), (9, .aload_n 0, 1), (10, .getfield 17, 3), (13, .aload_n 0, 1), (14, .getfield 305, 3), (17, .iaload, 1), (18, .ifCond .ne (-18), 3), (21, .iconst 1, 1), (22, .ireturn, 1)]
def mi_M120 : mi_M := (⟨"TypeLoomModel", "programForm", "()Z"⟩, prog_13_method_36_code, 1, (some .boolean), 11, 1, 0, mi_q120, [], [])
def mi_q121 : List (Nat × Instr × Nat) := [(0, .iconst 0, 1), (1, .istore_n 1, 1), (2, .iconst 0, 1), (3, .istore_n 2, 1), (4, .iconst 1, 1), (5, .istore_n 3, 1), (6, .iload_n 3, 1), (7, .ifCond .eq 304, 3), (10, .aload_n 0, 1), (11, .iload_n 2, 1), (12, .invokevirtual 257, 3), (15, .bipush 32, 2), (17, .if_icmp .eq 13, 3), (20, .aload_n 0, 1), (21, .iload_n 2, 1), (22, .invokevirtual 257, 3), (25, .bipush 10, 2), (27, .if_icmp .ne 9, 3), (30, .iinc 2 1, 3), (33, .goto (-23), 3), (36, .iload_n 2, 1), (37, .istore 4, 2), (39, .iconst 0, 1), (40, .istore 5, 2), (42, .aload_n 0, 1), (43, .iload_n 2, 1), (44, .invokevirtual 257, 3), (47, .invokestatic 267, 3), (50, .ifCond .ne 14, 3), (53, .aload_n 0, 1), (54, .iload_n 2, 1), (55, .invokevirtual 257, 3), (58, .invokestatic 271, 3), (61, .ifCond .eq 71, 3), (64, .iinc 4 1, 3), (67, .aload_n 0, 1), (68, .iload 4, 2), (70, .invokevirtual 257, 3), (73, .invokestatic 267, 3), (76, .ifCond .ne 15, 3), (79, .aload_n 0, 1), (80, .iload 4, 2), (82, .invokevirtual 257, 3), (85, .invokestatic 274, 3), (88, .ifCond .eq 9, 3), (91, .iinc 4 1, 3), (94, .goto (-27), 3), (97, .iload 4, 2), (99, .iload_n 2, 1), (100, .isub, 1), (101, .bipush 8, 2), (103, .if_icmp .le 8, 3), (106, .bipush 6, 2), (108, .goto 19, 3), (111, .aload_n 0, 1), (112, .iload_n 2, 1), (113, .invokevirtual 257, 3), (116, .invokestatic 267, 3), (119, .ifCond .eq 7, 3), (122, .iconst 1, 1), (123, .goto 4, 3), (126, .iconst 2, 1), (127, .istore 5, 2), (129, .goto 139, 3), (132, .aload_n 0, 1), (133, .iload_n 2, 1), (134, .invokevirtual 257, 3), (137, .invokestatic 274, 3), (140, .ifCond .eq 40, 3), (143, .aload_n 0, 1), (144, .iload 4, 2), (146, .invokevirtual 257, 3), (149, .invokestatic 274, 3), (152, .ifCond .eq 9, 3), (155, .iinc 4 1, 3), (158, .goto (-15), 3), (161, .iload 4, 2), (163, .iload_n 2, 1), (164, .isub, 1), (165, .iconst 4, 1), (166, .if_icmp .gt 7, 3), (169, .iconst 4, 1), (170, .goto 5, 3), (173, .bipush 6, 2), (175, .istore 5, 2), (177, .goto 91, 3), (180, .aload_n 0, 1), (181, .iload_n 2, 1), (182, .invokevirtual 257, 3), (185, .bipush 39, 2), (187, .if_icmp .ne 43, 3), (190, .aload_n 0, 1), (191, .iload_n 2, 1), (192, .iconst 1, 1), (193, .iadd, 1), (194, .invokevirtual 257, 3), (197, .invokestatic 267, 3), (200, .ifCond .eq 7, 3), (203, .iconst 3, 1), (204, .goto 5, 3), (207, .bipush 6, 2), (209, .istore 5, 2), (211, .iload 4, 2), (213, .iload 5, 2), (215, .iconst 3, 1), (216, .if_icmp .ne 7, 3), (219, .iconst 2, 1), (220, .goto 4, 3), (223, .iconst 1, 1), (224, .iadd, 1), (225, .istore 4, 2), (227, .goto 41, 3), (230, .iload_n 2, 1), (231, .aload_n 0, 1), (232, .getfield 247, 3), (235, .if_icmp .ge 33, 3), (238, .iload 4, 2), (240, .iconst 1, 1), (241, .aload_n 0, 1), (242, .iload_n 2, 1), (243, .invokevirtual 277, 3), (246, .invokestatic 280, 3), (249, .iadd, 1), (250, .istore 4, 2), (252, .aload_n 0, 1), (253, .iload_n 2, 1), (254, .invokevirtual 277, 3), (257, .ifCond .le 7, 3), (260, .iconst 5, 1), (261, .goto 5, 3), (264, .bipush 6, 2), (266, .istore 5, 2), (268, .aload_n 0, 1), (269, .getfield 17, 3), (272, .iload_n 1, 1), (273, .iload 5, 2), (275, .iastore, 1), (276, .aload_n 0, 1), (277, .getfield 20, 3), (280, .iload_n 1, 1), (281, .iload_n 2, 1), (282, .iastore, 1), (283, .aload_n 0, 1), (284, .getfield 23, 3), (287, .iload_n 1, 1), (288, .iload 4, 2), (290, .iastore, 1), (291, .iinc 1 1, 3), (294, .iload 4, 2), (296, .istore_n 2, 1), (297, .iload 5, 2), (299, .ifCond .eq 7, 3), (302, .iconst 1, 1), (303, .goto 4, 3), (306, .iconst 0, 1), (307, .istore_n 3, 1), (308, .goto (-302), 3), (311, .return_, 1)]
def mi_M121 : mi_M := (⟨"TypeLoomModel", "scan", "()V"⟩, prog_13_method_26_code, 6, none, 11, 1, 0, mi_q121, [], [])
def mi_q122 : List (Nat × Instr × Nat) := [(0, .aload_n 0, 1), (1, .aload_n 0, 1), (2, .getfield 305, 3), (5, .aload_n 1, 1), (6, .invokevirtual 295, 3), (9, .ireturn, 1)]
def mi_M122 : mi_M := (⟨"TypeLoomModel", "sees", "(Ljava/lang/String;)Z"⟩, prog_13_method_32_code, 2, (some .boolean), 11, 1, 1, mi_q122, [], [])
def mi_q123 : List (Nat × Instr × Nat) := [(0, .aload_n 0, 1), (1, .iload_n 1, 1), (2, .invokevirtual 389, 3), (5, .ifCond .ne 5, 3), (8, .iconst 0, 1), (9, .ireturn, 1), (10, .aload_n 0, 1), (11, .ldc_w 392, 3), (14, .invokevirtual 308, 3), (17, .ifCond .ne 13, 3), (20, .aload_n 0, 1), (21, .ldc_w 394, 3), (24, .invokevirtual 308, 3), (27, .ifCond .eq 20, 3), (30, .aload_n 0, 1), (31, .invokevirtual 312, 3), (34, .ifCond .eq 11, 3), (37, .aload_n 0, 1), (38, .iload_n 1, 1), (39, .invokevirtual 389, 3), (42, .ifCond .ne (-32), 3), (45, .iconst 0, 1), (46, .ireturn, 1), (47, .iconst 1, 1), (48, .ireturn, 1)]
def mi_M123 : mi_M := (⟨"TypeLoomModel", "sumForm", "(I)Z"⟩, prog_13_method_45_code, 2, (some .boolean), 11, 1, 1, mi_q123, [], [])
def mi_q124 : List (Nat × Instr × Nat) := [(0, .aload_n 0, 1), (1, .aload_n 1, 1), (2, .invokevirtual 308, 3), (5, .ifCond .eq 14, 3), (8, .aload_n 0, 1), (9, .invokevirtual 312, 3), (12, .ifCond .eq 7, 3), (15, .iconst 1, 1), (16, .goto 4, 3), (19, .iconst 0, 1), (20, .ireturn, 1)]
def mi_M124 : mi_M := (⟨"TypeLoomModel", "takes", "(Ljava/lang/String;)Z"⟩, prog_13_method_34_code, 2, (some .boolean), 11, 1, 1, mi_q124, [], [])
def mi_q125 : List (Nat × Instr × Nat) := [(0, .iload_n 1, 1), (1, .aload_n 0, 1), (2, .getfield 247, 3), (5, .if_icmp .ge 12, 3), (8, .aload_n 0, 1), (9, .getfield 9, 3), (12, .iload_n 1, 1), (13, .iaload, 1), (14, .goto 4, 3), (17, .iconst (-1), 1), (18, .ireturn, 1)]
def mi_M125 : mi_M := (⟨"TypeLoomModel", "tapeAt", "(I)I"⟩, prog_13_method_21_code, 2, (some .int), 11, 1, 1, mi_q125, [], [])
def mi_q126 : List (Nat × Instr × Nat) := [(0, .aload_n 0, 1), (1, .getfield 145, 3), (4, .ireturn, 1)]
def mi_M126 : mi_M := (⟨"TypeLoomModel", "thrown", "()I"⟩, prog_13_method_2_code, 1, (some .int), 11, 1, 0, mi_q126, [], [])
def mi_q127 : List (Nat × Instr × Nat) := [(0, .aload_n 0, 1), (1, .iconst 0, 1), (2, .putfield 145, 3), (5, .iload_n 1, 1), (6, .iconst 0, 1), (7, .aload_n 0, 1), (8, .getfield 247, 3), (11, .invokestatic 253, 3), (14, .ifCond .ne 9, 3), (17, .aload_n 0, 1), (18, .iconst 1, 1), (19, .invokevirtual 250, 3), (22, .ireturn, 1), (23, .aload_n 0, 1), (24, .iload_n 1, 1), (25, .putfield 247, 3), (28, .iload_n 1, 1), (29, .ireturn, 1)]
def mi_M127 : mi_M := (⟨"TypeLoomModel", "trim", "(I)I"⟩, prog_13_method_20_code, 2, (some .int), 11, 1, 1, mi_q127, [], [])
def mi_q128 : List (Nat × Instr × Nat) := [(0, .aload_n 0, 1), (1, .getfield 148, 3), (4, .istore 6, 2), (6, .aload_n 0, 1), (7, .getfield 30, 3), (10, .iload 6, 2), (12, .iload_n 1, 1), (13, .iastore, 1), (14, .aload_n 0, 1), (15, .getfield 33, 3), (18, .iload 6, 2), (20, .iload_n 2, 1), (21, .iastore, 1), (22, .aload_n 0, 1), (23, .getfield 36, 3), (26, .iload 6, 2), (28, .iload_n 3, 1), (29, .iastore, 1), (30, .aload_n 0, 1), (31, .getfield 39, 3), (34, .iload 6, 2), (36, .iload 4, 2), (38, .iastore, 1), (39, .aload_n 0, 1), (40, .getfield 42, 3), (43, .iload 6, 2), (45, .iload 5, 2), (47, .iastore, 1), (48, .aload_n 0, 1), (49, .getfield 45, 3), (52, .iload 6, 2), (54, .iconst 0, 1), (55, .iastore, 1), (56, .aload_n 0, 1), (57, .dup, 1), (58, .getfield 148, 3), (61, .iconst 1, 1), (62, .iadd, 1), (63, .putfield 148, 3), (66, .iload 6, 2), (68, .ireturn, 1)]
def mi_M128 : mi_M := (⟨"TypeLoomModel", "type", "(IIIII)I"⟩, prog_13_method_5_code, 7, (some .int), 11, 1, 5, mi_q128, [], [])
def mi_q129 : List (Nat × Instr × Nat) := [(0, .aload_n 0, 1), (1, .iconst 0, 1), (2, .putfield 145, 3), (5, .aload_n 0, 1), (6, .iload_n 1, 1), (7, .invokevirtual 613, 3), (10, .ifCond .eq 25, 3), (13, .aload_n 0, 1), (14, .iload_n 2, 1), (15, .invokevirtual 613, 3), (18, .ifCond .eq 17, 3), (21, .aload_n 0, 1), (22, .getfield 88, 3), (25, .bipush 24, 2), (27, .iload_n 1, 1), (28, .imul, 1), (29, .iload_n 2, 1), (30, .iadd, 1), (31, .iaload, 1), (32, .goto 8, 3), (35, .aload_n 0, 1), (36, .iconst 1, 1), (37, .invokevirtual 250, 3), (40, .ireturn, 1)]
def mi_M129 : mi_M := (⟨"TypeLoomModel", "uses", "(II)I"⟩, prog_13_method_109_code, 3, (some .int), 11, 1, 2, mi_q129, [], [])
def mi_q130 : List (Nat × Instr × Nat) := [(0, .aload_n 0, 1), (1, .iconst 0, 1), (2, .putfield 145, 3), (5, .aload_n 0, 1), (6, .iload_n 1, 1), (7, .invokevirtual 613, 3), (10, .ifCond .eq 16, 3), (13, .aload_n 0, 1), (14, .aload_n 0, 1), (15, .getfield 85, 3), (18, .iload_n 1, 1), (19, .iaload, 1), (20, .invokevirtual 616, 3), (23, .goto 8, 3), (26, .aload_n 0, 1), (27, .iconst 1, 1), (28, .invokevirtual 250, 3), (31, .ireturn, 1)]
def mi_M130 : mi_M := (⟨"TypeLoomModel", "write", "(I)I"⟩, prog_13_method_101_code, 2, (some .int), 11, 1, 1, mi_q130, [], [])
def mi_q131 : List (Nat × Instr × Nat) := [(0, .aload_n 0, 1), (1, .iconst 0, 1), (2, .putfield 145, 3), (5, .iconst (-1), 1), (6, .istore_n 2, 1), (7, .iconst 0, 1), (8, .istore_n 3, 1), (9, .iload_n 3, 1), (10, .aload_n 0, 1), (11, .getfield 215, 3), (14, .if_icmp .ge 78, 3), (17, .aload_n 0, 1), (18, .getfield 112, 3), (21, .iload_n 3, 1), (22, .iaload, 1), (23, .iconst (-1), 1), (24, .if_icmp .eq 62, 3), (27, .iload_n 1, 1), (28, .aload_n 0, 1), (29, .getfield 106, 3), (32, .iload_n 3, 1), (33, .iaload, 1), (34, .if_icmp .lt 52, 3), (37, .iload_n 1, 1), (38, .aload_n 0, 1), (39, .getfield 109, 3), (42, .iload_n 3, 1), (43, .iaload, 1), (44, .if_icmp .lt 6, 3), (47, .goto 39, 3), (50, .iload_n 2, 1), (51, .iconst (-1), 1), (52, .if_icmp .eq 32, 3), (55, .aload_n 0, 1), (56, .getfield 109, 3), (59, .iload_n 3, 1), (60, .iaload, 1), (61, .aload_n 0, 1), (62, .getfield 106, 3), (65, .iload_n 3, 1), (66, .iaload, 1), (67, .isub, 1), (68, .aload_n 0, 1), (69, .getfield 109, 3), (72, .iload_n 2, 1), (73, .iaload, 1), (74, .aload_n 0, 1), (75, .getfield 106, 3), (78, .iload_n 2, 1), (79, .iaload, 1), (80, .isub, 1), (81, .if_icmp .ge 5, 3), (84, .iload_n 3, 1), (85, .istore_n 2, 1), (86, .iinc 3 1, 3), (89, .goto (-80), 3), (92, .iload_n 2, 1), (93, .iconst (-1), 1), (94, .if_icmp .ne 11, 3), (97, .aload_n 0, 1), (98, .iconst 1, 1), (99, .invokevirtual 250, 3), (102, .goto 13, 3), (105, .aload_n 0, 1), (106, .aload_n 0, 1), (107, .getfield 112, 3), (110, .iload_n 2, 1), (111, .iaload, 1), (112, .invokevirtual 616, 3), (115, .ireturn, 1)]
def mi_M131 : mi_M := (⟨"TypeLoomModel", "writeAt", "(I)I"⟩, prog_13_method_103_code, 4, (some .int), 11, 1, 1, mi_q131, [], [])
def mi_q132 : List (Nat × Instr × Nat) := [(0, .aload_n 0, 1), (1, .iconst 0, 1), (2, .putfield 145, 3), (5, .iload_n 1, 1), (6, .iconst 0, 1), (7, .aload_n 0, 1), (8, .getfield 178, 3), (11, .iconst 3, 1), (12, .isub, 1), (13, .invokestatic 253, 3), (16, .ifCond .eq 18, 3), (19, .aload_n 0, 1), (20, .aload_n 0, 1), (21, .getfield 76, 3), (24, .iload_n 1, 1), (25, .iconst 2, 1), (26, .iadd, 1), (27, .iaload, 1), (28, .invokevirtual 616, 3), (31, .goto 8, 3), (34, .aload_n 0, 1), (35, .iconst 1, 1), (36, .invokevirtual 250, 3), (39, .ireturn, 1)]
def mi_M132 : mi_M := (⟨"TypeLoomModel", "writeConstructor", "(I)I"⟩, prog_13_method_102_code, 2, (some .int), 11, 1, 1, mi_q132, [], [])
def mi_q133 : List (Nat × Instr × Nat) := [(0, .aload_n 0, 1), (1, .iload_n 1, 1), (2, .putfield 411, 3), (5, .aload_n 0, 1), (6, .iload_n 2, 1), (7, .putfield 13, 3), (10, .iconst (-1), 1), (11, .ireturn, 1)]
def mi_M133 : mi_M := (⟨"TypeLoomModel", "wrong", "(II)I"⟩, prog_13_method_50_code, 3, (some .int), 11, 1, 2, mi_q133, [], [])
def mi_q134 : List (Nat × Instr × Nat) := [(0, .aload_n 0, 1), (1, .invokevirtual 492, 3), (4, .ifCond .eq 12, 3), (7, .aload_n 0, 1), (8, .getfield 9, 3), (11, .iload_n 1, 1), (12, .invokestatic 495, 3), (15, .ireturn, 1), (16, .aload_n 0, 1), (17, .getfield 9, 3), (20, .iload_n 1, 1), (21, .invokestatic 498, 3), (24, .ireturn, 1)]
def mi_M134 : mi_M := (⟨"java/lang/String", "charAt", "(I)C"⟩, prog_22_method_56_code, 2, (some .char), 13, 1, 1, mi_q134, [], [])
def mi_q135 : List (Nat × Instr × Nat) := [(0, .iload_n 0, 1), (1, .iload_n 1, 1), (2, .getstatic 1053, 3), (5, .invokestatic 1059, 3), (8, .pop, 1), (9, .return_, 1)]
def mi_M135 : mi_M := (⟨"java/lang/String", "checkIndex", "(II)V"⟩, prog_22_method_155_code, 2, none, 13, 0, 2, mi_q135, [], [])
def mi_q136 : List (Nat × Instr × Nat) := [(0, .getstatic 38, 3), (3, .ifCond .eq 10, 3), (6, .aload_n 0, 1), (7, .getfield 15, 3), (10, .goto 4, 3), (13, .iconst 1, 1), (14, .ireturn, 1)]
def mi_M136 : mi_M := (⟨"java/lang/String", "coder", "()B"⟩, prog_22_method_152_code, 1, (some .byte), 13, 1, 0, mi_q136, [], [])
def mi_q137 : List (Nat × Instr × Nat) := [(0, .getstatic 38, 3), (3, .ifCond .eq 14, 3), (6, .aload_n 0, 1), (7, .getfield 15, 3), (10, .ifCond .ne 7, 3), (13, .iconst 1, 1), (14, .goto 4, 3), (17, .iconst 0, 1), (18, .ireturn, 1)]
def mi_M137 : mi_M := (⟨"java/lang/String", "isLatin1", "()Z"⟩, prog_22_method_154_code, 1, (some .boolean), 13, 1, 0, mi_q137, [], [])
def mi_q138 : List (Nat × Instr × Nat) := [(0, .aload_n 0, 1), (1, .getfield 9, 3), (4, .arraylength, 1), (5, .aload_n 0, 1), (6, .invokevirtual 335, 3), (9, .ishr, 1), (10, .ireturn, 1)]
def mi_M138 : mi_M := (⟨"java/lang/String", "length", "()I"⟩, prog_22_method_54_code, 1, (some .int), 13, 1, 0, mi_q138, [], [])
def mi_q139 : List (Nat × Instr × Nat) := [(0, .iload_n 1, 1), (1, .aload_n 0, 1), (2, .arraylength, 1), (3, .invokestatic 9, 3), (6, .aload_n 0, 1), (7, .iload_n 1, 1), (8, .baload, 1), (9, .sipush 255, 3), (12, .iand, 1), (13, .i2c, 1), (14, .ireturn, 1)]
def mi_M139 : mi_M := (⟨"java/lang/StringLatin1", "charAt", "([BI)C"⟩, prog_23_method_2_code, 2, (some .char), 14, 0, 2, mi_q139, [], [])
def mi_q140 : List (Nat × Instr × Nat) := [(0, .iconst 0, 1), (1, .istore_n 2, 1), (2, .aload_n 0, 1), (3, .arraylength, 1), (4, .istore_n 3, 1), (5, .iload_n 2, 1), (6, .iload_n 3, 1), (7, .if_icmp .ge 13, 3), (10, .aload_n 0, 1), (11, .iload_n 2, 1), (12, .iload_n 1, 1), (13, .iastore, 1), (14, .iinc 2 1, 3), (17, .goto (-12), 3), (20, .return_, 1)]
def mi_M140 : mi_M := (⟨"java/util/Arrays", "fill", "([II)V"⟩, prog_27_method_103_code, 4, none, 15, 0, 2, mi_q140, [], [])
def mi_q141 : List (Nat × Instr × Nat) := [(0, .iload_n 0, 1), (1, .ifCond .lt 8, 3), (4, .iload_n 0, 1), (5, .iload_n 1, 1), (6, .if_icmp .lt 10, 3), (9, .aload_n 2, 1), (10, .iload_n 0, 1), (11, .iload_n 1, 1), (12, .invokestatic 95, 3), (15, .athrow, 1), (16, .iload_n 0, 1), (17, .ireturn, 1)]
def mi_M141 : mi_M := (⟨"jdk/internal/util/Preconditions", "checkIndex", "(IILjava/util/function/BiFunction;)I"⟩, prog_28_method_11_code, 3, (some .int), 16, 0, 3, mi_q141, [], [])
def mi_qL0 : List (Nat × Instr × Nat) := [(0, .new 8, 3), (3, .dup, 1), (4, .invokespecial 52, 3), (7, .astore_n 1, 1), (8, .new 53, 3), (11, .dup, 1), (12, .invokespecial 55, 3), (15, .astore_n 2, 1), (16, .iconst 1, 1), (17, .newarray .long, 2), (19, .astore_n 3, 1), (20, .iconst 0, 1), (21, .istore 4, 2), (23, .iload 4, 2), (25, .aload_n 0, 1), (26, .arraylength, 1), (27, .bipush 6, 2), (29, .isub, 1), (30, .if_icmp .gt 909, 3), (33, .aload_n 0, 1), (34, .iload 4, 2), (36, .iaload, 1), (37, .bipush 15, 2), (39, .iand, 1), (40, .tableswitch 893 0 15 #[80, 184, 240, 253, 266, 322, 378, 434, 490, 546, 614, 682, 757, 825, 838, 879], 80), (120, .aload_n 1, 1), (121, .aload_n 0, 1), (122, .iload 4, 2), (124, .iconst 1, 1), (125, .iadd, 1), (126, .iaload, 1), (127, .aload_n 0, 1), (128, .iload 4, 2), (130, .iconst 2, 1), (131, .iadd, 1), (132, .iaload, 1), (133, .aload_n 0, 1), (134, .iload 4, 2), (136, .iconst 3, 1), (137, .iadd, 1)]
def mi_qL1 : List (Nat × Instr × Nat) := [(138, .iaload, 1), (139, .aload_n 0, 1), (140, .iload 4, 2), (142, .iconst 4, 1), (143, .iadd, 1), (144, .iaload, 1), (145, .aload_n 0, 1), (146, .iload 4, 2), (148, .iconst 5, 1), (149, .iadd, 1), (150, .iaload, 1), (151, .aload_n 3, 1), (152, .invokestatic 56, 3), (155, .istore 5, 2), (157, .aload_n 2, 1), (158, .aload_n 0, 1), (159, .iload 4, 2), (161, .iconst 1, 1), (162, .iadd, 1), (163, .iaload, 1), (164, .aload_n 0, 1), (165, .iload 4, 2), (167, .iconst 2, 1), (168, .iadd, 1), (169, .iaload, 1), (170, .aload_n 0, 1), (171, .iload 4, 2), (173, .iconst 3, 1), (174, .iadd, 1), (175, .iaload, 1), (176, .aload_n 0, 1), (177, .iload 4, 2), (179, .iconst 4, 1), (180, .iadd, 1), (181, .iaload, 1), (182, .aload_n 0, 1), (183, .iload 4, 2), (185, .iconst 5, 1), (186, .iadd, 1), (187, .iaload, 1)]
def mi_qL2 : List (Nat × Instr × Nat) := [(188, .invokevirtual 61, 3), (191, .istore 6, 2), (193, .aload_n 2, 1), (194, .invokevirtual 62, 3), (197, .iload 5, 2), (199, .if_icmp .eq 5, 3), (202, .iconst 0, 1), (203, .ireturn, 1), (204, .iload 5, 2), (206, .ifCond .ne 15, 3), (209, .aload_n 3, 1), (210, .iconst 0, 1), (211, .laload, 1), (212, .iload 6, 2), (214, .i2l, 1), (215, .lcmp, 1), (216, .ifCond .eq 5, 3), (219, .iconst 0, 1), (220, .ireturn, 1), (221, .goto 712, 3), (224, .aload_n 1, 1), (225, .aload_n 0, 1), (226, .iload 4, 2), (228, .iconst 1, 1), (229, .iadd, 1), (230, .iaload, 1), (231, .aload_n 3, 1), (232, .invokestatic 66, 3), (235, .istore 5, 2), (237, .aload_n 2, 1), (238, .aload_n 0, 1), (239, .iload 4, 2), (241, .iconst 1, 1), (242, .iadd, 1), (243, .iaload, 1), (244, .invokevirtual 69, 3), (247, .istore 6, 2), (249, .aload_n 2, 1), (250, .invokevirtual 62, 3), (253, .iload 5, 2)]
def mi_qL3 : List (Nat × Instr × Nat) := [(255, .if_icmp .eq 5, 3), (258, .iconst 0, 1), (259, .ireturn, 1), (260, .iload 5, 2), (262, .ifCond .ne 15, 3), (265, .aload_n 3, 1), (266, .iconst 0, 1), (267, .laload, 1), (268, .iload 6, 2), (270, .i2l, 1), (271, .lcmp, 1), (272, .ifCond .eq 5, 3), (275, .iconst 0, 1), (276, .ireturn, 1), (277, .goto 656, 3), (280, .aload_n 1, 1), (281, .invokevirtual 70, 3), (284, .aload_n 2, 1), (285, .invokevirtual 73, 3), (288, .if_icmp .eq 645, 3), (291, .iconst 0, 1), (292, .ireturn, 1), (293, .aload_n 1, 1), (294, .invokevirtual 74, 3), (297, .aload_n 2, 1), (298, .invokevirtual 77, 3), (301, .if_icmp .eq 632, 3), (304, .iconst 0, 1), (305, .ireturn, 1), (306, .aload_n 1, 1), (307, .aload_n 0, 1), (308, .iload 4, 2), (310, .iconst 1, 1), (311, .iadd, 1), (312, .iaload, 1), (313, .aload_n 3, 1), (314, .invokestatic 78, 3), (317, .istore 5, 2), (319, .aload_n 2, 1), (320, .aload_n 0, 1)]
def mi_qL4 : List (Nat × Instr × Nat) := [(321, .iload 4, 2), (323, .iconst 1, 1), (324, .iadd, 1), (325, .iaload, 1), (326, .invokevirtual 80, 3), (329, .istore 6, 2), (331, .aload_n 2, 1), (332, .invokevirtual 62, 3), (335, .iload 5, 2), (337, .if_icmp .eq 5, 3), (340, .iconst 0, 1), (341, .ireturn, 1), (342, .iload 5, 2), (344, .ifCond .ne 15, 3), (347, .aload_n 3, 1), (348, .iconst 0, 1), (349, .laload, 1), (350, .iload 6, 2), (352, .i2l, 1), (353, .lcmp, 1), (354, .ifCond .eq 5, 3), (357, .iconst 0, 1), (358, .ireturn, 1), (359, .goto 574, 3), (362, .aload_n 1, 1), (363, .aload_n 0, 1), (364, .iload 4, 2), (366, .iconst 1, 1), (367, .iadd, 1), (368, .iaload, 1), (369, .aload_n 3, 1), (370, .invokestatic 81, 3), (373, .istore 5, 2), (375, .aload_n 2, 1), (376, .aload_n 0, 1), (377, .iload 4, 2), (379, .iconst 1, 1), (380, .iadd, 1), (381, .iaload, 1), (382, .invokevirtual 83, 3)]
def mi_qL5 : List (Nat × Instr × Nat) := [(385, .istore 6, 2), (387, .aload_n 2, 1), (388, .invokevirtual 62, 3), (391, .iload 5, 2), (393, .if_icmp .eq 5, 3), (396, .iconst 0, 1), (397, .ireturn, 1), (398, .iload 5, 2), (400, .ifCond .ne 15, 3), (403, .aload_n 3, 1), (404, .iconst 0, 1), (405, .laload, 1), (406, .iload 6, 2), (408, .i2l, 1), (409, .lcmp, 1), (410, .ifCond .eq 5, 3), (413, .iconst 0, 1), (414, .ireturn, 1), (415, .goto 518, 3), (418, .aload_n 1, 1), (419, .aload_n 0, 1), (420, .iload 4, 2), (422, .iconst 1, 1), (423, .iadd, 1), (424, .iaload, 1), (425, .aload_n 3, 1), (426, .invokestatic 84, 3), (429, .istore 5, 2), (431, .aload_n 2, 1), (432, .aload_n 0, 1), (433, .iload 4, 2), (435, .iconst 1, 1), (436, .iadd, 1), (437, .iaload, 1), (438, .invokevirtual 86, 3), (441, .istore 6, 2), (443, .aload_n 2, 1), (444, .invokevirtual 62, 3), (447, .iload 5, 2), (449, .if_icmp .eq 5, 3)]
def mi_qL6 : List (Nat × Instr × Nat) := [(452, .iconst 0, 1), (453, .ireturn, 1), (454, .iload 5, 2), (456, .ifCond .ne 15, 3), (459, .aload_n 3, 1), (460, .iconst 0, 1), (461, .laload, 1), (462, .iload 6, 2), (464, .i2l, 1), (465, .lcmp, 1), (466, .ifCond .eq 5, 3), (469, .iconst 0, 1), (470, .ireturn, 1), (471, .goto 462, 3), (474, .aload_n 1, 1), (475, .aload_n 0, 1), (476, .iload 4, 2), (478, .iconst 1, 1), (479, .iadd, 1), (480, .iaload, 1), (481, .aload_n 3, 1), (482, .invokestatic 87, 3), (485, .istore 5, 2), (487, .aload_n 2, 1), (488, .aload_n 0, 1), (489, .iload 4, 2), (491, .iconst 1, 1), (492, .iadd, 1), (493, .iaload, 1), (494, .invokevirtual 89, 3), (497, .istore 6, 2), (499, .aload_n 2, 1), (500, .invokevirtual 62, 3), (503, .iload 5, 2), (505, .if_icmp .eq 5, 3), (508, .iconst 0, 1), (509, .ireturn, 1), (510, .iload 5, 2), (512, .ifCond .ne 15, 3), (515, .aload_n 3, 1)]
def mi_qL7 : List (Nat × Instr × Nat) := [(516, .iconst 0, 1), (517, .laload, 1), (518, .iload 6, 2), (520, .i2l, 1), (521, .lcmp, 1), (522, .ifCond .eq 5, 3), (525, .iconst 0, 1), (526, .ireturn, 1), (527, .goto 406, 3), (530, .aload_n 1, 1), (531, .aload_n 0, 1), (532, .iload 4, 2), (534, .iconst 1, 1), (535, .iadd, 1), (536, .iaload, 1), (537, .aload_n 3, 1), (538, .invokestatic 90, 3), (541, .istore 5, 2), (543, .aload_n 2, 1), (544, .aload_n 0, 1), (545, .iload 4, 2), (547, .iconst 1, 1), (548, .iadd, 1), (549, .iaload, 1), (550, .invokevirtual 92, 3), (553, .istore 6, 2), (555, .aload_n 2, 1), (556, .invokevirtual 62, 3), (559, .iload 5, 2), (561, .if_icmp .eq 5, 3), (564, .iconst 0, 1), (565, .ireturn, 1), (566, .iload 5, 2), (568, .ifCond .ne 15, 3), (571, .aload_n 3, 1), (572, .iconst 0, 1), (573, .laload, 1), (574, .iload 6, 2), (576, .i2l, 1), (577, .lcmp, 1)]
def mi_qL8 : List (Nat × Instr × Nat) := [(578, .ifCond .eq 5, 3), (581, .iconst 0, 1), (582, .ireturn, 1), (583, .goto 350, 3), (586, .aload_n 1, 1), (587, .aload_n 0, 1), (588, .iload 4, 2), (590, .iconst 1, 1), (591, .iadd, 1), (592, .iaload, 1), (593, .aload_n 0, 1), (594, .iload 4, 2), (596, .iconst 2, 1), (597, .iadd, 1), (598, .iaload, 1), (599, .aload_n 3, 1), (600, .invokestatic 93, 3), (603, .istore 5, 2), (605, .aload_n 2, 1), (606, .aload_n 0, 1), (607, .iload 4, 2), (609, .iconst 1, 1), (610, .iadd, 1), (611, .iaload, 1), (612, .aload_n 0, 1), (613, .iload 4, 2), (615, .iconst 2, 1), (616, .iadd, 1), (617, .iaload, 1), (618, .invokevirtual 96, 3), (621, .istore 6, 2), (623, .aload_n 2, 1), (624, .invokevirtual 62, 3), (627, .iload 5, 2), (629, .if_icmp .eq 5, 3), (632, .iconst 0, 1), (633, .ireturn, 1), (634, .iload 5, 2), (636, .ifCond .ne 15, 3), (639, .aload_n 3, 1)]
def mi_qL9 : List (Nat × Instr × Nat) := [(640, .iconst 0, 1), (641, .laload, 1), (642, .iload 6, 2), (644, .i2l, 1), (645, .lcmp, 1), (646, .ifCond .eq 5, 3), (649, .iconst 0, 1), (650, .ireturn, 1), (651, .goto 282, 3), (654, .aload_n 1, 1), (655, .aload_n 0, 1), (656, .iload 4, 2), (658, .iconst 1, 1), (659, .iadd, 1), (660, .iaload, 1), (661, .aload_n 0, 1), (662, .iload 4, 2), (664, .iconst 2, 1), (665, .iadd, 1), (666, .iaload, 1), (667, .aload_n 3, 1), (668, .invokestatic 97, 3), (671, .istore 5, 2), (673, .aload_n 2, 1), (674, .aload_n 0, 1), (675, .iload 4, 2), (677, .iconst 1, 1), (678, .iadd, 1), (679, .iaload, 1), (680, .aload_n 0, 1), (681, .iload 4, 2), (683, .iconst 2, 1), (684, .iadd, 1), (685, .iaload, 1), (686, .invokevirtual 99, 3), (689, .istore 6, 2), (691, .aload_n 2, 1), (692, .invokevirtual 62, 3), (695, .iload 5, 2), (697, .if_icmp .eq 5, 3)]
def mi_qL10 : List (Nat × Instr × Nat) := [(700, .iconst 0, 1), (701, .ireturn, 1), (702, .iload 5, 2), (704, .ifCond .ne 15, 3), (707, .aload_n 3, 1), (708, .iconst 0, 1), (709, .laload, 1), (710, .iload 6, 2), (712, .i2l, 1), (713, .lcmp, 1), (714, .ifCond .eq 5, 3), (717, .iconst 0, 1), (718, .ireturn, 1), (719, .goto 214, 3), (722, .aload_n 1, 1), (723, .aload_n 0, 1), (724, .iload 4, 2), (726, .iconst 1, 1), (727, .iadd, 1), (728, .iaload, 1), (729, .aload_n 0, 1), (730, .iload 4, 2), (732, .iconst 2, 1), (733, .iadd, 1), (734, .iaload, 1), (735, .aload_n 3, 1), (736, .invokestatic 100, 3), (739, .istore 5, 2), (741, .aload_n 2, 1), (742, .aload_n 0, 1), (743, .iload 4, 2), (745, .iconst 1, 1), (746, .iadd, 1), (747, .iaload, 1), (748, .aload_n 0, 1), (749, .iload 4, 2), (751, .iconst 2, 1), (752, .iadd, 1), (753, .iaload, 1), (754, .invokevirtual 102, 3)]
def mi_qL11 : List (Nat × Instr × Nat) := [(757, .istore 6, 2), (759, .aload_n 2, 1), (760, .invokevirtual 62, 3), (763, .iload 5, 2), (765, .if_icmp .eq 5, 3), (768, .iconst 0, 1), (769, .ireturn, 1), (770, .iload 5, 2), (772, .ifCond .ne 22, 3), (775, .aload_n 3, 1), (776, .iconst 0, 1), (777, .laload, 1), (778, .iload 6, 2), (780, .ifCond .eq 7, 3), (783, .lconst 1, 1), (784, .goto 4, 3), (787, .lconst 0, 1), (788, .lcmp, 1), (789, .ifCond .eq 5, 3), (792, .iconst 0, 1), (793, .ireturn, 1), (794, .goto 139, 3), (797, .aload_n 1, 1), (798, .aload_n 0, 1), (799, .iload 4, 2), (801, .iconst 1, 1), (802, .iadd, 1), (803, .iaload, 1), (804, .aload_n 0, 1), (805, .iload 4, 2), (807, .iconst 2, 1), (808, .iadd, 1), (809, .iaload, 1), (810, .aload_n 3, 1), (811, .invokestatic 103, 3), (814, .istore 5, 2), (816, .aload_n 2, 1), (817, .aload_n 0, 1), (818, .iload 4, 2), (820, .iconst 1, 1)]
def mi_qL12 : List (Nat × Instr × Nat) := [(821, .iadd, 1), (822, .iaload, 1), (823, .aload_n 0, 1), (824, .iload 4, 2), (826, .iconst 2, 1), (827, .iadd, 1), (828, .iaload, 1), (829, .invokevirtual 105, 3), (832, .istore 6, 2), (834, .aload_n 2, 1), (835, .invokevirtual 62, 3), (838, .iload 5, 2), (840, .if_icmp .eq 5, 3), (843, .iconst 0, 1), (844, .ireturn, 1), (845, .iload 5, 2), (847, .ifCond .ne 15, 3), (850, .aload_n 3, 1), (851, .iconst 0, 1), (852, .laload, 1), (853, .iload 6, 2), (855, .i2l, 1), (856, .lcmp, 1), (857, .ifCond .eq 5, 3), (860, .iconst 0, 1), (861, .ireturn, 1), (862, .goto 71, 3), (865, .aload_n 1, 1), (866, .invokevirtual 106, 3), (869, .aload_n 2, 1), (870, .invokevirtual 109, 3), (873, .if_icmp .eq 60, 3), (876, .iconst 0, 1), (877, .ireturn, 1), (878, .aload_n 1, 1), (879, .invokevirtual 110, 3), (882, .dstore 5, 2), (884, .aload_n 2, 1), (885, .invokevirtual 114, 3), (888, .dstore 7, 2)]
def mi_qL13 : List (Nat × Instr × Nat) := [(890, .dload 5, 2), (892, .dload 7, 2), (894, .dcmp .l, 1), (895, .ifCond .eq 21, 3), (898, .dload 5, 2), (900, .dload 5, 2), (902, .dcmp .l, 1), (903, .ifCond .eq 11, 3), (906, .dload 7, 2), (908, .dload 7, 2), (910, .dcmp .l, 1), (911, .ifCond .ne 5, 3), (914, .iconst 0, 1), (915, .ireturn, 1), (916, .goto 17, 3), (919, .aload_n 1, 1), (920, .invokevirtual 115, 3), (923, .aload_n 2, 1), (924, .invokevirtual 119, 3), (927, .lcmp, 1), (928, .ifCond .eq 5, 3), (931, .iconst 0, 1), (932, .ireturn, 1), (933, .iinc 4 6, 3), (936, .goto (-913), 3), (939, .iconst 1, 1), (940, .ireturn, 1)]
def mi_qL : List (Nat × Instr × Nat) := mi_qL0 ++ (mi_qL1 ++ (mi_qL2 ++ (mi_qL3 ++ (mi_qL4 ++ (mi_qL5 ++ (mi_qL6 ++ (mi_qL7 ++ (mi_qL8 ++ (mi_qL9 ++ (mi_qL10 ++ (mi_qL11 ++ (mi_qL12 ++ (mi_qL13)))))))))))))
/-- the law itself -/
def mi_ML : mi_M := (⟨"TypeLoomLaw", "law", "([I)Z"⟩, code, 9, some .boolean, 12, 4, 1, mi_qL, [], [])
def mi_mt : List mi_M := [mi_M0, mi_M1, mi_M2, mi_M3, mi_M4, mi_M5, mi_M6, mi_M7, mi_M8, mi_M9, mi_M10, mi_M11, mi_M12, mi_M13, mi_M14, mi_M15, mi_M16, mi_M17, mi_M18, mi_M19, mi_M20, mi_M21, mi_M22, mi_M23, mi_M24, mi_M25, mi_M26, mi_M27, mi_M28, mi_M29, mi_M30, mi_M31, mi_M32, mi_M33, mi_M34, mi_M35, mi_M36, mi_M37, mi_M38, mi_M39, mi_M40, mi_M41, mi_M42, mi_M43, mi_M44, mi_M45, mi_M46, mi_M47, mi_M48, mi_M49, mi_M50, mi_M51, mi_M52, mi_M53, mi_M54, mi_M55, mi_M56, mi_M57, mi_M58, mi_M59, mi_M60, mi_M61, mi_M62, mi_M63, mi_M64, mi_M65, mi_M66, mi_M67, mi_M68, mi_M69, mi_M70, mi_M71, mi_M72, mi_M73, mi_M74, mi_M75, mi_M76, mi_M77, mi_M78, mi_M79, mi_M80, mi_M81, mi_M82, mi_M83, mi_M84, mi_M85, mi_M86, mi_M87, mi_M88, mi_M89, mi_M90, mi_M91, mi_M92, mi_M93, mi_M94, mi_M95, mi_M96, mi_M97, mi_M98, mi_M99, mi_M100, mi_M101, mi_M102, mi_M103, mi_M104, mi_M105, mi_M106, mi_M107, mi_M108, mi_M109, mi_M110, mi_M111, mi_M112, mi_M113, mi_M114, mi_M115, mi_M116, mi_M117, mi_M118, mi_M119, mi_M120, mi_M121, mi_M122, mi_M123, mi_M124, mi_M125, mi_M126, mi_M127, mi_M128, mi_M129, mi_M130, mi_M131, mi_M132, mi_M133, mi_M134, mi_M135, mi_M136, mi_M137, mi_M138, mi_M139, mi_M140, mi_M141]
end
section
/-! ===== the words that every method is given; that the tables are the machine's ===== -/
def mi_lk {α : Type} : List (Nat × α) → Nat → Option α
  | [], _ => none
  | q :: l, k => if q.1 == k then some q.2 else mi_lk l k
theorem mi_lk_mem {α : Type} {k : Nat} {v : α} : ∀ {l : List (Nat × α)}, mi_lk l k = some v → (k, v) ∈ l
  | [], h => by cases h
  | q :: l, h => by
    unfold mi_lk at h
    by_cases hq : q.1 == k
    · rw [if_pos hq] at h
      cases h
      rw [← beq_iff_eq.mp hq]
      exact List.mem_cons_self
    · rw [if_neg hq] at h
      exact List.mem_cons_of_mem _ (mi_lk_mem h)
def mi_y (M : mi_M) : MethodName := M.1
def mi_bt (M : mi_M) : ByteArray := M.2.1
def mi_nL (M : mi_M) : Nat := M.2.2.1
def mi_rt (M : mi_M) : Option FieldType := M.2.2.2.1
def mi_ow (M : mi_M) : Nat := M.2.2.2.2.1
def mi_kd (M : mi_M) : Nat := M.2.2.2.2.2.1
def mi_np (M : mi_M) : Nat := M.2.2.2.2.2.2.1
def mi_cd (M : mi_M) : List (Nat × Instr × Nat) := M.2.2.2.2.2.2.2.1
def mi_th (M : mi_M) : List (Nat × Nat × Nat × Nat × Nat × Bool) := M.2.2.2.2.2.2.2.2.1
def mi_hd (M : mi_M) : List (Nat × Nat × Nat × Nat) := M.2.2.2.2.2.2.2.2.2
def mi_hw (M : mi_M) : Cond := if mi_kd M = 3 then .codeWith (mi_y M) (mi_bt M) (mi_nL M) (mi_rt M) (mi_hd M) else .code (mi_y M) (mi_bt M) (mi_nL M) (mi_rt M)
def mi_mw (M : mi_M) : List Cond := mi_hw M :: ((if mi_kd M = 0 ∨ mi_kd M = 3 then [.static (mi_y M)] else [.instanceMethod (mi_y M)]) ++ ((if mi_kd M = 1 then [.selects (mi_y M).cls (mi_y M) (mi_y M)] else []) ++ [.initialized (mi_y M).cls]))
def mi_kw (q : vw_C) : List Cond := u_ws q.1 q.2.1 q.2.2 ++ [.instantiable q.1 q.2.2, .initialized q.1]
def mi_flw (o : Nat) (q : Nat × Nat × Nat) : Cond := match mi_cl[q.2.1]? with
  | some x => .fieldLink (mi_on o) q.1 x.1 (x.2.1 q.2.2).2.1 (x.2.1 q.2.2).2.2.1
  | none => .tt
def mi_nfw (o : Nat) (q : Nat × Nat × Nat) : Cond := match mi_cl[q.2.1]? with
  | some x => .fieldLinkNest (mi_on o) q.1 x.1 (x.2.1 q.2.2).2.1 (x.2.1 q.2.2).2.2.1 "TypeLoom"
  | none => .tt
def mi_mlw (o : Nat) (q : Nat × Nat) : Cond := if q.2 = 1000000 then .methodLink (mi_on o) q.1 objectInit else if q.2 = 1000001 then .methodLink (mi_on o) q.1 arraycopyName else if q.2 = 1000002 then .methodLink (mi_on o) q.1 Lib.Math.max.name else if q.2 = 1000003 then .methodLink (mi_on o) q.1 Lib.Math.min.name else match mi_mt[q.2]? with
  | some M => .methodLink (mi_on o) q.1 (mi_y M)
  | none => .tt
def mi_nmw (o : Nat) (q : Nat × Nat) : Cond := match mi_mt[q.2]? with
  | some M => .methodLinkNest (mi_on o) q.1 (mi_y M) "TypeLoom"
  | none => .tt
def mi_klw (o : Nat) (q : Nat × Nat) : Cond := match mi_cl[q.2]? with
  | some x => .classLink (mi_on o) q.1 x.1
  | none => .tt
def mi_xlw (o : Nat) (q : Nat × Nat) : Cond := .classLink (mi_on o) q.1 (mi_xn q.2)
def mi_ilw (o : Nat) (q : Nat × Int32) : Cond := .constant (mi_on o) q.1 q.2
def mi_jlw (o : Nat) (q : Nat × Int64) : Cond := .constantLong (mi_on o) q.1 q.2
def mi_sfw (o : Nat) (q : Nat × Nat) : Cond := if q.2 = 0 then .fieldLink (mi_on o) q.1 "java/lang/String" "value" "[B" else if q.2 = 1 then .fieldLink (mi_on o) q.1 "java/lang/String" "coder" "B" else .tt
def mi_glw (o : Nat) (q : Nat × Nat) : Cond := match mi_st_[q.2]? with
  | some x => .fieldLink (mi_on o) q.1 x.1 x.2.1 x.2.2
  | none => .tt
def mi_lw (o : Nat) : List Cond := (mi_fl o).map (mi_flw o) ++ ((mi_ml o).map (mi_mlw o) ++ ((mi_kl o).map (mi_klw o) ++ ((mi_xl o).map (mi_xlw o) ++ ((mi_il o).map (mi_ilw o) ++ ((mi_jl o).map (mi_jlw o) ++ ((mi_sf o).map (mi_sfw o) ++ (mi_gl o).map (mi_glw o)))))))
def mi_n3 : List Cond := [.arrayClass .int, .arrayClass .long, .arrayClass .byte, .arrayClass .boolean, .code objectInit ⟨#[0xb1]⟩ 1 none, .instanceMethod objectInit, .initialized "java/lang/IllegalStateException", .initialized "java/lang/IllegalArgumentException", .initialized "java/lang/IndexOutOfBoundsException", .initialized "java/lang/Math", .static Lib.Math.max.name, .code Lib.Math.max.name Lib.Math.max.code 2 (some .int), .static Lib.Math.min.name, .code Lib.Math.min.name Lib.Math.min.code 2 (some .int)]
def mi_xc : List String := ["java/lang/RuntimeException", "java/lang/Exception"]
def mi_no : Nat := 17
/-- the exceptions that are thrown, each with its constructor's link -/
def mi_xs : List (Nat × Nat) := [(0, 90), (1, 101), (2, 135)]
def mi_n4 : List Cond := mi_xs.flatMap (fun q => (vx_atS "TypeLoom" q.2 (mi_xn q.1) mi_xc).filter goodWord)
def mi_need : List Cond := mi_cl.flatMap mi_kw ++ (mi_mt.flatMap mi_mw ++ ((List.range mi_no).flatMap mi_lw ++ (mi_n3 ++ mi_n4)))
/-- words that warmer tables keep, but that are no words of a method -/
def mi_bad : List Cond := (List.range mi_no).flatMap (fun o => (mi_nf o).map (mi_nfw o) ++ (mi_nm o).map (mi_nmw o)) ++ mi_xs.flatMap (fun q => (vx_atS "TypeLoom" q.2 (mi_xn q.1) mi_xc).filter (fun w => !goodWord w))
set_option maxRecDepth 100000 in
theorem mi_g0 : GoodIn lw_tbl (mi_cl.flatMap mi_kw) := goodIn_r _ [589, 591, 593, 595, 597, 599, 601, 603, 605, 607, 609, 611, 512, 195, 225, 227, 216, 182, 554, 556, 558, 560, 562, 564, 566, 568, 570, 572, 574, 538, 197, 430, 432, 434, 436, 438, 440, 442, 444, 446, 448, 450, 452, 454, 456, 458, 357, 189, 502, 504, 506, 508, 493, 194, 527, 529, 531, 533, 518, 196, 475, 477, 479, 481, 483, 485, 487, 489, 462, 193, 294, 296, 298, 300, 302, 304, 306, 308, 232, 183, 331, 333, 335, 337, 339, 341, 343, 345, 347, 349, 351, 353, 314, 188, 627, 629, 631, 633, 635, 637, 639, 615, 198, 653, 655, 657, 659, 661, 663, 665, 667, 669, 671, 673, 208, 181, 1828, 1830, 1832, 1834, 1836, 1838, 1840, 1842, 1844, 1846, 1848, 1850, 1852, 1854, 1856, 1858, 1860, 1862, 1864, 1866, 1868, 1870, 1872, 1874, 1876, 1878, 1880, 1882, 1884, 1886, 1888, 1890, 1892, 1894, 1896, 1898, 1900, 1902, 1904, 1906, 1908, 1910, 1912, 1914, 1916, 1918, 1920, 1922, 1924, 1926, 1928, 1930, 1932, 1934, 1936, 1938, 1940, 1942, 1944, 1946, 1948, 1950, 1952, 1954, 1956, 1958, 1960, 1962, 1964, 1966, 1968, 1708, 199] (by decide +kernel) (by decide +kernel)
set_option maxRecDepth 100000 in
theorem mi_g1_0 : GoodIn lw_tbl (List.flatMap mi_mw [mi_M0, mi_M1, mi_M2, mi_M3, mi_M4, mi_M5, mi_M6, mi_M7, mi_M8, mi_M9]) := goodIn_r _ [211, 210, 181, 1475, 1474, 85, 181, 1574, 1573, 87, 181, 1343, 1341, 1342, 181, 1670, 1668, 1669, 181, 679, 677, 678, 181, 1606, 1604, 1605, 181, 1693, 1691, 1692, 181, 1469, 1467, 1468, 181, 1339, 1337, 1338, 181] rfl (by decide +kernel)
set_option maxRecDepth 100000 in
theorem mi_g1_1 : GoodIn lw_tbl (List.flatMap mi_mw [mi_M10, mi_M11, mi_M12, mi_M13, mi_M14, mi_M15, mi_M16, mi_M17, mi_M18, mi_M19]) := goodIn_r _ [1503, 1501, 1502, 181, 683, 682, 0, 181, 1450, 1448, 1449, 181, 1678, 1676, 1677, 181, 1702, 1700, 1701, 181, 1582, 1580, 1581, 181, 1686, 1684, 1685, 181, 1629, 1627, 1628, 181, 1657, 1655, 1656, 181, 1639, 1637, 1638, 181] rfl (by decide +kernel)
set_option maxRecDepth 100000 in
theorem mi_g1_2 : GoodIn lw_tbl (List.flatMap mi_mw [mi_M20, mi_M21, mi_M22, mi_M23, mi_M24, mi_M25, mi_M26, mi_M27, mi_M28, mi_M29]) := goodIn_r _ [515, 514, 195, 977, 976, 39, 195, 973, 971, 972, 195, 219, 218, 182, 702, 700, 701, 182, 832, 830, 831, 182, 861, 859, 860, 182, 541, 540, 197, 360, 359, 189, 1169, 1167, 1168, 189] rfl (by decide +kernel)
set_option maxRecDepth 100000 in
theorem mi_g1_3 : GoodIn lw_tbl (List.flatMap mi_mw [mi_M30, mi_M31, mi_M32, mi_M33, mi_M34, mi_M35, mi_M36, mi_M37, mi_M38, mi_M39]) := goodIn_r _ [691, 689, 690, 189, 1071, 1069, 1070, 189, 1643, 1641, 1642, 189, 1483, 1481, 1482, 189, 1479, 1477, 1478, 189, 365, 364, 189, 496, 495, 194, 957, 956, 35, 194, 953, 952, 34, 194, 893, 892, 23, 194] rfl (by decide +kernel)
set_option maxRecDepth 100000 in
theorem mi_g1_4 : GoodIn lw_tbl (List.flatMap mi_mw [mi_M40, mi_M41, mi_M42, mi_M43, mi_M44, mi_M45, mi_M46, mi_M47, mi_M48, mi_M49]) := goodIn_r _ [853, 852, 15, 194, 824, 823, 10, 194, 828, 827, 11, 194, 949, 948, 33, 194, 815, 813, 814, 194, 1347, 1345, 1346, 194, 941, 940, 31, 194, 819, 818, 9, 194, 969, 968, 38, 194, 945, 944, 32, 194] rfl (by decide +kernel)
set_option maxRecDepth 100000 in
theorem mi_g1_5 : GoodIn lw_tbl (List.flatMap mi_mw [mi_M50, mi_M51, mi_M52, mi_M53, mi_M54, mi_M55, mi_M56, mi_M57, mi_M58, mi_M59]) := goodIn_r _ [849, 848, 14, 194, 521, 520, 196, 981, 979, 980, 196, 465, 464, 193, 687, 685, 686, 193, 1661, 1659, 1660, 193, 933, 931, 932, 193, 235, 234, 183, 726, 725, 4, 183, 718, 717, 2, 183] rfl (by decide +kernel)
set_option maxRecDepth 100000 in
theorem mi_g1_6 : GoodIn lw_tbl (List.flatMap mi_mw [mi_M60, mi_M61, mi_M62, mi_M63, mi_M64, mi_M65, mi_M66, mi_M67, mi_M68, mi_M69]) := goodIn_r _ [811, 809, 810, 183, 714, 713, 1, 183, 857, 855, 856, 183, 706, 704, 705, 183, 722, 721, 3, 183, 317, 316, 188, 695, 693, 694, 188, 1446, 1444, 1445, 188, 413, 411, 412, 188, 401, 399, 400, 188] rfl (by decide +kernel)
set_option maxRecDepth 100000 in
theorem mi_g1_7 : GoodIn lw_tbl (List.flatMap mi_mw [mi_M70, mi_M71, mi_M72, mi_M73, mi_M74, mi_M75, mi_M76, mi_M77, mi_M78, mi_M79]) := goodIn_r _ [409, 407, 408, 188, 377, 375, 376, 188, 373, 371, 372, 188, 405, 403, 404, 188, 618, 617, 198, 1487, 1485, 1486, 198, 1666, 1665, 180, 1601, 1600, 180, 1689, 1688, 180, 1498, 1497, 180] rfl (by decide +kernel)
set_option maxRecDepth 100000 in
theorem mi_g1_8 : GoodIn lw_tbl (List.flatMap mi_mw [mi_M80, mi_M81, mi_M82, mi_M83, mi_M84, mi_M85, mi_M86, mi_M87, mi_M88, mi_M89]) := goodIn_r _ [1674, 1673, 180, 1698, 1697, 180, 1577, 1576, 180, 1682, 1681, 180, 1625, 1624, 180, 1653, 1652, 180, 1635, 1634, 180, 1711, 1710, 199, 2416, 2414, 2415, 199, 2105, 2104, 115, 199] rfl (by decide +kernel)
set_option maxRecDepth 100000 in
theorem mi_g1_9 : GoodIn lw_tbl (List.flatMap mi_mw [mi_M90, mi_M91, mi_M92, mi_M93, mi_M94, mi_M95, mi_M96, mi_M97, mi_M98, mi_M99]) := goodIn_r _ [2376, 2374, 2375, 199, 2101, 2100, 114, 199, 1990, 1988, 1989, 199, 2321, 2319, 2320, 199, 2325, 2324, 166, 199, 2400, 2398, 2399, 199, 2424, 2422, 2423, 199, 2317, 2315, 2316, 199, 2076, 2075, 110, 199, 1978, 1976, 1977, 199] rfl (by decide +kernel)
set_option maxRecDepth 100000 in
theorem mi_g1_10 : GoodIn lw_tbl (List.flatMap mi_mw [mi_M100, mi_M101, mi_M102, mi_M103, mi_M104, mi_M105, mi_M106, mi_M107, mi_M108, mi_M109]) := goodIn_r _ [1750, 1749, 91, 199, 1744, 1743, 90, 199, 2029, 2028, 101, 199, 2109, 2108, 116, 199, 2333, 2332, 167, 199, 1734, 1733, 199, 2001, 2000, 199, 1737, 1736, 199, 2041, 2040, 104, 199, 1740, 1739, 199] rfl (by decide +kernel)
set_option maxRecDepth 100000 in
theorem mi_g1_11 : GoodIn lw_tbl (List.flatMap mi_mw [mi_M110, mi_M111, mi_M112, mi_M113, mi_M114, mi_M115, mi_M116, mi_M117, mi_M118, mi_M119]) := goodIn_r _ [2016, 2015, 98, 199, 1717, 1716, 88, 199, 1731, 1730, 199, 2420, 2418, 2419, 199, 2380, 2378, 2379, 199, 2412, 2410, 2411, 199, 1725, 1724, 199, 1982, 1981, 93, 199, 1756, 1755, 92, 199, 2097, 2096, 113, 199] rfl (by decide +kernel)
set_option maxRecDepth 100000 in
theorem mi_g1_12 : GoodIn lw_tbl (List.flatMap mi_mw [mi_M120, mi_M121, mi_M122, mi_M123, mi_M124, mi_M125, mi_M126, mi_M127, mi_M128, mi_M129]) := goodIn_r _ [2012, 2011, 97, 199, 1994, 1993, 94, 199, 2025, 2024, 100, 199, 2093, 2092, 112, 199, 2021, 2020, 99, 199, 1998, 1997, 95, 199, 1974, 1972, 1973, 199, 1986, 1984, 1985, 199, 1721, 1720, 89, 199, 2396, 2394, 2395, 199] rfl (by decide +kernel)
set_option maxRecDepth 100000 in
theorem mi_g1_13 : GoodIn lw_tbl (List.flatMap mi_mw [mi_M130, mi_M131, mi_M132, mi_M133, mi_M134, mi_M135, mi_M136, mi_M137, mi_M138, mi_M139]) := goodIn_r _ [2329, 2327, 2328, 199, 2372, 2370, 2371, 199, 2368, 2366, 2367, 199, 2119, 2118, 117, 199, 251, 249, 250, 184, 261, 260, 184, 245, 243, 244, 184, 255, 253, 254, 184, 241, 239, 240, 184, 258, 257, 185] rfl (by decide +kernel)
set_option maxRecDepth 100000 in
theorem mi_g1_14 : GoodIn lw_tbl (List.flatMap mi_mw [mi_M140, mi_M141]) := goodIn_r _ [698, 697, 190, 266, 265, 186] rfl (by decide +kernel)
theorem mi_g1 : GoodIn lw_tbl (mi_mt.flatMap mi_mw) := by
  have e : mi_mt = [mi_M0, mi_M1, mi_M2, mi_M3, mi_M4, mi_M5, mi_M6, mi_M7, mi_M8, mi_M9] ++ ([mi_M10, mi_M11, mi_M12, mi_M13, mi_M14, mi_M15, mi_M16, mi_M17, mi_M18, mi_M19] ++ ([mi_M20, mi_M21, mi_M22, mi_M23, mi_M24, mi_M25, mi_M26, mi_M27, mi_M28, mi_M29] ++ ([mi_M30, mi_M31, mi_M32, mi_M33, mi_M34, mi_M35, mi_M36, mi_M37, mi_M38, mi_M39] ++ ([mi_M40, mi_M41, mi_M42, mi_M43, mi_M44, mi_M45, mi_M46, mi_M47, mi_M48, mi_M49] ++ ([mi_M50, mi_M51, mi_M52, mi_M53, mi_M54, mi_M55, mi_M56, mi_M57, mi_M58, mi_M59] ++ ([mi_M60, mi_M61, mi_M62, mi_M63, mi_M64, mi_M65, mi_M66, mi_M67, mi_M68, mi_M69] ++ ([mi_M70, mi_M71, mi_M72, mi_M73, mi_M74, mi_M75, mi_M76, mi_M77, mi_M78, mi_M79] ++ ([mi_M80, mi_M81, mi_M82, mi_M83, mi_M84, mi_M85, mi_M86, mi_M87, mi_M88, mi_M89] ++ ([mi_M90, mi_M91, mi_M92, mi_M93, mi_M94, mi_M95, mi_M96, mi_M97, mi_M98, mi_M99] ++ ([mi_M100, mi_M101, mi_M102, mi_M103, mi_M104, mi_M105, mi_M106, mi_M107, mi_M108, mi_M109] ++ ([mi_M110, mi_M111, mi_M112, mi_M113, mi_M114, mi_M115, mi_M116, mi_M117, mi_M118, mi_M119] ++ ([mi_M120, mi_M121, mi_M122, mi_M123, mi_M124, mi_M125, mi_M126, mi_M127, mi_M128, mi_M129] ++ ([mi_M130, mi_M131, mi_M132, mi_M133, mi_M134, mi_M135, mi_M136, mi_M137, mi_M138, mi_M139] ++ ([mi_M140, mi_M141])))))))))))))) := rfl
  rw [e]
  intro w hw
  obtain ⟨M, hM, hw⟩ := List.mem_flatMap.mp hw
  rcases List.mem_append.mp hM with hM | hM
  · exact mi_g1_0 w (List.mem_flatMap.mpr ⟨M, hM, hw⟩)
  rcases List.mem_append.mp hM with hM | hM
  · exact mi_g1_1 w (List.mem_flatMap.mpr ⟨M, hM, hw⟩)
  rcases List.mem_append.mp hM with hM | hM
  · exact mi_g1_2 w (List.mem_flatMap.mpr ⟨M, hM, hw⟩)
  rcases List.mem_append.mp hM with hM | hM
  · exact mi_g1_3 w (List.mem_flatMap.mpr ⟨M, hM, hw⟩)
  rcases List.mem_append.mp hM with hM | hM
  · exact mi_g1_4 w (List.mem_flatMap.mpr ⟨M, hM, hw⟩)
  rcases List.mem_append.mp hM with hM | hM
  · exact mi_g1_5 w (List.mem_flatMap.mpr ⟨M, hM, hw⟩)
  rcases List.mem_append.mp hM with hM | hM
  · exact mi_g1_6 w (List.mem_flatMap.mpr ⟨M, hM, hw⟩)
  rcases List.mem_append.mp hM with hM | hM
  · exact mi_g1_7 w (List.mem_flatMap.mpr ⟨M, hM, hw⟩)
  rcases List.mem_append.mp hM with hM | hM
  · exact mi_g1_8 w (List.mem_flatMap.mpr ⟨M, hM, hw⟩)
  rcases List.mem_append.mp hM with hM | hM
  · exact mi_g1_9 w (List.mem_flatMap.mpr ⟨M, hM, hw⟩)
  rcases List.mem_append.mp hM with hM | hM
  · exact mi_g1_10 w (List.mem_flatMap.mpr ⟨M, hM, hw⟩)
  rcases List.mem_append.mp hM with hM | hM
  · exact mi_g1_11 w (List.mem_flatMap.mpr ⟨M, hM, hw⟩)
  rcases List.mem_append.mp hM with hM | hM
  · exact mi_g1_12 w (List.mem_flatMap.mpr ⟨M, hM, hw⟩)
  rcases List.mem_append.mp hM with hM | hM
  · exact mi_g1_13 w (List.mem_flatMap.mpr ⟨M, hM, hw⟩)
  exact mi_g1_14 w (List.mem_flatMap.mpr ⟨M, hM, hw⟩)
set_option maxRecDepth 100000 in
theorem mi_g2 : GoodIn lw_tbl ((List.range mi_no).flatMap mi_lw) := goodIn_r _ [582, 577, 579, 580, 583, 578, 581, 584, 586, 587, 516, 539, 974, 982, 983, 978, 517, 537, 223, 221, 220, 547, 548, 549, 543, 544, 545, 546, 542, 416, 417, 418, 419, 420, 421, 422, 423, 415, 424, 425, 426, 427, 428, 429, 361, 363, 370, 395, 398, 402, 406, 410, 366, 367, 692, 696, 1644, 498, 499, 500, 501, 497, 816, 821, 829, 825, 846, 890, 820, 833, 854, 858, 850, 938, 942, 946, 950, 954, 966, 523, 524, 525, 526, 522, 467, 468, 469, 470, 471, 472, 473, 474, 466, 1662, 287, 288, 289, 290, 291, 286, 292, 293, 236, 238, 248, 707, 710, 711, 719, 808, 715, 723, 319, 320, 321, 322, 323, 324, 325, 326, 327, 328, 318, 374, 378, 622, 623, 620, 621, 625, 619, 642, 643, 644, 645, 646, 647, 648, 649, 650, 651, 652, 222, 224, 212, 233, 315, 358, 494, 513, 616, 1571, 680, 699, 703, 812, 970, 1334, 1335, 1472, 1630, 1484, 1640, 1658, 1443, 1344, 1441, 1442, 1451, 684, 688, 1476, 1480, 215, 231, 313, 356, 461, 492, 511, 614, 1504, 1583, 1607, 1470, 1471, 1758, 1760, 1761, 1762, 1763, 1765, 1768, 1769, 1770, 1771, 1772, 1774, 1775, 1776, 1778, 1779, 1780, 1781, 1785, 1786, 1788, 1789, 1790, 1792, 1793, 1794, 1801, 1802, 1803, 1804, 1805, 1806, 1807, 1808, 1811, 1812, 1813, 1818, 1821, 1822, 1823, 1825, 1826, 1757, 1767, 1782, 1783, 1784, 1787, 1795, 1796, 1797, 1798, 1791, 1800, 1809, 1799, 1773, 1759, 1764, 1817, 1814, 1810, 1766, 1712, 1714, 1718, 1723, 1741, 1747, 1753, 1979, 1735, 1995, 1738, 1999, 1732, 2008, 1726, 1728, 2026, 1729, 2022, 2038, 2013, 2018, 2073, 2090, 2094, 2098, 2102, 2106, 2116, 1991, 2009, 2322, 2330, 1713, 1727, 2425, 2426, 2042, 1500, 1579, 1603, 1626, 1636, 1654, 1667, 1675, 1683, 1690, 1699, 209, 1709, 1496, 1975, 1971, 1575, 1983, 676, 1987, 1336, 2314, 1599, 2318, 1623, 2326, 1633, 2365, 1651, 2369, 1664, 2373, 1672, 2377, 1680, 2393, 1687, 2397, 1696, 2409, 1340, 2413, 1447, 2417, 1466, 2421, 207, 1707, 1499, 1578, 1602, 242, 252, 256, 264, 2428, 2429, 246, 262, 259] (by decide +kernel) (by decide +kernel)
set_option maxRecDepth 100000 in
theorem mi_g3 : GoodIn lw_tbl (mi_n3) := goodIn_r _ [312, 311, 230, 536, 214, 213, 203, 204, 206, 191, 708, 709, 390, 391] (by decide +kernel) (by decide +kernel)
theorem mi_g4_0 : ∀ w ∈ (vx_atS "TypeLoom" 90 (mi_xn 0) mi_xc).filter goodWord, w ∈ lw_tbl := by decide +kernel
theorem mi_g4_1 : ∀ w ∈ (vx_atS "TypeLoom" 101 (mi_xn 1) mi_xc).filter goodWord, w ∈ lw_tbl := by decide +kernel
theorem mi_g4_2 : ∀ w ∈ (vx_atS "TypeLoom" 135 (mi_xn 2) mi_xc).filter goodWord, w ∈ lw_tbl := by decide +kernel
theorem mi_g4 : GoodIn lw_tbl mi_n4 := by
  intro w hw
  obtain ⟨q, hq, hw⟩ := List.mem_flatMap.mp hw
  refine ⟨?_, good_of_word (List.mem_filter.mp hw).2⟩
  simp only [mi_xs, List.mem_cons, List.not_mem_nil, or_false] at hq
  rcases hq with rfl | rfl | rfl
  · exact mi_g4_0 w hw
  · exact mi_g4_1 w hw
  · exact mi_g4_2 w hw
theorem mi_gn : GoodIn lw_tbl mi_need := goodIn_app mi_g0 (goodIn_app mi_g1 (goodIn_app mi_g2 (goodIn_app mi_g3 mi_g4)))
theorem mi_gself : GoodIn mi_need mi_need := fun w h => ⟨h, (mi_gn w h).2⟩
theorem mi_in0 {w : Cond} {q : vw_C} (hq : q ∈ mi_cl) (h : w ∈ mi_kw q) : w ∈ mi_need := List.mem_append_left _ (List.mem_flatMap.mpr ⟨q, hq, h⟩)
theorem mi_in1 {w : Cond} {M : mi_M} (hq : M ∈ mi_mt) (h : w ∈ mi_mw M) : w ∈ mi_need := List.mem_append_right _ (List.mem_append_left _ (List.mem_flatMap.mpr ⟨M, hq, h⟩))
theorem mi_in2 {w : Cond} {o : Nat} (hq : o < mi_no) (h : w ∈ mi_lw o) : w ∈ mi_need := List.mem_append_right _ (List.mem_append_right _ (List.mem_append_left _ (List.mem_flatMap.mpr ⟨o, List.mem_range.mpr hq, h⟩)))
theorem mi_in3 {w : Cond} (h : w ∈ mi_n3) : w ∈ mi_need := List.mem_append_right _ (List.mem_append_right _ (List.mem_append_right _ (List.mem_append_left _ h)))
theorem mi_in4 {w : Cond} (h : w ∈ mi_n4) : w ∈ mi_need := List.mem_append_right _ (List.mem_append_right _ (List.mem_append_right _ (List.mem_append_right _ h)))
/-- a method's row, held against its class file -/
def mi_mok (M : mi_M) : Bool := plainName (mi_y M).cls && (decide ((mi_y M).cls ≠ "java/lang/invoke/MethodHandle") && (decide ((mi_y M).cls ≠ "java/lang/invoke/VarHandle") && (decide ((parseMethodDescriptor (mi_y M).desc).map (fun d => d.parameters.length) = some (mi_np M)) && (decide ((mi_y M).cls = mi_on (mi_ow M)) && (decide (mi_ow M < mi_no) && (decide (mi_nL M ≤ 20) && ((!decide (mi_kd M = 2) || decide ((mi_y M).name = "<init>")) && ((mi_cd M).all (fun q => decide (decode (mi_bt M) q.1 = .ok q.2)) && ((mi_th M).all (fun q => decide (decode (mi_bt M) q.1 = .ok (.new q.2.2.1, 3)) && (decide (decode (mi_bt M) (q.1 + 3) = .ok (.dup, 1)) && (decide (decode (mi_bt M) (q.1 + 4) = .ok (.ldc q.2.2.2.1, 2)) && (decide (decode (mi_bt M) (q.1 + 6) = .ok (.invokespecial q.2.2.2.2.1, 3)) && (decide (decode (mi_bt M) (q.1 + 9) = .ok (.athrow, 1)) && (decide ((mi_y M).cls = "TypeLoom") && (decide ((q.2.1, q.2.2.2.2.1) ∈ mi_xs) && (decide (mi_kd M < 3) && (decide (mi_lk (mi_xl (mi_ow M)) q.2.2.1 = some q.2.1) && (decide (q.2.1 < 3) && (match mi_lk (mi_sl (mi_ow M)) q.2.2.2.1 with | some i => decide (i < mi_nS) | none => false)))))))))))) && (decide (mi_kd M = 3) || decide (mi_hd M = []))))))))))
set_option maxRecDepth 100000 in
theorem mi_ok0 : ∀ M ∈ [mi_M0, mi_M1, mi_M2, mi_M3, mi_M4, mi_M5], mi_mok M = true := by decide +kernel
set_option maxRecDepth 100000 in
theorem mi_ok1 : ∀ M ∈ [mi_M6, mi_M7, mi_M8, mi_M9, mi_M10, mi_M11], mi_mok M = true := by decide +kernel
set_option maxRecDepth 100000 in
theorem mi_ok2 : ∀ M ∈ [mi_M12, mi_M13, mi_M14, mi_M15, mi_M16, mi_M17], mi_mok M = true := by decide +kernel
set_option maxRecDepth 100000 in
theorem mi_ok3 : ∀ M ∈ [mi_M18, mi_M19, mi_M20, mi_M21, mi_M22, mi_M23], mi_mok M = true := by decide +kernel
set_option maxRecDepth 100000 in
theorem mi_ok4 : ∀ M ∈ [mi_M24, mi_M25, mi_M26, mi_M27, mi_M28, mi_M29], mi_mok M = true := by decide +kernel
set_option maxRecDepth 100000 in
theorem mi_ok5 : ∀ M ∈ [mi_M30, mi_M31, mi_M32, mi_M33, mi_M34, mi_M35], mi_mok M = true := by decide +kernel
set_option maxRecDepth 100000 in
theorem mi_ok6 : ∀ M ∈ [mi_M36, mi_M37, mi_M38, mi_M39, mi_M40, mi_M41], mi_mok M = true := by decide +kernel
set_option maxRecDepth 100000 in
theorem mi_ok7 : ∀ M ∈ [mi_M42, mi_M43, mi_M44, mi_M45, mi_M46, mi_M47], mi_mok M = true := by decide +kernel
set_option maxRecDepth 100000 in
theorem mi_ok8 : ∀ M ∈ [mi_M48, mi_M49, mi_M50, mi_M51, mi_M52, mi_M53], mi_mok M = true := by decide +kernel
set_option maxRecDepth 100000 in
theorem mi_ok9 : ∀ M ∈ [mi_M54, mi_M55, mi_M56, mi_M57, mi_M58, mi_M59], mi_mok M = true := by decide +kernel
set_option maxRecDepth 100000 in
theorem mi_ok10 : ∀ M ∈ [mi_M60, mi_M61, mi_M62, mi_M63, mi_M64, mi_M65], mi_mok M = true := by decide +kernel
set_option maxRecDepth 100000 in
theorem mi_ok11 : ∀ M ∈ [mi_M66, mi_M67, mi_M68, mi_M69, mi_M70, mi_M71], mi_mok M = true := by decide +kernel
set_option maxRecDepth 100000 in
theorem mi_ok12 : ∀ M ∈ [mi_M72, mi_M73, mi_M74, mi_M75, mi_M76, mi_M77], mi_mok M = true := by decide +kernel
set_option maxRecDepth 100000 in
theorem mi_ok13 : ∀ M ∈ [mi_M78, mi_M79, mi_M80, mi_M81, mi_M82, mi_M83], mi_mok M = true := by decide +kernel
set_option maxRecDepth 100000 in
theorem mi_ok14 : ∀ M ∈ [mi_M84, mi_M85, mi_M86, mi_M87, mi_M88, mi_M89], mi_mok M = true := by decide +kernel
set_option maxRecDepth 100000 in
theorem mi_ok15 : ∀ M ∈ [mi_M90, mi_M91, mi_M92, mi_M93, mi_M94, mi_M95], mi_mok M = true := by decide +kernel
set_option maxRecDepth 100000 in
theorem mi_ok16 : ∀ M ∈ [mi_M96, mi_M97, mi_M98, mi_M99, mi_M100, mi_M101], mi_mok M = true := by decide +kernel
set_option maxRecDepth 100000 in
theorem mi_ok17 : ∀ M ∈ [mi_M102, mi_M103, mi_M104, mi_M105, mi_M106, mi_M107], mi_mok M = true := by decide +kernel
set_option maxRecDepth 100000 in
theorem mi_ok18 : ∀ M ∈ [mi_M108, mi_M109, mi_M110, mi_M111, mi_M112, mi_M113], mi_mok M = true := by decide +kernel
set_option maxRecDepth 100000 in
theorem mi_ok19 : ∀ M ∈ [mi_M114, mi_M115, mi_M116, mi_M117, mi_M118, mi_M119], mi_mok M = true := by decide +kernel
set_option maxRecDepth 100000 in
theorem mi_ok20 : ∀ M ∈ [mi_M120, mi_M121, mi_M122, mi_M123, mi_M124, mi_M125], mi_mok M = true := by decide +kernel
set_option maxRecDepth 100000 in
theorem mi_ok21 : ∀ M ∈ [mi_M126, mi_M127, mi_M128, mi_M129, mi_M130, mi_M131], mi_mok M = true := by decide +kernel
set_option maxRecDepth 100000 in
theorem mi_ok22 : ∀ M ∈ [mi_M132, mi_M133, mi_M134, mi_M135, mi_M136, mi_M137], mi_mok M = true := by decide +kernel
set_option maxRecDepth 100000 in
theorem mi_ok23 : ∀ M ∈ [mi_M138, mi_M139, mi_M140, mi_M141], mi_mok M = true := by decide +kernel
theorem mi_ok {M : mi_M} (h : M ∈ mi_mt) : mi_mok M = true := by
  have e : mi_mt = [mi_M0, mi_M1, mi_M2, mi_M3, mi_M4, mi_M5] ++ ([mi_M6, mi_M7, mi_M8, mi_M9, mi_M10, mi_M11] ++ ([mi_M12, mi_M13, mi_M14, mi_M15, mi_M16, mi_M17] ++ ([mi_M18, mi_M19, mi_M20, mi_M21, mi_M22, mi_M23] ++ ([mi_M24, mi_M25, mi_M26, mi_M27, mi_M28, mi_M29] ++ ([mi_M30, mi_M31, mi_M32, mi_M33, mi_M34, mi_M35] ++ ([mi_M36, mi_M37, mi_M38, mi_M39, mi_M40, mi_M41] ++ ([mi_M42, mi_M43, mi_M44, mi_M45, mi_M46, mi_M47] ++ ([mi_M48, mi_M49, mi_M50, mi_M51, mi_M52, mi_M53] ++ ([mi_M54, mi_M55, mi_M56, mi_M57, mi_M58, mi_M59] ++ ([mi_M60, mi_M61, mi_M62, mi_M63, mi_M64, mi_M65] ++ ([mi_M66, mi_M67, mi_M68, mi_M69, mi_M70, mi_M71] ++ ([mi_M72, mi_M73, mi_M74, mi_M75, mi_M76, mi_M77] ++ ([mi_M78, mi_M79, mi_M80, mi_M81, mi_M82, mi_M83] ++ ([mi_M84, mi_M85, mi_M86, mi_M87, mi_M88, mi_M89] ++ ([mi_M90, mi_M91, mi_M92, mi_M93, mi_M94, mi_M95] ++ ([mi_M96, mi_M97, mi_M98, mi_M99, mi_M100, mi_M101] ++ ([mi_M102, mi_M103, mi_M104, mi_M105, mi_M106, mi_M107] ++ ([mi_M108, mi_M109, mi_M110, mi_M111, mi_M112, mi_M113] ++ ([mi_M114, mi_M115, mi_M116, mi_M117, mi_M118, mi_M119] ++ ([mi_M120, mi_M121, mi_M122, mi_M123, mi_M124, mi_M125] ++ ([mi_M126, mi_M127, mi_M128, mi_M129, mi_M130, mi_M131] ++ ([mi_M132, mi_M133, mi_M134, mi_M135, mi_M136, mi_M137] ++ ([mi_M138, mi_M139, mi_M140, mi_M141]))))))))))))))))))))))) := rfl
  rw [e] at h
  rcases List.mem_append.mp h with h | h
  · exact mi_ok0 M h
  rcases List.mem_append.mp h with h | h
  · exact mi_ok1 M h
  rcases List.mem_append.mp h with h | h
  · exact mi_ok2 M h
  rcases List.mem_append.mp h with h | h
  · exact mi_ok3 M h
  rcases List.mem_append.mp h with h | h
  · exact mi_ok4 M h
  rcases List.mem_append.mp h with h | h
  · exact mi_ok5 M h
  rcases List.mem_append.mp h with h | h
  · exact mi_ok6 M h
  rcases List.mem_append.mp h with h | h
  · exact mi_ok7 M h
  rcases List.mem_append.mp h with h | h
  · exact mi_ok8 M h
  rcases List.mem_append.mp h with h | h
  · exact mi_ok9 M h
  rcases List.mem_append.mp h with h | h
  · exact mi_ok10 M h
  rcases List.mem_append.mp h with h | h
  · exact mi_ok11 M h
  rcases List.mem_append.mp h with h | h
  · exact mi_ok12 M h
  rcases List.mem_append.mp h with h | h
  · exact mi_ok13 M h
  rcases List.mem_append.mp h with h | h
  · exact mi_ok14 M h
  rcases List.mem_append.mp h with h | h
  · exact mi_ok15 M h
  rcases List.mem_append.mp h with h | h
  · exact mi_ok16 M h
  rcases List.mem_append.mp h with h | h
  · exact mi_ok17 M h
  rcases List.mem_append.mp h with h | h
  · exact mi_ok18 M h
  rcases List.mem_append.mp h with h | h
  · exact mi_ok19 M h
  rcases List.mem_append.mp h with h | h
  · exact mi_ok20 M h
  rcases List.mem_append.mp h with h | h
  · exact mi_ok21 M h
  rcases List.mem_append.mp h with h | h
  · exact mi_ok22 M h
  exact mi_ok23 M h
end
section
/-! ===== the abstract machine, part two: cells, calls, whole methods ===== -/
abbrev mi_H : Type := List va_E
/-- the script of the law, if it is known -/
abbrev mi_X : Type := Option (Nat × (Nat → Int32))
abbrev mi_Q : Type := Option (Nat × List Value × mi_H × Nat × Nat)
def mi_inb (j : Int32) (n : Nat) : Bool := decide (0 ≤ j.toInt) && decide (j.toInt < (n : Int))
def mi_gf (ci j k pc' : Nat) (r : List Value) (h : mi_H) (c s : Nat) : mi_Q := match h[k]? with
  | some (.inr o) => if o.1 = ci then (match o.2[j]? with
    | some v => some (pc', v :: r, h, c, s)
    | none => none) else none
  | _ => none
/-- a read of a String constant's field: 0 its bytes, 1 its coder -/
def mi_gs (j k pc' : Nat) (r : List Value) (h : mi_H) (c s : Nat) : mi_Q :=
  if k % 4 = 0 ∧ k / 4 < mi_nS then (if j = 0 then some (pc', .retAddr (k + 1) :: r, h, c, s) else if j = 1 then some (pc', .int 0 :: r, h, c, s) else none) else none
def mi_getf (o idx pc' : Nat) (st : List Value) (h : mi_H) (c s : Nat) : mi_Q := match st with
  | .ref k :: r => (match mi_lk (mi_fl o) idx with
    | some x => mi_gf x.1 x.2 k pc' r h c s
    | none => (match mi_lk (mi_nf o) idx with
      | some x => mi_gf x.1 x.2 k pc' r h c s
      | none => none))
  | .retAddr k :: r => (match mi_lk (mi_sf o) idx with
    | some j => mi_gs j k pc' r h c s
    | none => none)
  | _ => none
def mi_fit : FieldType → Value → Bool
  | .object _, v => mi_isA v
  | .array _, v => mi_isA v
  | .float, _ => false
  | ty, v => decide (narrow ty v = v) && fits ty v
def mi_fin (ci j : Nat) : Bool := match mi_cl[ci]? with
  | some q => (q.2.1 j).2.2.2
  | none => true
def mi_pf (M : mi_M) (ci j k pc' : Nat) (v : Value) (r : List Value) (h : mi_H) (c s : Nat) : mi_Q := match h[k]? with
  | some (.inr o) => if o.1 = ci ∧ j < o.2.length ∧ mi_fit (mi_ty ci j) v = true ∧ (mi_fin ci j = false ∨ (mi_kd M = 2 ∧ mi_ow M = ci)) then some (pc', r, h.set k (.inr (ci, o.2.set j v)), c, s) else none
  | _ => none
def mi_putf (M : mi_M) (idx pc' : Nat) (st : List Value) (h : mi_H) (c s : Nat) : mi_Q := match st with
  | v :: .ref k :: r => (match mi_lk (mi_fl (mi_ow M)) idx with
    | some x => mi_pf M x.1 x.2 k pc' v r h c s
    | none => none)
  | _ => none
/-- a load out of an array of ints, bytes or booleans: 0, 2, 3 -/
def mi_ald (t pc' : Nat) (st : List Value) (h : mi_H) (c s : Nat) : mi_Q := match st with
  | .int j :: .ref k :: r => (match h[k]? with
    | some (.inl (t', n, .inl f)) => if t' = t ∧ mi_inb j n = true then some (pc', .int (f j.toNatClampNeg) :: r, h, c, s) else none
    | _ => none)
  | _ => none
def mi_sld (X : mi_X) (pc' : Nat) (st : List Value) (h : mi_H) (c s : Nat) : mi_Q := match X, st with
  | some x, .int j :: .retAddr k :: r => if k = 3 ∧ mi_inb j x.1 = true then some (pc', .int (x.2 j.toNatClampNeg) :: r, h, c, s) else none
  | _, _ => none
def mi_bld (pc' : Nat) (st : List Value) (h : mi_H) (c s : Nat) : mi_Q := match st with
  | .int j :: .retAddr k :: r => if k % 4 = 1 ∧ k / 4 < mi_nS ∧ mi_inb j (mi_byt.getD (k / 4) []).length = true then some (pc', .int ((mi_byt.getD (k / 4) []).getD j.toNatClampNeg 0) :: r, h, c, s) else none
  | _ => none
def mi_lald (pc' : Nat) (st : List Value) (h : mi_H) (c s : Nat) : mi_Q := match st with
  | .int j :: .ref k :: r => (match h[k]? with
    | some (.inl (t', n, .inr (.inl f))) => if t' = 1 ∧ mi_inb j n = true then some (pc', .long (f j.toNatClampNeg) :: r, h, c, s) else none
    | _ => none)
  | _ => none
/-- the row of keywords, a static of the reference: place j is a String constant -/
def mi_ktab : List Nat := []
def mi_ast (t : Nat) (f' : Int32 → Int32) (pc' : Nat) (st : List Value) (h : mi_H) (c s : Nat) : mi_Q := match st with
  | .int x :: .int j :: .ref k :: r => (match h[k]? with
    | some (.inl (t', n, .inl f)) => if t' = t ∧ mi_inb j n = true then some (pc', r, h.set k (.inl (t, n, .inl (upd f j.toNatClampNeg (f' x)))), c, s) else none
    | _ => none)
  | _ => none
def mi_last (pc' : Nat) (st : List Value) (h : mi_H) (c s : Nat) : mi_Q := match st with
  | .long x :: .int j :: .ref k :: r => (match h[k]? with
    | some (.inl (t', n, .inr (.inl f))) => if t' = 1 ∧ mi_inb j n = true then some (pc', r, h.set k (.inl (1, n, .inr (.inl (vp_updL f j.toNatClampNeg x)))), c, s) else none
    | _ => none)
  | _ => none
def mi_alen (X : mi_X) (pc' : Nat) (st : List Value) (h : mi_H) (c s : Nat) : mi_Q := match st with
  | .ref k :: r => (match h[k]? with
    | some (.inl (t', n, .inl _)) => if t' < 4 then some (pc', .int (Int32.ofNat n) :: r, h, c, s) else none
    | some (.inl (t', n, .inr (.inl _))) => if t' < 4 then some (pc', .int (Int32.ofNat n) :: r, h, c, s) else none
    | _ => none)
  | .retAddr k :: r => if k % 4 = 1 ∧ k / 4 < mi_nS then some (pc', .int (Int32.ofNat (mi_byt.getD (k / 4) []).length) :: r, h, c, s) else if k = 2 then some (pc', .int 13 :: r, h, c, s) else (match X with
    | some x => if k = 3 then some (pc', .int (Int32.ofNat x.1) :: r, h, c, s) else none
    | none => none)
  | _ => none
/-- a load out of the row of keywords: some cell of which nothing is said -/
def mi_qld (pc' : Nat) (st : List Value) (h : mi_H) (c s : Nat) : mi_Q := match st with
  | .int j :: .retAddr k :: r => if k = 2 ∧ mi_inb j 13 = true then some (pc', .float 0 :: r, h, c, s) else none
  | _ => none
def mi_nar (t : Nat) (z : Nat → vp_A) (pc' : Nat) (st : List Value) (h : mi_H) (c s : Nat) : mi_Q := match st with
  | .int n :: r => if mi_inb n 200001 = true then some (pc', .ref h.length :: r, h ++ [.inl (t, z n.toNatClampNeg)], c + 1, s + n.toNatClampNeg) else none
  | _ => none
def mi_new (o idx pc' : Nat) (st : List Value) (h : mi_H) (c s : Nat) : mi_Q := match mi_lk (mi_kl o) idx with
  | some ci => (match mi_cl[ci]? with
    | some q => some (pc', .ref h.length :: st, h ++ [.inr (ci, (List.range q.2.2).map (fun j => defaultValue (mi_ty ci j)))], c + 1, s + q.2.2)
    | none => none)
  | none => none
def mi_ldc (o idx pc' : Nat) (st : List Value) (h : mi_H) (c s : Nat) : mi_Q := match mi_lk (mi_il o) idx with
  | some v => some (pc', .int v :: st, h, c, s)
  | none => (match mi_lk (mi_sl o) idx with
    | some i => if i < mi_nS then some (pc', .retAddr (4 * i) :: st, h, c, s) else none
    | none => none)
def mi_ldc2 (o idx pc' : Nat) (st : List Value) (h : mi_H) (c s : Nat) : mi_Q := match mi_lk (mi_jl o) idx with
  | some v => some (pc', .long v :: st, h, c, s)
  | none => none
def mi_gets (o idx pc' : Nat) (st : List Value) (h : mi_H) (c s : Nat) : mi_Q := match mi_lk (mi_gl o) idx with
  | some 0 => some (pc', .retAddr 2 :: st, h, c, s)
  | some 1 => some (pc', .float 0 :: st, h, c, s)
  | some 2 => some (pc', .int 1 :: st, h, c, s)
  | _ => none
/-- an instruction that reads or writes cells, or makes one -/
def mi_mem (X : mi_X) (M : mi_M) (i : Instr) (pc : Nat) (st : List Value) (h : mi_H) (c s : Nat) : mi_Q := match i with
  | .getfield idx => mi_getf (mi_ow M) idx (pc + 3) st h c s
  | .putfield idx => mi_putf M idx (pc + 3) st h c s
  | .iaload => (match mi_ald 0 (pc + 1) st h c s with
    | some q => some q
    | none => mi_sld X (pc + 1) st h c s)
  | .baload => (match mi_ald 2 (pc + 1) st h c s with
    | some q => some q
    | none => (match mi_ald 3 (pc + 1) st h c s with
      | some q => some q
      | none => mi_bld (pc + 1) st h c s))
  | .laload => mi_lald (pc + 1) st h c s
  | .aaload => mi_qld (pc + 1) st h c s
  | .iastore => mi_ast 0 (fun x => x) (pc + 1) st h c s
  | .bastore => (match mi_ast 2 (vp_nar .byte) (pc + 1) st h c s with
    | some q => some q
    | none => mi_ast 3 (vp_nar .boolean) (pc + 1) st h c s)
  | .lastore => mi_last (pc + 1) st h c s
  | .arraylength => mi_alen X (pc + 1) st h c s
  | .newarray .int => mi_nar 0 (fun n => (n, .inl (fun _ => 0))) (pc + 2) st h c s
  | .newarray .long => mi_nar 1 (fun n => (n, .inr (.inl (fun _ => 0)))) (pc + 2) st h c s
  | .newarray .byte => mi_nar 2 (fun n => (n, .inl (fun _ => 0))) (pc + 2) st h c s
  | .newarray .boolean => mi_nar 3 (fun n => (n, .inl (fun _ => 0))) (pc + 2) st h c s
  | .new idx => mi_new (mi_ow M) idx (pc + 3) st h c s
  | .ldc idx => mi_ldc (mi_ow M) idx (pc + 2) st h c s
  | .ldc_w idx => (match mi_lk (mi_il (mi_ow M)) idx with
    | some v => some (pc + 3, .int v :: st, h, c, s)
    | none => (match mi_lk (mi_sl (mi_ow M)) idx with
      | some i => if i < mi_nS then some (pc + 3, .retAddr (4 * i) :: st, h, c, s) else none
      | none => none))
  | .ldc2_w idx => mi_ldc2 (mi_ow M) idx (pc + 3) st h c s
  | .getstatic idx => mi_gets (mi_ow M) idx (pc + 3) st h c s
  | _ => none
/-- how long each of these is -/
def mi_ml2 : Instr → Nat
  | .iaload => 1
  | .baload => 1
  | .laload => 1
  | .aaload => 1
  | .iastore => 1
  | .bastore => 1
  | .lastore => 1
  | .arraylength => 1
  | .newarray _ => 2
  | .ldc _ => 2
  | _ => 3
/-- a return: its value, if the method's type takes it -/
def mi_ret (M : mi_M) (i : Instr) (st : List Value) : Option (Option Value) := match i, st with
  | .return_, [] => if mi_rt M = none then some none else none
  | .ireturn, [.int v] => (match mi_rt M with
    | some ty => if decide (narrow ty (.int v) = .int v) && (decide (ty = .int) || (decide (ty = .boolean) || (decide (ty = .byte) || decide (ty = .char)))) then some (some (.int v)) else none
    | none => none)
  | .lreturn, [.long v] => if mi_rt M = some .long then some (some (.long v)) else none
  | .dreturn, [.double v] => if mi_rt M = some .double then some (some (.double v)) else none
  | _, _ => none
def mi_cat (st : List Value) : Nat := (st.map fun v => v.category).sum
/-- the receiver is of the class o -/
def mi_rc (h : mi_H) (v : Value) (o : Nat) : Bool := match v with
  | .ref k => (match h[k]? with
    | some (.inr x) => x.1 == o
    | _ => false)
  | .retAddr k => k % 4 == 0 && (decide (k / 4 < mi_nS) && o == mi_oS)
  | _ => false
def mi_isR : Value → Bool
  | .ref _ => true
  | _ => false
/-- what an instruction calls: the method, its arguments, the stack below -/
def mi_cal (M : mi_M) (i : Instr) (st : List Value) (h : mi_H) : Option (mi_M × List Value × List Value) := match i with
  | .invokevirtual idx => (match mi_lk (mi_ml (mi_ow M)) idx with
    | some k => (match mi_mt[k]? with
      | some M' => if mi_kd M' = 1 ∧ mi_np M' < st.length ∧ mi_cat (st.drop (mi_np M' + 1)) ≤ 8 ∧ mi_rc h (st.getD (mi_np M') .null) (mi_ow M') = true then some (M', (st.take (mi_np M' + 1)).reverse, st.drop (mi_np M' + 1)) else none
      | none => none)
    | none => none)
  | .invokestatic idx => (match mi_lk (mi_ml (mi_ow M)) idx with
    | some k => (match mi_mt[k]? with
      | some M' => if (mi_kd M' = 0 ∨ mi_kd M' = 3) ∧ mi_np M' ≤ st.length ∧ mi_cat (st.drop (mi_np M')) ≤ 8 then some (M', (st.take (mi_np M')).reverse, st.drop (mi_np M')) else none
      | none => none)
    | none => none)
  | .invokespecial idx => (match (match mi_lk (mi_ml (mi_ow M)) idx with
      | some k => some k
      | none => mi_lk (mi_nm (mi_ow M)) idx) with
    | some k => (match mi_mt[k]? with
      | some M' => if mi_kd M' = 2 ∧ mi_rt M' = none ∧ mi_np M' < st.length ∧ mi_cat (st.drop (mi_np M' + 1)) ≤ 8 ∧ mi_isR (st.getD (mi_np M') .null) = true then some (M', (st.take (mi_np M' + 1)).reverse, st.drop (mi_np M' + 1)) else none
      | none => none)
    | none => none)
  | _ => none
/-- calls that need no walk: Object's constructor, Math.max and Math.min of ints -/
def mi_easy (M : mi_M) (i : Instr) (st : List Value) : Option (List Value) := match i, st with
  | .invokespecial idx, .ref _ :: r => if mi_lk (mi_ml (mi_ow M)) idx = some 1000000 ∧ mi_cat r ≤ 8 then some r else none
  | .invokestatic idx, .int y :: .int x :: r => if mi_cat r ≤ 8 then (match mi_lk (mi_ml (mi_ow M)) idx with
    | some 1000002 => some (.int (if x < y then y else x) :: r)
    | some 1000003 => some (.int (if y < x then y else x) :: r)
    | _ => none) else none
  | _, _ => none
/-- the first row of a method's table that covers pc -/
def mi_fnd : List (Nat × Nat × Nat × Nat) → Nat → Option (Nat × Nat × Nat × Nat)
  | [], _ => none
  | q :: l, pc => if (decide (q.1 ≤ pc) && decide (pc < q.2.1)) = true then some q else mi_fnd l pc
/-- where the method catches the exception x that comes out of the call at pc -/
def mi_hnd (M : mi_M) (pc x : Nat) : Option Nat := match mi_fnd (mi_hd M) pc with
  | some q => if mi_lk (mi_xl (mi_ow M)) q.2.2.2 = some x then some q.2.2.1 else none
  | none => none
abbrev mi_Z : Type := (Option Value ⊕ Nat) × mi_H × Nat × Nat
/-- n: how many instructions at most; d: how many calls deep. What is returned, or the exception's number; the cells; how many cells and slots were made -/
def mi_run (X : mi_X) : Nat → Nat → mi_M → Nat → mi_L → List Value → mi_H → Nat → Nat → Option mi_Z
  | 0, _, _, _, _, _, _, _, _ => none
  | n + 1, d, M, pc, l, st, h, c, s => match mi_lk (mi_th M) pc with
    | some t => if 8 ≤ d ∧ mi_cat st ≤ 8 then some (.inr t.1, h, c + 1, s + 6) else none
    | none => match mi_lk (mi_cd M) pc with
      | none => none
      | some (i, len) => match mi_pure (mi_nL M) len i pc l st with
        | some (pc', l', st') => mi_run X n d M pc' l' st' h c s
        | none => match mi_ret M i st with
          | some v => if len = 1 then some (.inl v, h, c, s) else none
          | none => match (if len = mi_ml2 i then mi_mem X M i pc st h c s else none) with
            | some (pc', st', h', c', s') => mi_run X n d M pc' l st' h' c' s'
            | none => if len = 3 then (match d with
              | 0 => none
              | d' + 1 => match mi_easy M i st with
                | some st' => mi_run X n (d' + 1) M (pc + 3) l st' h c s
                | none => match mi_cal M i st h with
                  | none => none
                  | some (M', args, rest) => match (if mi_cat args ≤ mi_nL M' then mi_run X n d' M' 0 (lv_args 0 args) [] h 0 0 else none) with
                    | none => none
                    | some (.inl v, h', c', s') => mi_run X n (d' + 1) M (pc + 3) l (v.toList ++ rest) h' (c + c') (s + s')
                    | some (.inr x, h', c', s') => match (if mi_kd M' = 1 then mi_hnd M pc x else none) with
                      | some p' => mi_run X n (d' + 1) M p' l [.float 0] h' (c + c') (s + s')
                      | none => none) else none
end
section
/-! ===== the instructions that touch cells are the machine's ===== -/
theorem mi_clok {ci : Nat} {q : vw_C} (h : mi_cl[ci]? = some q) : q ∈ mi_cl ∧ (∀ k, k < q.2.2 → parseFieldDescriptor (q.2.1 k).2.2.1 = some (mi_ty ci k)) ∧ (∀ a, a < q.2.2 → ∀ b, b < q.2.2 → a ≠ b → (q.2.1 a).2.1 ≠ (q.2.1 b).2.1) ∧ (∀ k, k < q.2.2 → (q.2.1 k).1 = q.1) ∧ q.1 = mi_on ci := by
  refine ⟨List.mem_of_getElem? h, ?_⟩
  match ci, h with
  | 0, h => cases h; exact ⟨tyX0_ok, nmX0, onX0, rfl⟩
  | 1, h => cases h; exact ⟨tyX1_ok, nmX1, onX1, rfl⟩
  | 2, h => cases h; exact ⟨tyX2_ok, nmX2, onX2, rfl⟩
  | 3, h => cases h; exact ⟨tyX3_ok, nmX3, onX3, rfl⟩
  | 4, h => cases h; exact ⟨tyX4_ok, nmX4, onX4, rfl⟩
  | 5, h => cases h; exact ⟨tyX5_ok, nmX5, onX5, rfl⟩
  | 6, h => cases h; exact ⟨tyX6_ok, nmX6, onX6, rfl⟩
  | 7, h => cases h; exact ⟨tyX7_ok, nmX7, onX7, rfl⟩
  | 8, h => cases h; exact ⟨tyX8_ok, nmX8, onX8, rfl⟩
  | 9, h => cases h; exact ⟨tyX9_ok, nmX9, onX9, rfl⟩
  | 10, h => cases h; exact ⟨tyX10_ok, nmX10, onX10, rfl⟩
  | 11, h => cases h; exact ⟨tyX11_ok, nmX11, onX11, rfl⟩
  | n + 12, h => cases h
theorem mi_rl_get {ad : List Nat} {cn : Nat → Nat} : ∀ {fs gs : List Value} {j : Nat} {v : Value}, mi_rl ad cn fs gs → fs[j]? = some v → ∃ w : Value, gs[j]? = some w ∧ mi_rv ad cn v w
  | [], _, _, _, _, h => by cases h
  | _ :: _, _, 0, _, ⟨w, _, rfl, a, _⟩, h => by cases h; exact ⟨w, rfl, a⟩
  | _ :: _, _, j + 1, _, ⟨_, _, rfl, _, b⟩, h => by
    obtain ⟨w, h1, h2⟩ := mi_rl_get (j := j) b (by simpa using h)
    exact ⟨w, by simpa using h1, h2⟩
theorem mi_rl_set {ad : List Nat} {cn : Nat → Nat} {v w : Value} (hv : mi_rv ad cn v w) : ∀ {fs gs : List Value} (j : Nat), mi_rl ad cn fs gs → mi_rl ad cn (fs.set j v) (gs.set j w)
  | [], _, _, h => by
    have h' : _ = [] := h
    subst h'
    exact rfl
  | _ :: _, _, 0, ⟨_, gs', rfl, _, b⟩ => ⟨w, gs', rfl, hv, b⟩
  | _ :: _, _, j + 1, ⟨w0, gs', rfl, a, b⟩ => ⟨w0, gs'.set j w, rfl, a, mi_rl_set hv j b⟩
theorem mi_rl_len {ad : List Nat} {cn : Nat → Nat} : ∀ {fs gs : List Value}, mi_rl ad cn fs gs → gs.length = fs.length
  | [], _, h => by
    have h' : _ = [] := h
    subst h'
    rfl
  | _ :: _, _, ⟨_, _, rfl, _, b⟩ => by simp [mi_rl_len b]
/-- what a cell holds, there and here -/
def mi_ro (ids : Nat → ClassId) (ad : List Nat) (cn : Nat → Nat) (a e : va_E) : Prop := match a with
  | .inl (t, n, .inl f) => e = .inl (ids t, n, .inl f)
  | .inl (t, n, .inr (.inl f)) => e = .inl (ids t, n, .inr (.inl f))
  | .inl _ => False
  | .inr o => ∃ gs, e = .inr (o.1, gs) ∧ mi_rl ad cn o.2 gs
theorem mi_ro_mono {ids : Nat → ClassId} {ad ad' : List Nat} {cn : Nat → Nat} (hle : mi_le ad ad') {a e : va_E} (h : mi_ro ids ad cn a e) : mi_ro ids ad' cn a e := by
  match a, h with
  | .inl (t, n, .inl f), h => exact h
  | .inl (t, n, .inr (.inl f)), h => exact h
  | .inr o, ⟨gs, h1, h2⟩ => exact ⟨gs, h1, mi_rl_mono hle h2⟩
def mi_rw (ids : Nat → ClassId) (ad : List Nat) (cn : Nat → Nat) (h : mi_H) (ws : va_W) : Prop := ad.length = h.length ∧ ws.length = h.length ∧ ∀ (k : Nat) (o : va_E), h[k]? = some o → ∃ (a : Nat) (e : va_E), ad[k]? = some a ∧ ws[k]? = some (a, e) ∧ mi_ro ids ad cn o e
theorem mi_rw_set {ids : Nat → ClassId} {ad : List Nat} {cn : Nat → Nat} {h : mi_H} {ws : va_W} (hw : mi_rw ids ad cn h ws) {k a : Nat} (ha : ad[k]? = some a) {o e : va_E} (ho : mi_ro ids ad cn o e) : mi_rw ids ad cn (h.set k o) (ws.set k (a, e)) := by
  obtain ⟨h1, h2, h3⟩ := hw
  refine ⟨by simpa using h1, by simpa using h2, fun j o' hj => ?_⟩
  by_cases hjk : k = j
  · subst hjk
    have hl : k < h.length := by
      have := (List.getElem?_eq_some_iff.mp hj).1
      simpa using this
    rw [List.getElem?_set_self (by simpa using hl)] at hj
    cases hj
    exact ⟨a, e, ha, by rw [List.getElem?_set_self (by omega)], ho⟩
  · rw [List.getElem?_set_ne hjk] at hj
    obtain ⟨a', e', g1, g2, g3⟩ := h3 j o' hj
    exact ⟨a', e', g1, by rw [List.getElem?_set_ne hjk]; exact g2, g3⟩
theorem mi_rw_push {ids : Nat → ClassId} {ad : List Nat} {cn : Nat → Nat} {h : mi_H} {ws : va_W} (hw : mi_rw ids ad cn h ws) {q : Nat} {o e : va_E} (ho : mi_ro ids (ad ++ [q]) cn o e) : mi_rw ids (ad ++ [q]) cn (h ++ [o]) (ws ++ [(q, e)]) := by
  obtain ⟨h1, h2, h3⟩ := hw
  refine ⟨by simp [h1], by simp [h2], fun j o' hj => ?_⟩
  by_cases hl : j < h.length
  · rw [List.getElem?_append_left hl] at hj
    obtain ⟨a', e', g1, g2, g3⟩ := h3 j o' hj
    exact ⟨a', e', mi_le_app _ _ _ _ g1, by rw [List.getElem?_append_left (by omega)]; exact g2, mi_ro_mono (mi_le_app _ _) g3⟩
  · have hz := (List.getElem?_eq_some_iff.mp hj).1
    simp at hz
    have hj2 : j = h.length := by omega
    subst hj2
    rw [List.getElem?_append_right (by omega)] at hj
    simp at hj
    subst hj
    exact ⟨q, e, by rw [List.getElem?_append_right (by omega)]; simp [h1], by rw [List.getElem?_append_right (by omega)]; simp [h2], ho⟩
theorem mi_last_ad {ids : Nat → ClassId} {ad : List Nat} {cn : Nat → Nat} {h : mi_H} {ws : va_W} (hw : mi_rw ids ad cn h ws) (q : Nat) : (ad ++ [q])[h.length]? = some q := by
  rw [← hw.1, List.getElem?_append_right (by omega)]
  simp
def mi_tys (ids : Nat → ClassId) : List (ClassId × FieldType) := [(ids 0, .int), (ids 1, .long), (ids 2, .byte), (ids 3, .boolean)]
/-- the cells as they are at a point of a method -/
def mi_Wd (D : va_G) (ids : Nat → ClassId) (cn : Nat → Nat) (A : Nat → Prop) (s : State) (ad : List Nat) (h : mi_H) (H : Heap) (locs : List Loc) : Prop := ∃ ws, mi_rw ids ad cn h ws ∧ va_P D mi_cl ws H ∧ va_D A ws ∧ va_S A s.heap H locs
/-- a String constant: number i of mi_sw, the cell cn (4 i), its bytes the cell cn (4 i + 1) -/
def mi_Gs (cn : Nat → Nat) (A : Nat → Prop) (s : State) (H : Heap) : Prop := ∀ i : Nat, i < mi_nS → va_O "java/lang/String" (cn (4 * i)) A s H ∧ va_OF "java/lang/String" "coder" "B" (.int 0) (cn (4 * i)) A s H ∧ va_OF "java/lang/String" "value" "[B" (.ref (cn (4 * i + 1))) (cn (4 * i)) A s H ∧ va_T .byte (cn (4 * i + 1)) (mi_byt.getD i []).length (fun j => .int ((mi_byt.getD i []).getD j 0)) A s H
/-- what is known of cells that nobody writes: String constants, statics, the script -/
def mi_Gc (X : mi_X) (cn : Nat → Nat) (A : Nat → Prop) (s : State) (H : Heap) : Prop :=
  mi_Gs cn A s H ∧ (va_Z "TypeLoomModel" "KEYWORDS" "[Ljava/lang/String;" (.ref (cn 2)) A s H ∧ ∃ f : Nat → Option Nat, va_T (.object "java/lang/String") (cn 2) 13 (fun j => va_rf (f j)) A s H) ∧
  va_Zq "jdk/internal/util/Preconditions" "SIOOBE_FORMATTER" "Ljava/util/function/BiFunction;" A s H ∧ va_Z "java/lang/String" "COMPACT_STRINGS" "Z" (.int 1) A s H ∧
  (match X with | some x => va_X (cn 3) x.1 x.2 s H ∧ cn 3 < H.size ∧ ¬ A (cn 3) | none => True)
theorem mi_inb_ok {j : Int32} {n : Nat} (h : mi_inb j n = true) : vp_in j n := by
  simp only [mi_inb, Bool.and_eq_true, decide_eq_true_eq] at h
  exact vp_in_iff.mpr h
theorem mi_fit_ok {ty : FieldType} {v w : Value} {ad : List Nat} {cn : Nat → Nat} (h : mi_fit ty v = true) (hr : mi_rv ad cn v w) : narrow ty w = w ∧ fits ty w = true := by
  have hp : ∀ t : FieldType, (∀ n, t ≠ .object n) → (∀ n, t ≠ .array n) → mi_fit t v = true → narrow t v = v ∧ fits t v = true ∧ ∃ x : Value, w = v := by
    intro t ht1 ht2 h
    have h' : (decide (narrow t v = v) && fits t v) = true := by
      cases t <;> first | exact h | exact absurd rfl (ht1 _) | exact absurd rfl (ht2 _) | exact absurd h (by decide) | (exact absurd h Bool.false_ne_true)
    have hnf : t ≠ .float := by
      intro q
      subst q
      exact absurd h Bool.false_ne_true
    simp only [Bool.and_eq_true, decide_eq_true_eq] at h'
    refine ⟨h'.1, h'.2, v, ?_⟩
    cases v <;> first
      | exact hr
      | (exfalso; cases t <;> first | exact absurd rfl (ht1 _) | exact absurd rfl (ht2 _) | exact absurd rfl hnf | (exact absurd h'.2 (by simp [fits])))
  cases ty
  case object n => rcases mi_rv_A hr h with rfl | ⟨a, rfl⟩ <;> exact ⟨rfl, rfl⟩
  case array n => rcases mi_rv_A hr h with rfl | ⟨a, rfl⟩ <;> exact ⟨rfl, rfl⟩
  all_goals (obtain ⟨a, b, _, rfl⟩ := hp _ (fun n => by intro q; cases q) (fun n => by intro q; cases q) h; exact ⟨a, b⟩)
end
section
section MIH
variable {p : Program} {l : Launch} {e : Env} {R : Room} {s : State} {m : MethodId} {args : Array Value} {below : List Frame} {meth : Method} {c : Code} {H : Heap} {locs : List Loc} {cells slots : Nat} {Q : State → Prop}
variable {cc : ByteArray} {pc pc' c' s' : Nat} {st st' : List Value} {h h' : mi_H} {ad : List Nat} {cn : Nat → Nat} {ids : Nat → ClassId} {D : va_G} {A : Nat → Prop} {sw : List Value} {ls : Array Slot}
/-- the way on behind an instruction that may write or make cells -/
abbrev mi_KH (p : Program) (l : Launch) (e : Env) (R : Room) (s : State) (m : MethodId) (args : Array Value) (below : List Frame) (meth : Method) (c : Code) (Q : State → Prop) (D : va_G) (ids : Nat → ClassId) (cn : Nat → Nat) (A : Nat → Prop) (ls : Array Slot) (ad : List Nat) (pc' : Nat) (st' : List Value) (h' : mi_H) (c' s' : Nat) : Prop :=
  ∀ (H' : Heap) (locs' : List Loc) (ad' : List Nat) (sw' : List Value), mi_le ad ad' → mi_Wd D ids cn A s ad' h' H' locs' → mi_rl ad' cn st' sw' → W p l e R s m args below meth c H' locs' c' s' Q (F0 m pc' ls sw')

theorem mi_gf_ok (hx : p.tables.exec = Jvm.exec) (hb : c.code = cc) {o : Nat} (ho : o < mi_no) (hown : s.vm.findClass (mi_on o) = some m.cls) (hts : ∀ w ∈ mi_need, w.before args s = true) (hK : va_K D mi_cl (mi_tys ids) s) {ci j k idx : Nat} {q : vw_C} {r : List Value} (hq : mi_cl[ci]? = some q) (hj : j < q.2.2)
    (hlink : (Cond.fieldLink (mi_on o) idx q.1 (q.2.1 j).2.1 (q.2.1 j).2.2.1).before args s = true ∨ (Cond.fieldLinkNest (mi_on o) idx q.1 (q.2.1 j).2.1 (q.2.1 j).2.2.1 "TypeLoom").before args s = true)
    (hd : decode cc pc = .ok (.getfield idx, 3)) (hh : mi_gf ci j k (pc + 3) r h cells slots = some (pc + 3, st', h', c', s')) (hst : st = .ref k :: r) (hw : mi_Wd D ids cn A s ad h H locs) (hs : mi_rl ad cn st sw) (kk : mi_KH p l e R s m args below meth c Q D ids cn A ls ad (pc + 3) st' h' c' s') : W p l e R s m args below meth c H locs cells slots Q (F0 m pc ls sw) := by
  subst hst
  obtain ⟨hqm, hty, hnm, hT1, -⟩ := mi_clok hq
  obtain ⟨ws, hrw, hP, hD, hS⟩ := hw
  obtain ⟨_, rw', rfl, ⟨a, ha, rfl⟩, hr⟩ := hs
  unfold mi_gf at hh
  split at hh
  next ob hob =>
    split at hh
    next hci =>
      split at hh
      next v hv =>
        cases hh
        obtain ⟨a', e', g1, g2, gs, rfl, g4⟩ := hrw.2.2 _ _ hob
        cases g1.symm.trans ha
        obtain ⟨wv, hwv, hrv⟩ := mi_rl_get g4 hv
        subst hci
        have go := kk _ _ _ _ (mi_le_rf _) ⟨ws, hrw, hP, hD, hS⟩ (mi_rl_c hrv hr)
        have hsame : ∀ x, s.fieldFound? (q.2.1 j).1 (q.2.1 j).2.1 (q.2.1 j).2.2.1 = some x → s.fieldFound? q.1 (q.2.1 j).2.1 (q.2.1 j).2.2.1 = some x := fun x hx => by rw [hT1 j hj] at hx; exact hx
        rcases hlink with hlink | hlink
        · exact va_get (C := q.1) (T := q.2.1) (N := q.2.2) (ref := q.1) (index := idx) hx hb hts (fun w hw => mi_in0 hqm (List.mem_append_left _ hw)) hown hK hP k g2 hq j hj hlink hsame hwv hd go
        · exact va_getN (host := "TypeLoom") (C := q.1) (T := q.2.1) (N := q.2.2) (ref := q.1) (index := idx) hx hb hts (fun w hw => mi_in0 hqm (List.mem_append_left _ hw)) hown hK hP k g2 hq j hj hlink hsame hwv hd go
      next => cases hh
    next => cases hh
  next => cases hh
/-- the tables' field rows name fields -/
theorem mi_fl_ok : ∀ o, o < mi_no → ∀ x ∈ mi_fl o, (match mi_cl[x.2.1]? with | some q => decide (x.2.2 < q.2.2) | none => false) = true := by decide +kernel
theorem mi_nf_ok : ∀ o, o < mi_no → ∀ x ∈ mi_nf o, (match mi_cl[x.2.1]? with | some q => decide (x.2.2 < q.2.2) | none => false) = true := by decide +kernel
theorem mi_getf_ok (hx : p.tables.exec = Jvm.exec) (hb : c.code = cc) {o : Nat} (ho : o < mi_no) (hown : s.vm.findClass (mi_on o) = some m.cls) (hts : ∀ w ∈ mi_need, w.before args s = true) (hK : va_K D mi_cl (mi_tys ids) s) (hbad : ∀ w ∈ mi_bad, w.before args s = true) (hA : ∀ a, s.heap.size ≤ a → A a) {X : mi_X} (hG : mi_Gc X cn A s s.heap) {idx : Nat} (hd : decode cc pc = .ok (.getfield idx, 3)) (hh : mi_getf o idx (pc + 3) st h cells slots = some (pc', st', h', c', s')) (hw : mi_Wd D ids cn A s ad h H locs) (hs : mi_rl ad cn st sw) (kk : mi_KH p l e R s m args below meth c Q D ids cn A ls ad (pc + 3) st' h' c' s') : W p l e R s m args below meth c H locs cells slots Q (F0 m pc ls sw) := by
  unfold mi_getf at hh
  split at hh
  next k r =>
    split at hh
    next x hf =>
      have hm := mi_lk_mem hf
      have h1 := mi_fl_ok o ho _ hm
      split at h1
      next q hq =>
        simp only [decide_eq_true_eq] at h1
        have hlink := hts (mi_flw o (idx, x)) (mi_in2 ho (List.mem_append_left _ (List.mem_map.mpr ⟨_, hm, rfl⟩)))
        unfold mi_flw at hlink
        rw [show mi_cl[((idx, x) : Nat × Nat × Nat).2.1]? = some q from hq] at hlink
        have hpc : pc' = pc + 3 := by
          unfold mi_gf at hh
          split at hh <;> first | (cases hh; done) | skip
          split at hh <;> first | (cases hh; done) | skip
          split at hh <;> first | (cases hh; done) | skip
          cases hh; rfl
        subst hpc
        exact mi_gf_ok hx hb ho hown hts hK hq h1 (Or.inl hlink) hd hh rfl hw hs kk
      next => cases h1
    next =>
      split at hh
      next x hf =>
        have hm := mi_lk_mem hf
        have h1 := mi_nf_ok o ho _ hm
        split at h1
        next q hq =>
          simp only [decide_eq_true_eq] at h1
          have hlink := hbad (mi_nfw o (idx, x)) (List.mem_append_left _ (List.mem_flatMap.mpr ⟨o, List.mem_range.mpr ho, List.mem_append_left _ (List.mem_map.mpr ⟨_, hm, rfl⟩)⟩))
          unfold mi_nfw at hlink
          rw [show mi_cl[((idx, x) : Nat × Nat × Nat).2.1]? = some q from hq] at hlink
          have hpc : pc' = pc + 3 := by
            unfold mi_gf at hh
            split at hh <;> first | (cases hh; done) | skip
            split at hh <;> first | (cases hh; done) | skip
            split at hh <;> first | (cases hh; done) | skip
            cases hh; rfl
          subst hpc
          exact mi_gf_ok hx hb ho hown hts hK hq h1 (Or.inr hlink) hd hh rfl hw hs kk
        next => cases h1
      next => cases hh
  next k r =>
    split at hh
    next j hf =>
      have hm := mi_lk_mem hf
      unfold mi_gs at hh
      split at hh
      next hk =>
        obtain ⟨hk4, hkn⟩ := hk
        have hlink := hts (mi_sfw o (idx, j)) (mi_in2 ho (List.mem_append_right _ (List.mem_append_right _ (List.mem_append_right _ (List.mem_append_right _ (List.mem_append_right _ (List.mem_append_right _ (List.mem_append_left _ (List.mem_map.mpr ⟨_, hm, rfl⟩)))))))))
        obtain ⟨ws, hrw, hP, hD, hS⟩ := hw
        obtain ⟨_, rw', rfl, rfl, hr⟩ := hs
        have hke : 4 * (k / 4) = k := by omega
        obtain ⟨-, g2, g3, -⟩ := hG.1 (k / 4) hkn
        rw [hke] at g2 g3
        split at hh
        next hj0 =>
          cases hh
          subst hj0
          have hlink : (Cond.fieldLink (mi_on o) idx "java/lang/String" "value" "[B").before args s = true := hlink
          exact vk_getf hx hb g3 hS hown hlink (fun _ hx => hx) hd (kk _ _ _ _ (mi_le_rf _) ⟨ws, hrw, hP, hD, hS⟩ (mi_rl_c rfl hr))
        next =>
          split at hh
          next hj1 =>
            cases hh
            subst hj1
            have hlink : (Cond.fieldLink (mi_on o) idx "java/lang/String" "coder" "B").before args s = true := hlink
            exact vk_getf hx hb g2 hS hown hlink (fun _ hx => hx) hd (kk _ _ _ _ (mi_le_rf _) ⟨ws, hrw, hP, hD, hS⟩ (mi_rl_c rfl hr))
          next => cases hh
      next => cases hh
    next => cases hh
  next => cases hh
theorem mi_putf_ok (hx : p.tables.exec = Jvm.exec) (hb : c.code = cc) {M : mi_M} (ho : mi_ow M < mi_no) (hown : s.vm.findClass (mi_on (mi_ow M)) = some m.cls) (hts : ∀ w ∈ mi_need, w.before args s = true) (hK : va_K D mi_cl (mi_tys ids) s) (hin2 : mi_kd M = 2 → meth.name = "<init>") {idx : Nat} (hd : decode cc pc = .ok (.putfield idx, 3)) (hh : mi_putf M idx (pc + 3) st h cells slots = some (pc', st', h', c', s')) (hw : mi_Wd D ids cn A s ad h H locs) (hs : mi_rl ad cn st sw) (kk : mi_KH p l e R s m args below meth c Q D ids cn A ls ad pc' st' h' c' s') : W p l e R s m args below meth c H locs cells slots Q (F0 m pc ls sw) := by
  unfold mi_putf at hh
  split at hh
  next v k r =>
    split at hh
    next x hf =>
      have hm := mi_lk_mem hf
      have h1 := mi_fl_ok _ ho _ hm
      split at h1
      next q hq =>
        simp only [decide_eq_true_eq] at h1
        have hlink := hts (mi_flw _ (idx, x)) (mi_in2 ho (List.mem_append_left _ (List.mem_map.mpr ⟨_, hm, rfl⟩)))
        unfold mi_flw at hlink
        rw [show mi_cl[((idx, x) : Nat × Nat × Nat).2.1]? = some q from hq] at hlink
        have hq' : mi_cl[x.1]? = some q := hq
        obtain ⟨hqm, hty, hnm, hT1, hqn⟩ := mi_clok hq'
        obtain ⟨ws, hrw, hP, hD, hS⟩ := hw
        obtain ⟨wv, _, rfl, hv, _, rw', rfl, ⟨a, ha, rfl⟩, hr⟩ := hs
        unfold mi_pf at hh
        split at hh
        next ob hob =>
          split at hh
          next hc =>
            obtain ⟨hci, hjl, hfit, hwr⟩ := hc
            cases hh
            obtain ⟨a', e', g1, g2, gs, rfl, g4⟩ := hrw.2.2 _ _ hob
            cases g1.symm.trans ha
            obtain ⟨hn1, hf1⟩ := mi_fit_ok hfit hv
            have hsame : ∀ z, s.fieldFound? (q.2.1 x.2).1 (q.2.1 x.2).2.1 (q.2.1 x.2).2.2.1 = some z → s.fieldFound? q.1 (q.2.1 x.2).2.1 (q.2.1 x.2).2.2.1 = some z := fun z hz => by rw [hT1 x.2 h1] at hz; exact hz
            have hlen : x.2 < gs.length := by rw [mi_rl_len g4]; exact hjl
            have g2' : ws[k]? = some (a, .inr (x.1, gs)) := by rw [← hci]; exact g2
            have fin : ∀ (H1 : Heap) (locs1 : List Loc), va_P D mi_cl (ws.set k (a, .inr (x.1, gs.set x.2 wv))) H1 → va_D A (ws.set k (a, .inr (x.1, gs.set x.2 wv))) → va_S A s.heap H1 locs1 → W p l e R s m args below meth c H1 locs1 cells slots Q (F0 m (pc + 3) ls rw') :=
              fun H1 locs1 hP1 hD1 hS1 => kk _ _ _ _ (mi_le_rf _) ⟨_, mi_rw_set hrw ha ⟨_, rfl, mi_rl_set hv x.2 g4⟩, hP1, hD1, hS1⟩ hr
            have hnf : mi_fin x.1 x.2 = (q.2.1 x.2).2.2.2 := by unfold mi_fin; rw [hq']
            cases hfn : (q.2.1 x.2).2.2.2 with
            | false => exact va_put (C := q.1) (T := q.2.1) (N := q.2.2) (ref := q.1) (index := idx) hx hb hts (fun w hw => mi_in0 hqm (List.mem_append_left _ hw)) (mi_ty x.1) hty hnm hown hK hP hD hS k g2' hq' x.2 h1 hlink hsame hfn (hty x.2 h1) hn1 hf1 hlen hd fin
            | true =>
              rcases hwr with hwr | ⟨hk2, hown2⟩
              · rw [hnf, hfn] at hwr; cases hwr
              · exact va_putF (C := q.1) (T := q.2.1) (N := q.2.2) (ref := q.1) (index := idx) hx hb hts (fun w hw => mi_in0 hqm (List.mem_append_left _ hw)) (mi_ty x.1) hty hnm hown hK hP hD hS k g2' hq' x.2 h1 hlink hsame hfn (hin2 hk2) (by rw [hT1 x.2 h1, hqn, hown2]) (hty x.2 h1) hn1 hf1 hlen hd fin
          next => cases hh
        next => cases hh
      next => cases h1
    next => cases hh
  next => cases hh

theorem mi_iald_ok (hx : p.tables.exec = Jvm.exec) (hb : c.code = cc) (hK : va_K D mi_cl (mi_tys ids) s) (hd : decode cc pc = .ok (.iaload, 1)) (hh : mi_ald 0 (pc + 1) st h cells slots = some (pc', st', h', c', s')) (hw : mi_Wd D ids cn A s ad h H locs) (hs : mi_rl ad cn st sw) (kk : mi_KH p l e R s m args below meth c Q D ids cn A ls ad pc' st' h' c' s') : W p l e R s m args below meth c H locs cells slots Q (F0 m pc ls sw) := by
  unfold mi_ald at hh
  split at hh
  next j k r =>
    obtain ⟨ws, hrw, hP, hD, hS⟩ := hw
    obtain ⟨_, _, rfl, rfl, _, rw', rfl, ⟨a, ha, rfl⟩, hr⟩ := hs
    split at hh
    next t' n f hob =>
      split at hh
      next hc =>
        obtain ⟨rfl, hin⟩ := hc
        cases hh
        obtain ⟨a', e', g1, g2, g3⟩ := hrw.2.2 _ _ hob
        cases g1.symm.trans ha
        have g3 : e' = .inl (ids 0, n, .inl f) := g3
        subst g3
        exact va_iald hx hb hK hP k 0 g2 rfl (mi_inb_ok hin) hd (kk _ _ _ _ (mi_le_rf _) ⟨ws, hrw, hP, hD, hS⟩ (mi_rl_c rfl hr))
      next => cases hh
    next => cases hh
  next => cases hh
theorem mi_bald_ok (hx : p.tables.exec = Jvm.exec) (hb : c.code = cc) (hK : va_K D mi_cl (mi_tys ids) s) (hd : decode cc pc = .ok (.baload, 1)) (hh : mi_ald 2 (pc + 1) st h cells slots = some (pc', st', h', c', s')) (hw : mi_Wd D ids cn A s ad h H locs) (hs : mi_rl ad cn st sw) (kk : mi_KH p l e R s m args below meth c Q D ids cn A ls ad pc' st' h' c' s') : W p l e R s m args below meth c H locs cells slots Q (F0 m pc ls sw) := by
  unfold mi_ald at hh
  split at hh
  next j k r =>
    obtain ⟨ws, hrw, hP, hD, hS⟩ := hw
    obtain ⟨_, _, rfl, rfl, _, rw', rfl, ⟨a, ha, rfl⟩, hr⟩ := hs
    split at hh
    next t' n f hob =>
      split at hh
      next hc =>
        obtain ⟨rfl, hin⟩ := hc
        cases hh
        obtain ⟨a', e', g1, g2, g3⟩ := hrw.2.2 _ _ hob
        cases g1.symm.trans ha
        have g3 : e' = .inl (ids 2, n, .inl f) := g3
        subst g3
        exact va_bald hx hb hK hP k 2 g2 rfl (mi_inb_ok hin) hd (kk _ _ _ _ (mi_le_rf _) ⟨ws, hrw, hP, hD, hS⟩ (mi_rl_c rfl hr))
      next => cases hh
    next => cases hh
  next => cases hh
theorem mi_zald_ok (hx : p.tables.exec = Jvm.exec) (hb : c.code = cc) (hK : va_K D mi_cl (mi_tys ids) s) (hd : decode cc pc = .ok (.baload, 1)) (hh : mi_ald 3 (pc + 1) st h cells slots = some (pc', st', h', c', s')) (hw : mi_Wd D ids cn A s ad h H locs) (hs : mi_rl ad cn st sw) (kk : mi_KH p l e R s m args below meth c Q D ids cn A ls ad pc' st' h' c' s') : W p l e R s m args below meth c H locs cells slots Q (F0 m pc ls sw) := by
  unfold mi_ald at hh
  split at hh
  next j k r =>
    obtain ⟨ws, hrw, hP, hD, hS⟩ := hw
    obtain ⟨_, _, rfl, rfl, _, rw', rfl, ⟨a, ha, rfl⟩, hr⟩ := hs
    split at hh
    next t' n f hob =>
      split at hh
      next hc =>
        obtain ⟨rfl, hin⟩ := hc
        cases hh
        obtain ⟨a', e', g1, g2, g3⟩ := hrw.2.2 _ _ hob
        cases g1.symm.trans ha
        have g3 : e' = .inl (ids 3, n, .inl f) := g3
        subst g3
        exact va_zald hx hb hK hP k 3 g2 rfl (mi_inb_ok hin) hd (kk _ _ _ _ (mi_le_rf _) ⟨ws, hrw, hP, hD, hS⟩ (mi_rl_c rfl hr))
      next => cases hh
    next => cases hh
  next => cases hh
theorem mi_lald_ok (hx : p.tables.exec = Jvm.exec) (hb : c.code = cc) (hK : va_K D mi_cl (mi_tys ids) s) (hd : decode cc pc = .ok (.laload, 1)) (hh : mi_lald (pc + 1) st h cells slots = some (pc', st', h', c', s')) (hw : mi_Wd D ids cn A s ad h H locs) (hs : mi_rl ad cn st sw) (kk : mi_KH p l e R s m args below meth c Q D ids cn A ls ad pc' st' h' c' s') : W p l e R s m args below meth c H locs cells slots Q (F0 m pc ls sw) := by
  unfold mi_lald at hh
  split at hh
  next j k r =>
    obtain ⟨ws, hrw, hP, hD, hS⟩ := hw
    obtain ⟨_, _, rfl, rfl, _, rw', rfl, ⟨a, ha, rfl⟩, hr⟩ := hs
    split at hh
    next t' n f hob =>
      split at hh
      next hc =>
        obtain ⟨rfl, hin⟩ := hc
        cases hh
        obtain ⟨a', e', g1, g2, g3⟩ := hrw.2.2 _ _ hob
        cases g1.symm.trans ha
        have g3 : e' = .inl (ids 1, n, .inr (.inl f)) := g3
        subst g3
        exact va_lald hx hb hK hP k 1 g2 rfl (mi_inb_ok hin) hd (kk _ _ _ _ (mi_le_rf _) ⟨ws, hrw, hP, hD, hS⟩ (mi_rl_c rfl hr))
      next => cases hh
    next => cases hh
  next => cases hh
theorem mi_sld_ok (hx : p.tables.exec = Jvm.exec) (hb : c.code = cc) {X : mi_X} (hG : mi_Gc X cn A s s.heap) (hd : decode cc pc = .ok (.iaload, 1)) (hh : mi_sld X (pc + 1) st h cells slots = some (pc', st', h', c', s')) (hw : mi_Wd D ids cn A s ad h H locs) (hs : mi_rl ad cn st sw) (kk : mi_KH p l e R s m args below meth c Q D ids cn A ls ad pc' st' h' c' s') : W p l e R s m args below meth c H locs cells slots Q (F0 m pc ls sw) := by
  unfold mi_sld at hh
  split at hh
  next x j k r =>
    obtain ⟨ws, hrw, hP, hD, hS⟩ := hw
    obtain ⟨_, _, rfl, rfl, _, rw', rfl, rfl, hr⟩ := hs
    obtain ⟨-, -, -, -, hX, hlt, hnA⟩ := hG
    split at hh
    next hc =>
      obtain ⟨rfl, hin⟩ := hc
      cases hh
      exact va_sld hx hb hX hlt hnA hS (mi_inb_ok hin) hd (kk _ _ _ _ (mi_le_rf _) ⟨ws, hrw, hP, hD, hS⟩ (mi_rl_c rfl hr))
    next => cases hh
  next => cases hh
theorem mi_bld_ok (hx : p.tables.exec = Jvm.exec) (hb : c.code = cc) {X : mi_X} (hG : mi_Gc X cn A s s.heap) (hd : decode cc pc = .ok (.baload, 1)) (hh : mi_bld (pc + 1) st h cells slots = some (pc', st', h', c', s')) (hw : mi_Wd D ids cn A s ad h H locs) (hs : mi_rl ad cn st sw) (kk : mi_KH p l e R s m args below meth c Q D ids cn A ls ad pc' st' h' c' s') : W p l e R s m args below meth c H locs cells slots Q (F0 m pc ls sw) := by
  unfold mi_bld at hh
  split at hh
  next j k r =>
    obtain ⟨ws, hrw, hP, hD, hS⟩ := hw
    obtain ⟨_, _, rfl, rfl, _, rw', rfl, rfl, hr⟩ := hs
    split at hh
    next hc =>
      obtain ⟨hk, hn, hin⟩ := hc
      cases hh
      obtain ⟨-, -, -, g4⟩ := hG.1 (k / 4) hn
      rw [show 4 * (k / 4) + 1 = k by omega] at g4
      exact va_tb hx hb g4 hS (mi_inb_ok hin) rfl hd (kk _ _ _ _ (mi_le_rf _) ⟨ws, hrw, hP, hD, hS⟩ (mi_rl_c rfl hr))
    next => cases hh
  next => cases hh
theorem mi_qld_ok (hx : p.tables.exec = Jvm.exec) (hb : c.code = cc) {X : mi_X} (hG : mi_Gc X cn A s s.heap) (hd : decode cc pc = .ok (.aaload, 1)) (hh : mi_qld (pc + 1) st h cells slots = some (pc', st', h', c', s')) (hw : mi_Wd D ids cn A s ad h H locs) (hs : mi_rl ad cn st sw) (kk : mi_KH p l e R s m args below meth c Q D ids cn A ls ad pc' st' h' c' s') : W p l e R s m args below meth c H locs cells slots Q (F0 m pc ls sw) := by
  unfold mi_qld at hh
  split at hh
  next j k r =>
    obtain ⟨ws, hrw, hP, hD, hS⟩ := hw
    obtain ⟨_, _, rfl, rfl, _, rw', rfl, rfl, hr⟩ := hs
    split at hh
    next hc =>
      obtain ⟨rfl, hin⟩ := hc
      cases hh
      obtain ⟨-, ⟨-, f, hT⟩, -⟩ := hG
      refine vb_tq hx hb hT hS (mi_inb_ok hin) rfl hd (kk _ _ _ _ (mi_le_rf _) ⟨ws, hrw, hP, hD, hS⟩ (mi_rl_c ?_ hr))
      show va_rf _ = .null ∨ ∃ a, va_rf _ = .ref a
      cases f j.toNatClampNeg with
      | none => exact Or.inl rfl
      | some a => exact Or.inr ⟨a, rfl⟩
    next => cases hh
  next => cases hh

theorem mi_iast_ok (hx : p.tables.exec = Jvm.exec) (hb : c.code = cc) (hK : va_K D mi_cl (mi_tys ids) s) (hd : decode cc pc = .ok (.iastore, 1)) (hh : mi_ast 0 (fun x => x) (pc + 1) st h cells slots = some (pc', st', h', c', s')) (hw : mi_Wd D ids cn A s ad h H locs) (hs : mi_rl ad cn st sw) (kk : mi_KH p l e R s m args below meth c Q D ids cn A ls ad pc' st' h' c' s') : W p l e R s m args below meth c H locs cells slots Q (F0 m pc ls sw) := by
  unfold mi_ast at hh
  split at hh
  next x j k r =>
    obtain ⟨ws, hrw, hP, hD, hS⟩ := hw
    obtain ⟨_, _, rfl, rfl, _, _, rfl, rfl, _, rw', rfl, ⟨a, ha, rfl⟩, hr⟩ := hs
    split at hh
    next t' n f hob =>
      split at hh
      next hc =>
        obtain ⟨rfl, hin⟩ := hc
        cases hh
        obtain ⟨a', e', g1, g2, g3⟩ := hrw.2.2 _ _ hob
        cases g1.symm.trans ha
        have g3 : e' = .inl (ids 0, n, .inl f) := g3
        subst g3
        exact va_iast hx hb hK hP hD hS k 0 g2 rfl (mi_inb_ok hin) hd (fun H1 locs1 hP1 hD1 hS1 => kk _ _ _ _ (mi_le_rf _) ⟨_, mi_rw_set hrw ha (by rfl), hP1, hD1, hS1⟩ hr)
      next => cases hh
    next => cases hh
  next => cases hh
theorem mi_bast_ok (hx : p.tables.exec = Jvm.exec) (hb : c.code = cc) (hK : va_K D mi_cl (mi_tys ids) s) (hd : decode cc pc = .ok (.bastore, 1)) (hh : mi_ast 2 (vp_nar .byte) (pc + 1) st h cells slots = some (pc', st', h', c', s')) (hw : mi_Wd D ids cn A s ad h H locs) (hs : mi_rl ad cn st sw) (kk : mi_KH p l e R s m args below meth c Q D ids cn A ls ad pc' st' h' c' s') : W p l e R s m args below meth c H locs cells slots Q (F0 m pc ls sw) := by
  unfold mi_ast at hh
  split at hh
  next x j k r =>
    obtain ⟨ws, hrw, hP, hD, hS⟩ := hw
    obtain ⟨_, _, rfl, rfl, _, _, rfl, rfl, _, rw', rfl, ⟨a, ha, rfl⟩, hr⟩ := hs
    split at hh
    next t' n f hob =>
      split at hh
      next hc =>
        obtain ⟨rfl, hin⟩ := hc
        cases hh
        obtain ⟨a', e', g1, g2, g3⟩ := hrw.2.2 _ _ hob
        cases g1.symm.trans ha
        have g3 : e' = .inl (ids 2, n, .inl f) := g3
        subst g3
        exact va_bast hx hb hK hP hD hS k 2 g2 rfl (mi_inb_ok hin) hd (fun H1 locs1 hP1 hD1 hS1 => kk _ _ _ _ (mi_le_rf _) ⟨_, mi_rw_set hrw ha (by rfl), hP1, hD1, hS1⟩ hr)
      next => cases hh
    next => cases hh
  next => cases hh
theorem mi_zast_ok (hx : p.tables.exec = Jvm.exec) (hb : c.code = cc) (hK : va_K D mi_cl (mi_tys ids) s) (hd : decode cc pc = .ok (.bastore, 1)) (hh : mi_ast 3 (vp_nar .boolean) (pc + 1) st h cells slots = some (pc', st', h', c', s')) (hw : mi_Wd D ids cn A s ad h H locs) (hs : mi_rl ad cn st sw) (kk : mi_KH p l e R s m args below meth c Q D ids cn A ls ad pc' st' h' c' s') : W p l e R s m args below meth c H locs cells slots Q (F0 m pc ls sw) := by
  unfold mi_ast at hh
  split at hh
  next x j k r =>
    obtain ⟨ws, hrw, hP, hD, hS⟩ := hw
    obtain ⟨_, _, rfl, rfl, _, _, rfl, rfl, _, rw', rfl, ⟨a, ha, rfl⟩, hr⟩ := hs
    split at hh
    next t' n f hob =>
      split at hh
      next hc =>
        obtain ⟨rfl, hin⟩ := hc
        cases hh
        obtain ⟨a', e', g1, g2, g3⟩ := hrw.2.2 _ _ hob
        cases g1.symm.trans ha
        have g3 : e' = .inl (ids 3, n, .inl f) := g3
        subst g3
        exact va_zast hx hb hK hP hD hS k 3 g2 rfl (mi_inb_ok hin) hd (fun H1 locs1 hP1 hD1 hS1 => kk _ _ _ _ (mi_le_rf _) ⟨_, mi_rw_set hrw ha (by rfl), hP1, hD1, hS1⟩ hr)
      next => cases hh
    next => cases hh
  next => cases hh
theorem mi_last_ok (hx : p.tables.exec = Jvm.exec) (hb : c.code = cc) (hK : va_K D mi_cl (mi_tys ids) s) (hd : decode cc pc = .ok (.lastore, 1)) (hh : mi_last (pc + 1) st h cells slots = some (pc', st', h', c', s')) (hw : mi_Wd D ids cn A s ad h H locs) (hs : mi_rl ad cn st sw) (kk : mi_KH p l e R s m args below meth c Q D ids cn A ls ad pc' st' h' c' s') : W p l e R s m args below meth c H locs cells slots Q (F0 m pc ls sw) := by
  unfold mi_last at hh
  split at hh
  next x j k r =>
    obtain ⟨ws, hrw, hP, hD, hS⟩ := hw
    obtain ⟨_, _, rfl, rfl, _, _, rfl, rfl, _, rw', rfl, ⟨a, ha, rfl⟩, hr⟩ := hs
    split at hh
    next t' n f hob =>
      split at hh
      next hc =>
        obtain ⟨rfl, hin⟩ := hc
        cases hh
        obtain ⟨a', e', g1, g2, g3⟩ := hrw.2.2 _ _ hob
        cases g1.symm.trans ha
        have g3 : e' = .inl (ids 1, n, .inr (.inl f)) := g3
        subst g3
        exact va_last hx hb hK hP hD hS k 1 g2 rfl (mi_inb_ok hin) hd (fun H1 locs1 hP1 hD1 hS1 => kk _ _ _ _ (mi_le_rf _) ⟨_, mi_rw_set hrw ha (by rfl), hP1, hD1, hS1⟩ hr)
      next => cases hh
    next => cases hh
  next => cases hh
theorem mi_tys_at {ids : Nat → ClassId} {t : Nat} (h : t < 4) : ∃ ty, (mi_tys ids)[t]? = some (ids t, ty) := by
  match t, h with
  | 0, _ => exact ⟨_, rfl⟩
  | 1, _ => exact ⟨_, rfl⟩
  | 2, _ => exact ⟨_, rfl⟩
  | 3, _ => exact ⟨_, rfl⟩
theorem mi_alen_ok (hx : p.tables.exec = Jvm.exec) (hb : c.code = cc) (hK : va_K D mi_cl (mi_tys ids) s) {X : mi_X} (hG : mi_Gc X cn A s s.heap) (hd : decode cc pc = .ok (.arraylength, 1)) (hh : mi_alen X (pc + 1) st h cells slots = some (pc', st', h', c', s')) (hw : mi_Wd D ids cn A s ad h H locs) (hs : mi_rl ad cn st sw) (kk : mi_KH p l e R s m args below meth c Q D ids cn A ls ad pc' st' h' c' s') : W p l e R s m args below meth c H locs cells slots Q (F0 m pc ls sw) := by
  obtain ⟨ws, hrw, hP, hD, hS⟩ := hw
  unfold mi_alen at hh
  split at hh
  next k r =>
    obtain ⟨_, rw', rfl, ⟨a, ha, rfl⟩, hr⟩ := hs
    split at hh
    next t' n f hob =>
      split at hh
      next hc =>
        cases hh
        obtain ⟨a', e', g1, g2, g3⟩ := hrw.2.2 _ _ hob
        cases g1.symm.trans ha
        have g3 : e' = .inl (ids t', n, .inl f) := g3
        subst g3
        obtain ⟨ty, hty⟩ := mi_tys_at (ids := ids) hc
        exact va_alen hx hb hK hP k t' g2 hty rfl hd (kk _ _ _ _ (mi_le_rf _) ⟨ws, hrw, hP, hD, hS⟩ (mi_rl_c rfl hr))
      next => cases hh
    next t' n f hob =>
      split at hh
      next hc =>
        cases hh
        obtain ⟨a', e', g1, g2, g3⟩ := hrw.2.2 _ _ hob
        cases g1.symm.trans ha
        have g3 : e' = .inl (ids t', n, .inr (.inl f)) := g3
        subst g3
        obtain ⟨ty, hty⟩ := mi_tys_at (ids := ids) hc
        exact va_alen hx hb hK hP k t' g2 hty rfl hd (kk _ _ _ _ (mi_le_rf _) ⟨ws, hrw, hP, hD, hS⟩ (mi_rl_c rfl hr))
      next => cases hh
    next => cases hh
  next k r =>
    obtain ⟨_, rw', rfl, rfl, hr⟩ := hs
    split at hh
    next hc =>
      cases hh
      obtain ⟨-, -, -, g4⟩ := hG.1 (k / 4) hc.2
      rw [show 4 * (k / 4) + 1 = k by omega] at g4
      exact va_tlen hx hb g4 hS rfl hd (kk _ _ _ _ (mi_le_rf _) ⟨ws, hrw, hP, hD, hS⟩ (mi_rl_c rfl hr))
    next =>
      split at hh
      next hc =>
        cases hh
        subst hc
        obtain ⟨-, ⟨-, f, hT⟩, -⟩ := hG
        exact va_tlen hx hb hT hS rfl hd (kk _ _ _ _ (mi_le_rf _) ⟨ws, hrw, hP, hD, hS⟩ (mi_rl_c rfl hr))
      next =>
        split at hh
        next x =>
          split at hh
          next hc =>
            cases hh
            subst hc
            obtain ⟨-, -, -, -, hX, hlt, hnA⟩ := hG
            exact va_slen hx hb hX hlt hnA hS hd (kk _ _ _ _ (mi_le_rf _) ⟨ws, hrw, hP, hD, hS⟩ (mi_rl_c rfl hr))
          next => cases hh
        next => cases hh
  next => cases hh

end MIH
end
section
section MIH
variable {p : Program} {l : Launch} {e : Env} {R : Room} {s : State} {m : MethodId} {args : Array Value} {below : List Frame} {meth : Method} {c : Code} {H : Heap} {locs : List Loc} {cells slots : Nat} {Q : State → Prop}
variable {cc : ByteArray} {pc pc' c' s' : Nat} {st st' : List Value} {h h' : mi_H} {ad : List Nat} {cn : Nat → Nat} {ids : Nat → ClassId} {D : va_G} {A : Nat → Prop} {sw : List Value} {ls : Array Slot}
theorem mi_nari_ok (hx : p.tables.exec = Jvm.exec) (hb : c.code = cc) (hts : ∀ w ∈ mi_need, w.before args s = true) (hK : va_K D mi_cl (mi_tys ids) s) (hA : ∀ q, s.heap.size ≤ q → A q) (hRc : c' ≤ R.cells) (hRs : s' ≤ R.slots) (hd : decode cc pc = .ok (.newarray .int, 2)) (hh : mi_nar 0 (fun n => (n, .inl (fun _ => 0))) (pc + 2) st h cells slots = some (pc', st', h', c', s')) (hw : mi_Wd D ids cn A s ad h H locs) (hs : mi_rl ad cn st sw) (kk : mi_KH p l e R s m args below meth c Q D ids cn A ls ad pc' st' h' c' s') : W p l e R s m args below meth c H locs cells slots Q (F0 m pc ls sw) := by
  unfold mi_nar at hh
  split at hh
  next n r =>
    split at hh
    next hin =>
      cases hh
      have hin' := mi_inb_ok hin
      have h0 : ¬ n < 0 := fun q => hin' (Or.inl q)
      have h1 : n.toNatClampNeg < 200001 := Nat.not_le.mp fun q => hin' (Or.inr q)
      obtain ⟨ws, hrw, hP, hD, hS⟩ := hw
      obtain ⟨_, rw', rfl, rfl, hr⟩ := hs
      have hwd : (Cond.arrayClass .int).before args s = true := hts _ (mi_in3 (List.mem_of_getElem? (i := 0) rfl))
      have hid : s.vm.findClass ("[" ++ (FieldType.int).toString) = some (ids 0) := (hK.2 0 _ rfl).2
      refine va_newa (atype := .int) (ty := .int) (a0 := (n.toNatClampNeg, .inl (fun _ => 0))) hx hb hwd rfl hK hP hD hS hA (fun cA => rfl) h0 rfl ?_ hRc hRs hd (fun q cA H1 hK1 hP1 hD1 hS1 => ?_)
      · have hcb : componentBytes FieldType.int ≤ 8 := by decide
        have := Nat.mul_le_mul (Nat.le_of_lt h1) hcb
        exact Nat.le_trans this (Nat.le_of_ble_eq_true rfl)
      · have hid2 : s.vm.findClass ("[" ++ (FieldType.int).toString) = some cA := (hK1.2 4 _ rfl).2
        have hcA : cA = ids 0 := Option.some.inj (hid2.symm.trans hid)
        subst hcA
        exact kk _ _ _ _ (mi_le_app _ q) ⟨_, mi_rw_push hrw (by rfl), hP1, hD1, hS1⟩ (mi_rl_c ⟨q, mi_last_ad hrw q, rfl⟩ (mi_rl_mono (mi_le_app _ q) hr))
    next => cases hh
  next => cases hh
theorem mi_narl_ok (hx : p.tables.exec = Jvm.exec) (hb : c.code = cc) (hts : ∀ w ∈ mi_need, w.before args s = true) (hK : va_K D mi_cl (mi_tys ids) s) (hA : ∀ q, s.heap.size ≤ q → A q) (hRc : c' ≤ R.cells) (hRs : s' ≤ R.slots) (hd : decode cc pc = .ok (.newarray .long, 2)) (hh : mi_nar 1 (fun n => (n, .inr (.inl (fun _ => 0)))) (pc + 2) st h cells slots = some (pc', st', h', c', s')) (hw : mi_Wd D ids cn A s ad h H locs) (hs : mi_rl ad cn st sw) (kk : mi_KH p l e R s m args below meth c Q D ids cn A ls ad pc' st' h' c' s') : W p l e R s m args below meth c H locs cells slots Q (F0 m pc ls sw) := by
  unfold mi_nar at hh
  split at hh
  next n r =>
    split at hh
    next hin =>
      cases hh
      have hin' := mi_inb_ok hin
      have h0 : ¬ n < 0 := fun q => hin' (Or.inl q)
      have h1 : n.toNatClampNeg < 200001 := Nat.not_le.mp fun q => hin' (Or.inr q)
      obtain ⟨ws, hrw, hP, hD, hS⟩ := hw
      obtain ⟨_, rw', rfl, rfl, hr⟩ := hs
      have hwd : (Cond.arrayClass .long).before args s = true := hts _ (mi_in3 (List.mem_of_getElem? (i := 1) rfl))
      have hid : s.vm.findClass ("[" ++ (FieldType.long).toString) = some (ids 1) := (hK.2 1 _ rfl).2
      refine va_newa (atype := .long) (ty := .long) (a0 := (n.toNatClampNeg, .inr (.inl (fun _ => 0)))) hx hb hwd rfl hK hP hD hS hA (fun cA => rfl) h0 rfl ?_ hRc hRs hd (fun q cA H1 hK1 hP1 hD1 hS1 => ?_)
      · have hcb : componentBytes FieldType.long ≤ 8 := by decide
        have := Nat.mul_le_mul (Nat.le_of_lt h1) hcb
        exact Nat.le_trans this (Nat.le_of_ble_eq_true rfl)
      · have hid2 : s.vm.findClass ("[" ++ (FieldType.long).toString) = some cA := (hK1.2 4 _ rfl).2
        have hcA : cA = ids 1 := Option.some.inj (hid2.symm.trans hid)
        subst hcA
        exact kk _ _ _ _ (mi_le_app _ q) ⟨_, mi_rw_push hrw (by rfl), hP1, hD1, hS1⟩ (mi_rl_c ⟨q, mi_last_ad hrw q, rfl⟩ (mi_rl_mono (mi_le_app _ q) hr))
    next => cases hh
  next => cases hh
theorem mi_narb_ok (hx : p.tables.exec = Jvm.exec) (hb : c.code = cc) (hts : ∀ w ∈ mi_need, w.before args s = true) (hK : va_K D mi_cl (mi_tys ids) s) (hA : ∀ q, s.heap.size ≤ q → A q) (hRc : c' ≤ R.cells) (hRs : s' ≤ R.slots) (hd : decode cc pc = .ok (.newarray .byte, 2)) (hh : mi_nar 2 (fun n => (n, .inl (fun _ => 0))) (pc + 2) st h cells slots = some (pc', st', h', c', s')) (hw : mi_Wd D ids cn A s ad h H locs) (hs : mi_rl ad cn st sw) (kk : mi_KH p l e R s m args below meth c Q D ids cn A ls ad pc' st' h' c' s') : W p l e R s m args below meth c H locs cells slots Q (F0 m pc ls sw) := by
  unfold mi_nar at hh
  split at hh
  next n r =>
    split at hh
    next hin =>
      cases hh
      have hin' := mi_inb_ok hin
      have h0 : ¬ n < 0 := fun q => hin' (Or.inl q)
      have h1 : n.toNatClampNeg < 200001 := Nat.not_le.mp fun q => hin' (Or.inr q)
      obtain ⟨ws, hrw, hP, hD, hS⟩ := hw
      obtain ⟨_, rw', rfl, rfl, hr⟩ := hs
      have hwd : (Cond.arrayClass .byte).before args s = true := hts _ (mi_in3 (List.mem_of_getElem? (i := 2) rfl))
      have hid : s.vm.findClass ("[" ++ (FieldType.byte).toString) = some (ids 2) := (hK.2 2 _ rfl).2
      refine va_newa (atype := .byte) (ty := .byte) (a0 := (n.toNatClampNeg, .inl (fun _ => 0))) hx hb hwd rfl hK hP hD hS hA (fun cA => rfl) h0 rfl ?_ hRc hRs hd (fun q cA H1 hK1 hP1 hD1 hS1 => ?_)
      · have hcb : componentBytes FieldType.byte ≤ 8 := by decide
        have := Nat.mul_le_mul (Nat.le_of_lt h1) hcb
        exact Nat.le_trans this (Nat.le_of_ble_eq_true rfl)
      · have hid2 : s.vm.findClass ("[" ++ (FieldType.byte).toString) = some cA := (hK1.2 4 _ rfl).2
        have hcA : cA = ids 2 := Option.some.inj (hid2.symm.trans hid)
        subst hcA
        exact kk _ _ _ _ (mi_le_app _ q) ⟨_, mi_rw_push hrw (by rfl), hP1, hD1, hS1⟩ (mi_rl_c ⟨q, mi_last_ad hrw q, rfl⟩ (mi_rl_mono (mi_le_app _ q) hr))
    next => cases hh
  next => cases hh
theorem mi_narz_ok (hx : p.tables.exec = Jvm.exec) (hb : c.code = cc) (hts : ∀ w ∈ mi_need, w.before args s = true) (hK : va_K D mi_cl (mi_tys ids) s) (hA : ∀ q, s.heap.size ≤ q → A q) (hRc : c' ≤ R.cells) (hRs : s' ≤ R.slots) (hd : decode cc pc = .ok (.newarray .boolean, 2)) (hh : mi_nar 3 (fun n => (n, .inl (fun _ => 0))) (pc + 2) st h cells slots = some (pc', st', h', c', s')) (hw : mi_Wd D ids cn A s ad h H locs) (hs : mi_rl ad cn st sw) (kk : mi_KH p l e R s m args below meth c Q D ids cn A ls ad pc' st' h' c' s') : W p l e R s m args below meth c H locs cells slots Q (F0 m pc ls sw) := by
  unfold mi_nar at hh
  split at hh
  next n r =>
    split at hh
    next hin =>
      cases hh
      have hin' := mi_inb_ok hin
      have h0 : ¬ n < 0 := fun q => hin' (Or.inl q)
      have h1 : n.toNatClampNeg < 200001 := Nat.not_le.mp fun q => hin' (Or.inr q)
      obtain ⟨ws, hrw, hP, hD, hS⟩ := hw
      obtain ⟨_, rw', rfl, rfl, hr⟩ := hs
      have hwd : (Cond.arrayClass .boolean).before args s = true := hts _ (mi_in3 (List.mem_of_getElem? (i := 3) rfl))
      have hid : s.vm.findClass ("[" ++ (FieldType.boolean).toString) = some (ids 3) := (hK.2 3 _ rfl).2
      refine va_newa (atype := .boolean) (ty := .boolean) (a0 := (n.toNatClampNeg, .inl (fun _ => 0))) hx hb hwd rfl hK hP hD hS hA (fun cA => rfl) h0 rfl ?_ hRc hRs hd (fun q cA H1 hK1 hP1 hD1 hS1 => ?_)
      · have hcb : componentBytes FieldType.boolean ≤ 8 := by decide
        have := Nat.mul_le_mul (Nat.le_of_lt h1) hcb
        exact Nat.le_trans this (Nat.le_of_ble_eq_true rfl)
      · have hid2 : s.vm.findClass ("[" ++ (FieldType.boolean).toString) = some cA := (hK1.2 4 _ rfl).2
        have hcA : cA = ids 3 := Option.some.inj (hid2.symm.trans hid)
        subst hcA
        exact kk _ _ _ _ (mi_le_app _ q) ⟨_, mi_rw_push hrw (by rfl), hP1, hD1, hS1⟩ (mi_rl_c ⟨q, mi_last_ad hrw q, rfl⟩ (mi_rl_mono (mi_le_app _ q) hr))
    next => cases hh
  next => cases hh
theorem mi_nofl : ∀ i, i < 12 → (match mi_cl[i]? with | some q => (List.range q.2.2).all (fun j => decide (mi_ty i j ≠ .float)) | none => true) = true := by decide +kernel
theorem mi_kl_ok : ∀ o, o < mi_no → ∀ x ∈ mi_kl o, x.2 < 12 := by decide +kernel
theorem mi_dflt {ty : FieldType} (h : ty ≠ .float) (ad : List Nat) (cn : Nat → Nat) : mi_rv ad cn (defaultValue ty) (defaultValue ty) := by
  cases ty <;> first | exact absurd rfl h | rfl
theorem mi_dflts (ad : List Nat) (cn : Nat → Nat) (f : Nat → FieldType) : ∀ (js : List Nat), (∀ j ∈ js, f j ≠ .float) → mi_rl ad cn (js.map (fun j => defaultValue (f j))) (js.map (fun j => defaultValue (f j)))
  | [], _ => rfl
  | j :: js, h => ⟨_, _, rfl, mi_dflt (h j List.mem_cons_self) ad cn, mi_dflts ad cn f js (fun i hi => h i (List.mem_cons_of_mem _ hi))⟩
theorem mi_new_ok (hx : p.tables.exec = Jvm.exec) (hb : c.code = cc) {o : Nat} (ho : o < mi_no) (hown : s.vm.findClass (mi_on o) = some m.cls) (hts : ∀ w ∈ mi_need, w.before args s = true) (hK : va_K D mi_cl (mi_tys ids) s) (hA : ∀ q, s.heap.size ≤ q → A q) (hRc : c' ≤ R.cells) (hRs : s' ≤ R.slots) {idx : Nat} (hd : decode cc pc = .ok (.new idx, 3)) (hh : mi_new o idx (pc + 3) st h cells slots = some (pc', st', h', c', s')) (hw : mi_Wd D ids cn A s ad h H locs) (hs : mi_rl ad cn st sw) (kk : mi_KH p l e R s m args below meth c Q D ids cn A ls ad pc' st' h' c' s') : W p l e R s m args below meth c H locs cells slots Q (F0 m pc ls sw) := by
  unfold mi_new at hh
  split at hh
  next ci hf =>
    have hm := mi_lk_mem hf
    split at hh
    next q hq =>
      cases hh
      obtain ⟨hqm, hty, hnm, hT1, hqn⟩ := mi_clok hq
      obtain ⟨ws, hrw, hP, hD, hS⟩ := hw
      have hci : ci < 12 := mi_kl_ok o ho _ hm
      have hnf := mi_nofl ci hci
      rw [hq] at hnf
      have hnf' : ∀ j ∈ List.range q.2.2, mi_ty ci j ≠ .float := fun j hj => by
        have := List.all_eq_true.mp hnf j hj
        simpa using this
      have hlink := hts (mi_klw o (idx, ci)) (mi_in2 ho (List.mem_append_right _ (List.mem_append_right _ (List.mem_append_left _ (List.mem_map.mpr ⟨_, hm, rfl⟩)))))
      unfold mi_klw at hlink
      rw [show mi_cl[((idx, ci) : Nat × Nat).2]? = some q from hq] at hlink
      refine va_new (C := q.1) (T := q.2.1) (N := q.2.2) (index := idx) (fs := (List.range q.2.2).map (fun j => defaultValue (mi_ty ci j))) hx hb hts (fun w hw => mi_in0 hqm (List.mem_append_left _ hw)) (mi_ty ci) hty hown hlink (hts _ (mi_in0 hqm (List.mem_append_right _ List.mem_cons_self))) (hts _ (mi_in0 hqm (List.mem_append_right _ (List.mem_cons_of_mem _ List.mem_cons_self)))) hK hP hD hS hA hq (fun j hj => ?_) hRc hRs hd (fun z H1 hP1 hD1 hS1 => ?_)
      · show defaultValue (mi_ty ci j) = ((List.range q.2.2).map (fun j => defaultValue (mi_ty ci j))).getD j .null
        rw [List.getD_eq_getElem?_getD, List.getElem?_map, List.getElem?_range hj]
        rfl
      · exact kk _ _ _ _ (mi_le_app _ z) ⟨_, mi_rw_push hrw ⟨_, rfl, mi_dflts _ _ _ _ hnf'⟩, hP1, hD1, hS1⟩ (mi_rl_c ⟨z, mi_last_ad hrw z, rfl⟩ (mi_rl_mono (mi_le_app _ z) hs))
    next => cases hh
  next => cases hh
theorem mi_sl_ok : ∀ o, o < mi_no → ∀ x ∈ mi_sl o, (match mi_sw[x.2]? with | some y => decide (y.1 = mi_on o) && decide (y.2.1 = x.1) | none => false) = true := by decide +kernel
/-- String constants, as the tables have them -/
def mi_Gr (cn : Nat → Nat) (s : State) : Prop := ∀ (i : Nat) (x : String × Nat × String), mi_sw[i]? = some x → vk_R x.1 x.2.1 x.2.2 (cn (4 * i)) s
theorem mi_str {o : Nat} (ho : o < mi_no) (hR : mi_Gr cn s) {idx i : Nat} (hf : mi_lk (mi_sl o) idx = some i) : ∃ tx, vk_R (mi_on o) idx tx (cn (4 * i)) s := by
  have hm := mi_lk_mem hf
  have h1 := mi_sl_ok o ho _ hm
  split at h1
  next y hy =>
    simp only [Bool.and_eq_true, decide_eq_true_eq] at h1
    have h2 := hR _ _ hy
    rw [h1.1, h1.2] at h2
    exact ⟨_, h2⟩
  next => cases h1
theorem mi_il_in {o idx : Nat} {v : Int32} (ho : o < mi_no) (hf : mi_lk (mi_il o) idx = some v) : Cond.constant (mi_on o) idx v ∈ mi_need :=
  mi_in2 ho (List.mem_append_right _ (List.mem_append_right _ (List.mem_append_right _ (List.mem_append_right _ (List.mem_append_left _ (List.mem_map.mpr ⟨_, mi_lk_mem hf, rfl⟩))))))
theorem mi_jl_in {o idx : Nat} {v : Int64} (ho : o < mi_no) (hf : mi_lk (mi_jl o) idx = some v) : Cond.constantLong (mi_on o) idx v ∈ mi_need :=
  mi_in2 ho (List.mem_append_right _ (List.mem_append_right _ (List.mem_append_right _ (List.mem_append_right _ (List.mem_append_right _ (List.mem_append_left _ (List.mem_map.mpr ⟨_, mi_lk_mem hf, rfl⟩)))))))
theorem mi_gl_in {o idx g : Nat} (ho : o < mi_no) (hf : mi_lk (mi_gl o) idx = some g) : mi_glw o (idx, g) ∈ mi_need :=
  mi_in2 ho (List.mem_append_right _ (List.mem_append_right _ (List.mem_append_right _ (List.mem_append_right _ (List.mem_append_right _ (List.mem_append_right _ (List.mem_append_right _ (List.mem_map.mpr ⟨_, mi_lk_mem hf, rfl⟩))))))))
theorem mi_ldc_ok (hx : p.tables.exec = Jvm.exec) (hb : c.code = cc) {o : Nat} (ho : o < mi_no) (hown : s.vm.findClass (mi_on o) = some m.cls) (hts : ∀ w ∈ mi_need, w.before args s = true) (hR : mi_Gr cn s) {idx : Nat} (hd : decode cc pc = .ok (.ldc idx, 2)) (hh : mi_ldc o idx (pc + 2) st h cells slots = some (pc', st', h', c', s')) (hw : mi_Wd D ids cn A s ad h H locs) (hs : mi_rl ad cn st sw) (kk : mi_KH p l e R s m args below meth c Q D ids cn A ls ad pc' st' h' c' s') : W p l e R s m args below meth c H locs cells slots Q (F0 m pc ls sw) := by
  unfold mi_ldc at hh
  split at hh
  next v hf =>
    cases hh
    exact lv_ldc hx hb hown (hts _ (mi_il_in ho hf)) hd (kk _ _ _ _ (mi_le_rf _) hw (mi_rl_c rfl hs))
  next =>
    split at hh
    next i hf =>
      split at hh
      next hi =>
        cases hh
        obtain ⟨tx, hq⟩ := mi_str ho hR hf
        exact va_ldcS hx hb hown hq hd (kk _ _ _ _ (mi_le_rf _) hw (mi_rl_c rfl hs))
      next => cases hh
    next => cases hh
theorem mi_ldcw_ok (hx : p.tables.exec = Jvm.exec) (hb : c.code = cc) {o : Nat} (ho : o < mi_no) (hown : s.vm.findClass (mi_on o) = some m.cls) (hts : ∀ w ∈ mi_need, w.before args s = true) (hR : mi_Gr cn s) {idx : Nat} (hd : decode cc pc = .ok (.ldc_w idx, 3)) (hh : (match mi_lk (mi_il o) idx with
    | some v => some (pc + 3, .int v :: st, h, cells, slots)
    | none => (match mi_lk (mi_sl o) idx with
      | some i => if i < mi_nS then some (pc + 3, .retAddr (4 * i) :: st, h, cells, slots) else none
      | none => none)) = some (pc', st', h', c', s')) (hw : mi_Wd D ids cn A s ad h H locs) (hs : mi_rl ad cn st sw) (kk : mi_KH p l e R s m args below meth c Q D ids cn A ls ad pc' st' h' c' s') : W p l e R s m args below meth c H locs cells slots Q (F0 m pc ls sw) := by
  split at hh
  next v hf =>
    cases hh
    exact lv_ldcw hx hb hown (hts _ (mi_il_in ho hf)) hd (kk _ _ _ _ (mi_le_rf _) hw (mi_rl_c rfl hs))
  next =>
    split at hh
    next i hf =>
      split at hh
      next hi =>
        cases hh
        obtain ⟨tx, hq⟩ := mi_str ho hR hf
        intro T hT X
        obtain ⟨t, a1, b1⟩ := kk _ _ _ _ (mi_le_rf _) hw (mi_rl_c (v := .retAddr (4 * i)) rfl hs) T hT X
        exact ⟨t, X.ldcStringW hx hown (text := tx) (a := cn (4 * i)) hq.1 hq.2 (g := F0 m pc ls sw) rfl (by rw [hb]; exact hd) t a1, b1⟩
      next => cases hh
    next => cases hh
theorem mi_ldc2_ok (hx : p.tables.exec = Jvm.exec) (hb : c.code = cc) {o : Nat} (ho : o < mi_no) (hown : s.vm.findClass (mi_on o) = some m.cls) (hts : ∀ w ∈ mi_need, w.before args s = true) {idx : Nat} (hd : decode cc pc = .ok (.ldc2_w idx, 3)) (hh : mi_ldc2 o idx (pc + 3) st h cells slots = some (pc', st', h', c', s')) (hw : mi_Wd D ids cn A s ad h H locs) (hs : mi_rl ad cn st sw) (kk : mi_KH p l e R s m args below meth c Q D ids cn A ls ad pc' st' h' c' s') : W p l e R s m args below meth c H locs cells slots Q (F0 m pc ls sw) := by
  unfold mi_ldc2 at hh
  split at hh
  next v hf =>
    cases hh
    exact lv_ldc2 hx hb hown (hts _ (mi_jl_in ho hf)) hd (kk _ _ _ _ (mi_le_rf _) hw (mi_rl_c rfl hs))
  next => cases hh
theorem mi_gets_ok (hx : p.tables.exec = Jvm.exec) (hb : c.code = cc) {o : Nat} (ho : o < mi_no) (hown : s.vm.findClass (mi_on o) = some m.cls) (hts : ∀ w ∈ mi_need, w.before args s = true) {X : mi_X} (hG : mi_Gc X cn A s s.heap) {idx : Nat} (hd : decode cc pc = .ok (.getstatic idx, 3)) (hh : mi_gets o idx (pc + 3) st h cells slots = some (pc', st', h', c', s')) (hw : mi_Wd D ids cn A s ad h H locs) (hs : mi_rl ad cn st sw) (kk : mi_KH p l e R s m args below meth c Q D ids cn A ls ad pc' st' h' c' s') : W p l e R s m args below meth c H locs cells slots Q (F0 m pc ls sw) := by
  have hS := hw.choose_spec.2.2.2
  unfold mi_gets at hh
  split at hh
  next hf =>
    cases hh
    have hlink : (Cond.fieldLink (mi_on o) idx "TypeLoomModel" "KEYWORDS" "[Ljava/lang/String;").before args s = true := hts _ (mi_gl_in ho hf)
    obtain ⟨-, ⟨hZ, -⟩, -⟩ := hG
    exact va_gets hx hb hZ hS hown hlink (fun _ hx => hx) hd (kk _ _ _ _ (mi_le_rf _) hw (mi_rl_c rfl hs))
  next hf =>
    cases hh
    have hlink : (Cond.fieldLink (mi_on o) idx "jdk/internal/util/Preconditions" "SIOOBE_FORMATTER" "Ljava/util/function/BiFunction;").before args s = true := hts _ (mi_gl_in ho hf)
    obtain ⟨-, -, hZ, -⟩ := hG
    rcases hZ with hZ | ⟨t, hZ⟩
    · exact va_gets hx hb hZ hS hown hlink (fun _ hx => hx) hd (kk _ _ _ _ (mi_le_rf _) hw (mi_rl_c (Or.inl rfl) hs))
    · exact va_gets hx hb hZ hS hown hlink (fun _ hx => hx) hd (kk _ _ _ _ (mi_le_rf _) hw (mi_rl_c (Or.inr ⟨t, rfl⟩) hs))
  next hf =>
    cases hh
    have hlink : (Cond.fieldLink (mi_on o) idx "java/lang/String" "COMPACT_STRINGS" "Z").before args s = true := hts _ (mi_gl_in ho hf)
    obtain ⟨-, -, -, hZ, -⟩ := hG
    exact va_gets hx hb hZ hS hown hlink (fun _ hx => hx) hd (kk _ _ _ _ (mi_le_rf _) hw (mi_rl_c rfl hs))
  next => cases hh
end MIH
end
section
/-! ===== what a method is given, and how a next method is given it ===== -/
def mi_bw : Cond → Bool
  | .declares _ => true
  | .castable _ _ => true
  | .methodLinkNest _ _ _ _ => true
  | .fieldLinkNest _ _ _ _ _ _ => true
  | _ => false
theorem mi_bad_bw : ∀ w ∈ mi_bad, mi_bw w = true := by decide +kernel
theorem mi_bw_on {w : Cond} (h : mi_bw w = true) : w.onTables = true := by
  cases w <;> first | rfl | (exact absurd h (by decide)) | (exact absurd h Bool.false_ne_true)
theorem mi_bw_warm {w : Cond} {s U : State} (h : mi_bw w = true) (hW : s.WarmedH U.vm) (hZ : va_Nw w s) : va_Nw w U := by
  cases w <;> first
    | exact va_Nw.warmD hW hZ
    | exact va_Nw.warmC hW hZ
    | exact va_Nw.warmM hW hZ
    | exact va_Nw.warmF hW hZ
    | (exact absurd h Bool.false_ne_true)
/-- all that is known at a state, but the class's and the reference's own cells; sz0: where the old cells end -/
def mi_Gl (X : mi_X) (cn : Nat → Nat) (ids : Nat → ClassId) (D : va_G) (sz0 : Nat) (U : State) : Prop :=
  va_K D mi_cl (mi_tys ids) U ∧ mi_Gc X cn (fun q => sz0 ≤ q) U U.heap ∧ mi_Gr cn U ∧ (∀ w ∈ mi_bad, va_Nw w U) ∧
  vx_Zq Bundle.tN "UNASSIGNED_STACK" Bundle.steD (fun q => sz0 ≤ q) U U.heap ∧ vx_Zq Bundle.tN "SUPPRESSED_SENTINEL" Bundle.listD (fun q => sz0 ≤ q) U U.heap
theorem mi_Gs_next {cn : Nat → Nat} {A : Nat → Prop} {s U : State} (hvm : s.vm.Alike U.vm) (hq : ∀ a : Nat, a < s.heap.size → ¬ A a → U.heap[a]? = s.heap[a]?) (h : mi_Gs cn A s s.heap) : mi_Gs cn A U U.heap := fun i hi => by
  obtain ⟨h1, h2, h3, h4⟩ := h i hi
  exact ⟨va_O.moved hvm (h1.kept hq), va_OF.moved hvm (h2.kept hq), va_OF.moved hvm (h3.kept hq), va_T.moved hvm (h4.kept hq)⟩
theorem mi_Gs_nar {cn : Nat → Nat} {A B : Nat → Prop} {s : State} {H : Heap} (hAB : ∀ q, B q → A q) (h : mi_Gs cn A s H) : mi_Gs cn B s H := fun i hi => by
  obtain ⟨h1, h2, h3, h4⟩ := h i hi
  exact ⟨h1.narrow hAB, h2.narrow hAB, h3.narrow hAB, h4.narrow hAB⟩
theorem mi_Gc_next {X : mi_X} {cn : Nat → Nat} {A : Nat → Prop} {s U : State} (hvm : s.vm.Alike U.vm) (hz : s.heap.size ≤ U.heap.size) (hq : ∀ a : Nat, a < s.heap.size → ¬ A a → U.heap[a]? = s.heap[a]?) (h : mi_Gc X cn A s s.heap) : mi_Gc X cn A U U.heap := by
  obtain ⟨h1, ⟨h2, f, h3⟩, h4, h5, h6⟩ := h
  refine ⟨mi_Gs_next hvm hq h1, ⟨va_Z.moved hvm (h2.kept hq), f, va_T.moved hvm (h3.kept hq)⟩, va_Zq.moved hvm (h4.kept hq), va_Z.moved hvm (h5.kept hq), ?_⟩
  cases X with
  | none => exact trivial
  | some x =>
    obtain ⟨g1, g2, g3⟩ := h6
    exact ⟨va_X.moved hvm (g1.kept (hq _ g2 g3)), Nat.lt_of_lt_of_le g2 hz, g3⟩
theorem mi_Gc_nar {X : mi_X} {cn : Nat → Nat} {A B : Nat → Prop} {s : State} {H : Heap} (hAB : ∀ q, B q → A q) (h : mi_Gc X cn A s H) : mi_Gc X cn B s H := by
  obtain ⟨h1, ⟨h2, f, h3⟩, h4, h5, h6⟩ := h
  refine ⟨mi_Gs_nar hAB h1, ⟨h2.narrow hAB, f, h3.narrow hAB⟩, h4.narrow hAB, h5.narrow hAB, ?_⟩
  cases X with
  | none => exact trivial
  | some x => exact ⟨h6.1, h6.2.1, fun q => h6.2.2 (hAB _ q)⟩
theorem mi_Gl_next {X : mi_X} {cn : Nat → Nat} {ids : Nat → ClassId} {D : va_G} {sz0 : Nat} {s U : State} (hW : s.WarmedH U.vm) (hz : s.heap.size ≤ U.heap.size) (hq : ∀ a : Nat, a < s.heap.size → ¬ sz0 ≤ a → U.heap[a]? = s.heap[a]?) (h : mi_Gl X cn ids D sz0 s) : mi_Gl X cn ids D sz0 U := by
  obtain ⟨h1, h2, h3, h4, h5, h6⟩ := h
  have hvm := hW.alike
  exact ⟨va_K.moved hvm h1, mi_Gc_next hvm hz hq h2, fun i x hx => (h3 i x hx).warm hW, fun w hw => mi_bw_warm (mi_bad_bw w hw) hW (h4 w hw), vx_Zq.moved hvm (h5.kept hq), vx_Zq.moved hvm (h6.kept hq)⟩
theorem mi_Gl_call {X : mi_X} {cn : Nat → Nat} {ids : Nat → ClassId} {D : va_G} {sz0 : Nat} {s : State} {g : JFrame} {mk : MethodId} {a : Array Value} (h : mi_Gl X cn ids D sz0 s) : mi_Gl X cn ids D sz0 (s.calling g mk a) :=
  mi_Gl_next (U := s.calling g mk a) (State.WarmedH.refl s) (Nat.le_refl _) (fun _ _ _ => rfl) h
/-- the cells behind a call -/
def mi_Wc (D : va_G) (ids : Nat → ClassId) (cn : Nat → Nat) (ad : List Nat) (h : mi_H) (H : Heap) : Prop := ∃ ws, mi_rw ids ad cn h ws ∧ va_P D mi_cl ws H ∧ va_D (fun _ => True) ws
theorem mi_ws_ad {ids : Nat → ClassId} {ad : List Nat} {cn : Nat → Nat} {h : mi_H} {ws : va_W} (hw : mi_rw ids ad cn h ws) {k : Nat} {q : Nat × va_E} (hk : ws[k]? = some q) : ad[k]? = some q.1 := by
  have hl : k < h.length := by
    have := (List.getElem?_eq_some_iff.mp hk).1
    rw [hw.2.1] at this
    exact this
  obtain ⟨a, e, g1, g2, -⟩ := hw.2.2 k _ (List.getElem?_eq_getElem hl)
  rw [g2] at hk
  cases hk
  exact g1
theorem mi_Wd_of {D : va_G} {ids : Nat → ClassId} {cn : Nat → Nat} {A : Nat → Prop} {s : State} {ad : List Nat} {h : mi_H} {H : Heap} {locs : List Loc} (hc : mi_Wc D ids cn ad h H) (hA : ∀ a ∈ ad, A a) (hS : va_S A s.heap H locs) : mi_Wd D ids cn A s ad h H locs := by
  obtain ⟨ws, h1, h2, h3⟩ := hc
  exact ⟨ws, h1, h2, ⟨h3.1, fun k q hk => hA _ (List.mem_of_getElem? (mi_ws_ad h1 hk))⟩, hS⟩
theorem mi_Wc_of {D : va_G} {ids : Nat → ClassId} {cn : Nat → Nat} {A : Nat → Prop} {s : State} {ad : List Nat} {h : mi_H} {H : Heap} {locs : List Loc} (hw : mi_Wd D ids cn A s ad h H locs) : mi_Wc D ids cn ad h H ∧ (∀ a ∈ ad, A a) ∧ va_S A s.heap H locs := by
  obtain ⟨ws, h1, h2, h3, h4⟩ := hw
  refine ⟨⟨ws, h1, h2, h3.1, fun _ _ _ => trivial⟩, fun a ha => ?_, h4⟩
  obtain ⟨k, hk⟩ := List.mem_iff_getElem?.mp ha
  have hl : k < h.length := by
    have := (List.getElem?_eq_some_iff.mp hk).1
    rw [h1.1] at this
    exact this
  obtain ⟨a', e, g1, g2, -⟩ := h1.2.2 k _ (List.getElem?_eq_getElem hl)
  cases g1.symm.trans hk
  exact h3.2 k _ g2
/-- what a method is given -/
def mi_Fr (p : Program) (l : Launch) (R : Room) (s : State) (m : MethodId) (args : Array Value) (meth : Method) (c : Code) (M : mi_M) (d : Nat) (X : mi_X) (cn : Nat → Nat) (ids : Nat → ClassId) (D : va_G) (A : Nat → Prop) (sz0 : Nat) : Prop :=
  (p.tables.exec = Jvm.exec ∧ c.code = mi_bt M ∧ meth.sig.returnType = mi_rt M ∧ c.maxLocals = mi_nL M ∧ meth.locks = false ∧ (mi_kd M = 2 → meth.name = "<init>") ∧ (mi_kd M ≠ 4 → c.exceptionTable.toList = tableOf (mi_hd M)) ∧ s.vm.findClass (mi_on (mi_ow M)) = some m.cls) ∧
  (∀ w ∈ mi_need, w.before args s = true) ∧ (∀ q, s.heap.size ≤ q → A q) ∧ (∀ q, A q → sz0 ≤ q) ∧ sz0 ≤ s.heap.size ∧ mi_Gl X cn ids D sz0 s ∧ d ≤ R.frames ∧ 40 * d ≤ R.locals ∧ l.stackTraces = false
/-- a method's row is the machine's -/
theorem mi_mok_spec {M : mi_M} (h : mi_mok M = true) : plainName (mi_y M).cls = true ∧ (mi_y M).cls ≠ "java/lang/invoke/MethodHandle" ∧ (mi_y M).cls ≠ "java/lang/invoke/VarHandle" ∧ (parseMethodDescriptor (mi_y M).desc).map (fun d => d.parameters.length) = some (mi_np M) ∧ (mi_y M).cls = mi_on (mi_ow M) ∧ mi_ow M < mi_no ∧ mi_nL M ≤ 20 ∧ (mi_kd M = 2 → (mi_y M).name = "<init>") ∧ (∀ q ∈ mi_cd M, decode (mi_bt M) q.1 = .ok q.2) ∧
    (∀ q ∈ mi_th M, decode (mi_bt M) q.1 = .ok (.new q.2.2.1, 3) ∧ decode (mi_bt M) (q.1 + 3) = .ok (.dup, 1) ∧ decode (mi_bt M) (q.1 + 4) = .ok (.ldc q.2.2.2.1, 2) ∧ decode (mi_bt M) (q.1 + 6) = .ok (.invokespecial q.2.2.2.2.1, 3) ∧ decode (mi_bt M) (q.1 + 9) = .ok (.athrow, 1) ∧ (mi_y M).cls = "TypeLoom" ∧ (q.2.1, q.2.2.2.2.1) ∈ mi_xs ∧ mi_kd M < 3 ∧ mi_lk (mi_xl (mi_ow M)) q.2.2.1 = some q.2.1 ∧ q.2.1 < 3 ∧ ∃ i, mi_lk (mi_sl (mi_ow M)) q.2.2.2.1 = some i ∧ i < mi_nS) ∧ (mi_kd M = 3 ∨ mi_hd M = []) := by
  simp only [mi_mok, Bool.and_eq_true, Bool.or_eq_true, decide_eq_true_eq, List.all_eq_true, Bool.not_eq_true', decide_eq_false_iff_not] at h
  have k1 := h.2.2.2.2.2.2.2
  refine ⟨h.1, h.2.1, h.2.2.1, h.2.2.2.1, h.2.2.2.2.1, h.2.2.2.2.2.1, h.2.2.2.2.2.2.1, fun q => k1.1.elim (fun z => absurd q z) id, k1.2.1.1, fun q hq => ?_, k1.2.2⟩
  have a := k1.2.1.2 q hq
  have a5 := a.2.2.2.2
  have a10 := a5.2.2.2.2.2
  refine ⟨a.1, a.2.1, a.2.2.1, a.2.2.2.1, a5.1, a5.2.1, a5.2.2.1, a5.2.2.2.1, a5.2.2.2.2.1, a10.1, ?_⟩
  have a11 := a10.2
  split at a11
  next i hi => exact ⟨i, hi, by simpa using a11⟩
  next => exact absurd a11 (by decide)
theorem mi_gf_pc {ci j k q c s c' s' pc' : Nat} {r st' : List Value} {h h' : mi_H} (hh : mi_gf ci j k q r h c s = some (pc', st', h', c', s')) : pc' = q := by
  unfold mi_gf at hh
  split at hh <;> first | (cases hh; done) | skip
  split at hh <;> first | (cases hh; done) | skip
  split at hh <;> first | (cases hh; done) | skip
  cases hh; rfl
theorem mi_getf_pc {o idx q c s c' s' pc' : Nat} {st st' : List Value} {h h' : mi_H} (hh : mi_getf o idx q st h c s = some (pc', st', h', c', s')) : pc' = q := by
  unfold mi_getf at hh
  split at hh
  next k r =>
    split at hh
    next x hf => exact mi_gf_pc hh
    next =>
      split at hh
      next x hf => exact mi_gf_pc hh
      next => cases hh
  next k r =>
    split at hh
    next j hf =>
      unfold mi_gs at hh
      split at hh
      next hk =>
        split at hh
        next => cases hh; rfl
        next =>
          split at hh
          next => cases hh; rfl
          next => cases hh
      next => cases hh
    next => cases hh
  next => cases hh
section MIG
variable {p : Program} {l : Launch} {e : Env} {R : Room} {s : State} {m : MethodId} {args : Array Value} {below : List Frame} {meth : Method} {c : Code} {H : Heap} {locs : List Loc} {cells slots : Nat} {Q : State → Prop}
variable {pc pc' c' s' d sz0 : Nat} {st st' : List Value} {h h' : mi_H} {ad : List Nat} {cn : Nat → Nat} {ids : Nat → ClassId} {D : va_G} {A : Nat → Prop} {sw : List Value} {ls : Array Slot} {X : mi_X} {M : mi_M}
theorem mi_mem_ok (hM : mi_mok M = true) (F : mi_Fr p l R s m args meth c M d X cn ids D A sz0) {i : Instr} {len : Nat} (hd : decode (mi_bt M) pc = .ok (i, len)) (hlen : len = mi_ml2 i) (hRc : c' ≤ R.cells) (hRs : s' ≤ R.slots) (hh : mi_mem X M i pc st h cells slots = some (pc', st', h', c', s'))
    (hw : mi_Wd D ids cn A s ad h H locs) (hs : mi_rl ad cn st sw) (kk : mi_KH p l e R s m args below meth c Q D ids cn A ls ad pc' st' h' c' s') : W p l e R s m args below meth c H locs cells slots Q (F0 m pc ls sw) := by
  obtain ⟨⟨hx, hb, -, -, -, hin2, -, hown⟩, hts, hA, hA0, -, hGl, -⟩ := F
  obtain ⟨hK, hG0, hR, hbad0, -⟩ := hGl
  have hG : mi_Gc X cn A s s.heap := mi_Gc_nar hA0 hG0
  have hbad : ∀ w ∈ mi_bad, w.before args s = true := fun w hw => va_Nw.use (mi_bw_on (mi_bad_bw w hw)) (hbad0 w hw)
  have ho := (mi_mok_spec hM).2.2.2.2.2.1
  subst hlen
  cases i
  case getfield idx => exact mi_getf_ok hx hb ho hown hts hK hbad hA hG hd hh hw hs (mi_getf_pc hh ▸ kk)
  case putfield idx => exact mi_putf_ok hx hb ho hown hts hK hin2 hd hh hw hs kk
  case iaload =>
    dsimp only [mi_mem] at hh
    split at hh
    next q hq => cases hh; exact mi_iald_ok hx hb hK hd hq hw hs kk
    next => exact mi_sld_ok hx hb hG hd hh hw hs kk
  case baload =>
    dsimp only [mi_mem] at hh
    split at hh
    next q hq => cases hh; exact mi_bald_ok hx hb hK hd hq hw hs kk
    next =>
      split at hh
      next q hq => cases hh; exact mi_zald_ok hx hb hK hd hq hw hs kk
      next => exact mi_bld_ok hx hb hG hd hh hw hs kk
  case laload => exact mi_lald_ok hx hb hK hd hh hw hs kk
  case aaload => exact mi_qld_ok hx hb hG hd hh hw hs kk
  case iastore => exact mi_iast_ok hx hb hK hd hh hw hs kk
  case bastore =>
    dsimp only [mi_mem] at hh
    split at hh
    next q hq => cases hh; exact mi_bast_ok hx hb hK hd hq hw hs kk
    next => exact mi_zast_ok hx hb hK hd hh hw hs kk
  case lastore => exact mi_last_ok hx hb hK hd hh hw hs kk
  case arraylength => exact mi_alen_ok hx hb hK hG hd hh hw hs kk
  case newarray at' =>
    cases at'
    case int => exact mi_nari_ok hx hb hts hK hA hRc hRs hd hh hw hs kk
    case long => exact mi_narl_ok hx hb hts hK hA hRc hRs hd hh hw hs kk
    case byte => exact mi_narb_ok hx hb hts hK hA hRc hRs hd hh hw hs kk
    case boolean => exact mi_narz_ok hx hb hts hK hA hRc hRs hd hh hw hs kk
    all_goals (cases hh)
  case new idx => exact mi_new_ok hx hb ho hown hts hK hA hRc hRs hd hh hw hs kk
  case ldc idx => exact mi_ldc_ok hx hb ho hown hts hR hd hh hw hs kk
  case ldc_w idx => exact mi_ldcw_ok hx hb ho hown hts hR hd hh hw hs kk
  case ldc2_w idx => exact mi_ldc2_ok hx hb ho hown hts hd hh hw hs kk
  case getstatic idx => exact mi_gets_ok hx hb ho hown hts hG hd hh hw hs kk
  all_goals (cases hh)
end MIG
end
section
/-! ===== calls: a method's contract out of its run ===== -/
theorem mi_rl_app {ad : List Nat} {cn : Nat → Nat} : ∀ {a b c d : List Value}, mi_rl ad cn a c → mi_rl ad cn b d → mi_rl ad cn (a ++ b) (c ++ d)
  | [], _, _, _, h, h2 => by
    have h' : _ = [] := h
    subst h'
    exact h2
  | _ :: _, _, _, _, ⟨w, ws', rfl, ha, hb⟩, h2 => ⟨w, ws' ++ _, rfl, ha, mi_rl_app hb h2⟩
theorem mi_rl_cat {ad : List Nat} {cn : Nat → Nat} : ∀ {a c : List Value}, mi_rl ad cn a c → (c.map fun v => v.category).sum = mi_cat a
  | [], _, h => by
    have h' : _ = [] := h
    subst h'
    rfl
  | v :: r, _, ⟨w, ws', rfl, ha, hb⟩ => by
    have ih := mi_rl_cat hb
    simp only [mi_cat, List.map_cons, List.sum_cons] at ih ⊢
    rw [ih, mi_rv_cat ha]
theorem mi_split {ad : List Nat} {cn : Nat → Nat} : ∀ (n : Nat) {st sw : List Value}, mi_rl ad cn st sw → n < st.length → ∃ (As : List Value) (b : Value) (rest : List Value), sw = As.reverse ++ b :: rest ∧ As.length = n ∧ mi_rv ad cn (st.getD n .null) b ∧ mi_rl ad cn (st.take (n + 1)).reverse (b :: As) ∧ mi_rl ad cn (st.drop (n + 1)) rest
  | _, [], _, _, hn => absurd hn (Nat.not_lt_zero _)
  | 0, v :: vs, _, ⟨w, ws', rfl, ha, hb⟩, _ => ⟨[], w, ws', rfl, rfl, ha, ⟨w, [], rfl, ha, rfl⟩, hb⟩
  | n + 1, v :: vs, _, ⟨w, ws', rfl, ha, hb⟩, hn => by
    obtain ⟨As, b, rest, rfl, h2, h3, h4, h5⟩ := mi_split n hb (Nat.lt_of_succ_lt_succ hn)
    refine ⟨As ++ [w], b, rest, by simp, by simp [h2], h3, ?_, h5⟩
    have e : ((v :: vs).take (n + 1 + 1)).reverse = (vs.take (n + 1)).reverse ++ [v] := by simp
    rw [e]
    exact mi_rl_app (c := b :: As) h4 ⟨w, [], rfl, ha, rfl⟩
theorem mi_splitS {ad : List Nat} {cn : Nat → Nat} : ∀ (n : Nat) {st sw : List Value}, mi_rl ad cn st sw → n ≤ st.length → ∃ (As : List Value) (rest : List Value), sw = As.reverse ++ rest ∧ As.length = n ∧ mi_rl ad cn (st.take n).reverse As ∧ mi_rl ad cn (st.drop n) rest
  | 0, _, sw, h, _ => ⟨[], sw, rfl, rfl, rfl, h⟩
  | _ + 1, [], _, _, hn => absurd hn (Nat.not_succ_le_zero _)
  | n + 1, v :: vs, _, ⟨w, ws', rfl, ha, hb⟩, hn => by
    obtain ⟨As, rest, rfl, h2, h4, h5⟩ := mi_splitS n hb (Nat.le_of_succ_le_succ hn)
    refine ⟨As ++ [w], rest, by simp, by simp [h2], ?_, h5⟩
    have e : ((v :: vs).take (n + 1)).reverse = (vs.take n).reverse ++ [v] := by simp
    rw [e]
    exact mi_rl_app h4 ⟨w, [], rfl, ha, rfl⟩
theorem mi_args_r {ad : List Nat} {cn : Nat → Nat} : ∀ {a c : List Value} (i : Nat), mi_rl ad cn a c → mi_rn ad cn (lv_args i a) (lv_args i c)
  | [], _, _, h => by
    have h' : _ = [] := h
    subst h'
    exact rfl
  | v :: r, _, i, ⟨w, ws', rfl, ha, hb⟩ => by
    refine ⟨w, _, rfl, ha, ?_⟩
    rw [mi_rv_cat ha]
    exact mi_args_r _ hb
theorem mi_sl_len : ∀ (vs : List Value), (lg_sl vs).length = (vs.map fun v => v.category).sum
  | [] => rfl
  | v :: vs => by
    have ih := mi_sl_len vs
    unfold lg_sl at ih ⊢
    rw [List.flatMap_cons, List.length_append, ih, List.map_cons, List.sum_cons]
    rcases lv_cat v with hc | hc <;> simp [hc]
/-- an answer, there and here -/
def mi_rvo (ad : List Nat) (cn : Nat → Nat) : Option Value → Option Value → Prop
  | none, w => w = none
  | some v, w => ∃ x, w = some x ∧ mi_rv ad cn v x
theorem mi_rvo_st {ad : List Nat} {cn : Nat → Nat} {v w : Option Value} {r rw' : List Value} (h : mi_rvo ad cn v w) (hr : mi_rl ad cn r rw') : mi_rl ad cn (v.toList ++ r) (w.toList ++ rw') := by
  cases v with
  | none =>
    have h' : w = none := h
    subst h'
    exact hr
  | some v =>
    obtain ⟨x, rfl, hx⟩ := h
    exact ⟨x, _, rfl, hx, hr⟩
def mi_Af (ad : List Nat) (sz : Nat) : Nat → Prop := fun q => q ∈ ad ∨ sz ≤ q
def mi_Pc (X : mi_X) (cn : Nat → Nat) (ids : Nat → ClassId) (D : va_G) (sz0 : Nat) (ad : List Nat) (h : mi_H) (sz : Nat) (aw : List Value) : Array Value → State → Prop := va_Pc aw (fun U => U.heap.size = sz ∧ sz0 ≤ sz ∧ (∀ a ∈ ad, sz0 ≤ a) ∧ mi_Gl X cn ids D sz0 U ∧ mi_Wc D ids cn ad h U.heap)
def mi_Qn (cn : Nat → Nat) (ids : Nat → ClassId) (D : va_G) (ad : List Nat) (sz : Nat) (v : Option Value) (h' : mi_H) : Array Value → State → Outcome → State → Prop := fun _ st oc t => (∃ (ad' : List Nat) (w : Option Value), mi_le ad ad' ∧ oc = .returned w ∧ mi_rvo ad' cn v w ∧ mi_Wc D ids cn ad' h' t.heap ∧ ∀ a ∈ ad', mi_Af ad sz a) ∧ va_F (mi_Af ad sz) st t
def mi_Qx (cn : Nat → Nat) (ids : Nat → ClassId) (D : va_G) (ad : List Nat) (sz : Nat) (x : Nat) (h' : mi_H) : String → State → State → Prop := fun E st t => E = mi_xn x ∧ (∃ ad' : List Nat, mi_le ad ad' ∧ mi_Wc D ids cn ad' h' t.heap ∧ ∀ a ∈ ad', mi_Af ad sz a) ∧ va_F (mi_Af ad sz) st t
def mi_Ws (M : mi_M) : List Cond := mi_hw M :: mi_need
theorem mi_Pc_blind {X : mi_X} {cn : Nat → Nat} {ids : Nat → ClassId} {D : va_G} {sz0 : Nat} {ad : List Nat} {h : mi_H} {sz : Nat} {aw : List Value} : FrameBlind (mi_Pc X cn ids D sz0 ad h sz aw) := fun _ _ _ _ hp => ⟨hp.1, hp.2.1, hp.2.2.1, hp.2.2.2.1, mi_Gl_call hp.2.2.2.2.1, hp.2.2.2.2.2⟩
theorem mi_gW {M : mi_M} (h : M ∈ mi_mt) : GoodIn mi_need (mi_Ws M) := fun w hw => by
  rcases List.mem_cons.mp hw with rfl | hw
  · have := mi_in1 h (List.mem_cons_self (a := mi_hw M))
    exact ⟨this, (mi_gn _ this).2⟩
  · exact mi_gself w hw
section MIC
variable {p : Program} {l : Launch} {e : Env} {R : Room} {s : State} {m : MethodId} {args : Array Value} {below : List Frame} {meth : Method} {c : Code} {H : Heap} {locs : List Loc} {cells slots : Nat} {Q : State → Prop}
variable {pc pc' c' s' d sz0 : Nat} {st st' : List Value} {h h' : mi_H} {ad : List Nat} {cn : Nat → Nat} {ids : Nat → ClassId} {D : va_G} {A : Nat → Prop} {sw : List Value} {ls : Array Slot} {X : mi_X} {M : mi_M}
/-- a method's end, where a contract is owed -/
theorem mi_retQ_ok (F : mi_Fr p l R s m args meth c M d X cn ids D A sz0) {i : Instr} {v : Option Value} (hd : decode (mi_bt M) pc = .ok (i, 1)) (hv : mi_ret M i st = some v) (hs : mi_rl ad cn st sw) {Qc : Array Value → State → Outcome → State → Prop} {free : Addr → Prop}
    (hq : ∀ (w : Option Value) (t : State), mi_rvo ad cn v w → t.heap = H → s.WarmedH t.vm → Qc args s (.returned w) t) (hf : ∀ z ∈ locs, free z.base) : W p l e R s m args below meth c H locs cells slots (MQ below Qc args s cells slots free) (F0 m pc ls sw) := by
  obtain ⟨⟨hx, hb, hr, -, hlocks, -⟩, -⟩ := F
  unfold mi_ret at hv
  split at hv
  next =>
    split at hv
    next ht =>
      cases hv
      have hs' : sw = [] := hs
      subst hs'
      exact W.vret hx hb (hr.trans ht) (fun t ht hW => hq none t rfl ht hW) hf hd hlocks
    next => cases hv
  next x =>
    split at hv
    next ty ht =>
      split at hv
      next hc =>
        cases hv
        simp only [Bool.and_eq_true, decide_eq_true_eq] at hc
        obtain ⟨w, rfl, hs'⟩ := mi_rl_i hs
        have hs'' : w = [] := hs'
        subst hs''
        exact W.zret hx hb (hr.trans ht) hc.1 (fun t ht hW => hq _ t ⟨_, rfl, rfl⟩ ht hW) hf hd hlocks
      next => cases hv
    next => cases hv
  next x =>
    split at hv
    next ht =>
      cases hv
      obtain ⟨w, rfl, hs'⟩ := mi_rl_l hs
      have hs'' : w = [] := hs'
      subst hs''
      exact W.lret hx hb (hr.trans ht) (fun t ht hW => hq _ t ⟨_, rfl, rfl⟩ ht hW) hf hd hlocks
    next => cases hv
  next x =>
    split at hv
    next ht =>
      cases hv
      obtain ⟨w, rfl, hs'⟩ := mi_rl_d hs
      have hs'' : w = [] := hs'
      subst hs''
      exact W.dret hx hb (hr.trans ht) (fun t ht hW => hq _ t ⟨_, rfl, rfl⟩ ht hW) hf hd hlocks
    next => cases hv
  next => cases hv
theorem mi_ml_in {o idx k : Nat} {M' : mi_M} (ho : o < mi_no) (hf : mi_lk (mi_ml o) idx = some k) (hM' : mi_mt[k]? = some M') : Cond.methodLink (mi_on o) idx (mi_y M') ∈ mi_need := by
  have h1 : mi_mlw o (idx, k) ∈ mi_need := mi_in2 ho (List.mem_append_right _ (List.mem_append_left _ (List.mem_map.mpr ⟨_, mi_lk_mem hf, rfl⟩)))
  have hk : k < mi_mt.length := (List.getElem?_eq_some_iff.mp hM').1
  have hl : mi_mt.length < 1000000 := by decide +kernel
  unfold mi_mlw at h1
  rw [if_neg (show ¬ ((idx, k) : Nat × Nat).2 = 1000000 by show ¬ k = _; omega), if_neg (show ¬ ((idx, k) : Nat × Nat).2 = 1000001 by show ¬ k = _; omega), if_neg (show ¬ ((idx, k) : Nat × Nat).2 = 1000002 by show ¬ k = _; omega), if_neg (show ¬ ((idx, k) : Nat × Nat).2 = 1000003 by show ¬ k = _; omega), show mi_mt[((idx, k) : Nat × Nat).2]? = some M' from hM'] at h1
  exact h1
theorem mi_nm_in {o idx k : Nat} {M' : mi_M} (ho : o < mi_no) (hf : mi_lk (mi_nm o) idx = some k) (hM' : mi_mt[k]? = some M') : Cond.methodLinkNest (mi_on o) idx (mi_y M') "TypeLoom" ∈ mi_bad := by
  have h1 : mi_nmw o (idx, k) ∈ mi_bad := List.mem_append_left _ (List.mem_flatMap.mpr ⟨o, List.mem_range.mpr ho, List.mem_append_right _ (List.mem_map.mpr ⟨_, mi_lk_mem hf, rfl⟩)⟩)
  unfold mi_nmw at h1
  rw [show mi_mt[((idx, k) : Nat × Nat).2]? = some M' from hM'] at h1
  exact h1
/-- the three calls that need no walk -/
theorem mi_easy_ok (hM : mi_mok M = true) (F : mi_Fr p l R s m args meth c M (d + 1) X cn ids D A sz0) {i : Instr} (hd : decode (mi_bt M) pc = .ok (i, 3)) (hls : ls.size = mi_nL M) (hRc : cells ≤ R.cells) (hRs : slots ≤ R.slots) (hh : mi_easy M i st = some st')
    (hw : mi_Wd D ids cn A s ad h H locs) (hs : mi_rl ad cn st sw) (kk : mi_KH p l e R s m args below meth c Q D ids cn A ls ad (pc + 3) st' h cells slots) : W p l e R s m args below meth c H locs cells slots Q (F0 m pc ls sw) := by
  obtain ⟨⟨hx, hb, -, hml, -, -, -, hown⟩, hts, -, -, -, -, hRf, hRl, -⟩ := F
  have ho := (mi_mok_spec hM).2.2.2.2.2.1
  have lnk : ∀ {idx k : Nat}, mi_lk (mi_ml (mi_ow M)) idx = some k → mi_mlw (mi_ow M) (idx, k) ∈ mi_need := fun hf => mi_in2 ho (List.mem_append_right _ (List.mem_append_left _ (List.mem_map.mpr ⟨_, mi_lk_mem hf, rfl⟩)))
  unfold mi_easy at hh
  split at hh
  next idx k r =>
    split at hh
    next hc =>
      cases hh
      obtain ⟨_, rw', rfl, ⟨a, ha, rfl⟩, hr⟩ := hs
      have h1 : (Cond.methodLink (mi_on (mi_ow M)) idx objectInit).before args s = true := hts _ (lnk hc.1)
      refine W.objInit hx hb hown h1 (hts _ (mi_in3 (List.mem_of_getElem? (i := 5) rfl))) (hts _ (mi_in3 (List.mem_of_getElem? (i := 4) rfl))) rfl (by rw [hml]; exact hls) rfl hd (by omega) ?_ (kk _ _ _ _ (mi_le_rf _) hw hr)
      show 2 * 0 + _ + 12 ≤ _
      have h2 := mi_rl_cat hr
      have h3 := hc.2
      omega
    next => cases hh
  next idx y x r =>
    split at hh
    next hc =>
      obtain ⟨w, rfl, hr⟩ := mi_rl_ii hs
      have h2 := mi_rl_cat hr
      have hini : (Cond.initialized "java/lang/Math").before args s = true := hts _ (mi_in3 (List.mem_of_getElem? (i := 9) rfl))
      split at hh
      next hf =>
        cases hh
        have h1 : (Cond.methodLink (mi_on (mi_ow M)) idx Lib.Math.max.name).before args s = true := hts _ (lnk hf)
        exact va_mmax hx hb (hml.trans hls.symm) hown h1 (hts _ (mi_in3 (List.mem_of_getElem? (i := 10) rfl))) hini (hts _ (mi_in3 (List.mem_of_getElem? (i := 11) rfl))) (by omega) (by omega) hRc hRs hd (kk _ _ _ _ (mi_le_rf _) hw (mi_rl_c rfl hr))
      next hf =>
        cases hh
        have h1 : (Cond.methodLink (mi_on (mi_ow M)) idx Lib.Math.min.name).before args s = true := hts _ (lnk hf)
        exact va_mmin hx hb (hml.trans hls.symm) hown h1 (hts _ (mi_in3 (List.mem_of_getElem? (i := 12) rfl))) hini (hts _ (mi_in3 (List.mem_of_getElem? (i := 13) rfl))) (by omega) (by omega) hRc hRs hd (kk _ _ _ _ (mi_le_rf _) hw (mi_rl_c rfl hr))
      next => cases hh
    next => cases hh
  next => cases hh
/-- behind a call that returned -/
theorem mi_callm {mc ms sz : Nat} {v : Option Value} {a : Array Value} {rest : List Value} {free : Addr → Prop} (hr : va_Run p l e R s m args below meth c H locs cells slots mc ms (F0 m pc ls sw) rest (mi_Qn cn ids D ad sz v h' a) free) (hS : va_S A s.heap H locs) (hA : ∀ q, mi_Af ad sz q → A q) (hf : ∀ q, free q → A q)
    (kk : ∀ (w : Option Value) (ad' : List Nat) (H1 : Heap) (locs1 : List Loc), mi_le ad ad' → mi_rvo ad' cn v w → mi_Wd D ids cn A s ad' h' H1 locs1 → W p l e R s m args below meth c H1 locs1 (cells + mc) (slots + ms) Q (F0 m (pc + 3) ls (w.toList ++ rest))) : W p l e R s m args below meth c H locs cells slots Q (F0 m pc ls sw) := by
  intro T hT X'
  obtain ⟨v0, st₀, t, T', L, h0, X2, hL, e1, e2, ⟨⟨ad', w, hle, ho, hv, hc, hin⟩, hF⟩, st⟩ := hr T hT X'
  cases ho
  obtain ⟨k1, k2, k3⟩ := vx_keep h0 e1 hS (fun q _ hq => hA q hq) hf hL hF
  obtain ⟨t2, a1, b1⟩ := kk _ ad' T'.heap (locs ++ L) hle hv (mi_Wd_of (by rw [e1]; exact hc) (fun a ha => hA a (hin a ha)) k3) T' rfl X2
  exact ⟨t2, st t2 a1, b1⟩
end MIC
end
section
/-! ===== a method's contract out of its run, second half ===== -/
theorem mi_ald_le {t q pc' c s c' s' : Nat} {st st' : List Value} {h h' : mi_H} (hh : mi_ald t q st h c s = some (pc', st', h', c', s')) : c ≤ c' ∧ s ≤ s' := by
  unfold mi_ald at hh
  repeat' split at hh
  all_goals (first | (cases hh; done) | (cases hh; exact ⟨Nat.le_refl _, Nat.le_refl _⟩))
theorem mi_ast_le {t q pc' c s c' s' : Nat} {f : Int32 → Int32} {st st' : List Value} {h h' : mi_H} (hh : mi_ast t f q st h c s = some (pc', st', h', c', s')) : c ≤ c' ∧ s ≤ s' := by
  unfold mi_ast at hh
  repeat' split at hh
  all_goals (first | (cases hh; done) | (cases hh; exact ⟨Nat.le_refl _, Nat.le_refl _⟩))
theorem mi_mem_le {X : mi_X} {M : mi_M} {i : Instr} {pc pc' c s c' s' : Nat} {st st' : List Value} {h h' : mi_H} (hh : mi_mem X M i pc st h c s = some (pc', st', h', c', s')) : c ≤ c' ∧ s ≤ s' := by
  unfold mi_mem at hh
  split at hh
  all_goals (try simp only [mi_getf, mi_gf, mi_gs, mi_putf, mi_pf, mi_sld, mi_bld, mi_lald, mi_last, mi_alen, mi_qld, mi_nar, mi_new, mi_ldc, mi_ldc2, mi_gets] at hh)
  all_goals (first | exact mi_ast_le hh | exact mi_ald_le hh | skip)
  all_goals (repeat' split at hh)
  all_goals (first | (cases hh; done) | (cases hh; exact ⟨Nat.le_refl _, Nat.le_refl _⟩) | (cases hh; exact ⟨Nat.le_add_right _ _, Nat.le_add_right _ _⟩) | exact mi_ast_le hh | exact mi_ald_le hh | (cases hh; first | exact mi_ald_le (by assumption) | exact mi_ast_le (by assumption)))
/-- what is owed at the end of a run: r is its result -/
def mi_End (p : Program) (l : Launch) (e : Env) (R : Room) (s : State) (m : MethodId) (args : Array Value) (below : List Frame) (meth : Method) (c : Code) (Q : State → Prop) (M : mi_M) (cn : Nat → Nat) (ids : Nat → ClassId) (D : va_G) (A : Nat → Prop) (ad : List Nat) (r : mi_Z) : Prop := match r.1 with
  | .inl v => ∀ (H' : Heap) (locs' : List Loc) (ad' : List Nat) (pc' : Nat) (ls' : Array Slot) (sw' : List Value) (i : Instr) (st' : List Value), mi_le ad ad' → decode (mi_bt M) pc' = .ok (i, 1) → mi_ret M i st' = some v → mi_rl ad' cn st' sw' → mi_Wd D ids cn A s ad' r.2.1 H' locs' → W p l e R s m args below meth c H' locs' r.2.2.1 r.2.2.2 Q (F0 m pc' ls' sw')
  | .inr x => ∃ (Qc : Array Value → State → Outcome → State → Prop) (XC : String → State → State → Prop) (free : Addr → Prop), Q = vx_MQ below Qc XC args s r.2.2.1 r.2.2.2 free ∧ (∀ q, A q → free q) ∧ ∀ (t : State) (ad' : List Nat), mi_le ad ad' → mi_Wc D ids cn ad' r.2.1 t.heap → (∀ a ∈ ad', A a) → va_F A s t → XC (mi_xn x) s t
theorem mi_End_mono {p : Program} {l : Launch} {e : Env} {R : Room} {s : State} {m : MethodId} {args : Array Value} {below : List Frame} {meth : Method} {c : Code} {Q : State → Prop} {M : mi_M} {cn : Nat → Nat} {ids : Nat → ClassId} {D : va_G} {A : Nat → Prop} {ad ad' : List Nat} {r : mi_Z} (hle : mi_le ad ad') (h : mi_End p l e R s m args below meth c Q M cn ids D A ad r) : mi_End p l e R s m args below meth c Q M cn ids D A ad' r := by
  obtain ⟨r1, r2⟩ := r
  cases r1 with
  | inl v => exact fun H' locs' ad1 pc' ls' sw' i st' hle1 => h H' locs' ad1 pc' ls' sw' i st' (mi_le_tr hle hle1)
  | inr x =>
    obtain ⟨Qc, XC, free, h1, h2, h3⟩ := h
    exact ⟨Qc, XC, free, h1, h2, fun t ad1 hle1 => h3 t ad1 (mi_le_tr hle hle1)⟩
/-- a run is the machine's: for runs of n instructions -/
def mi_S (X : mi_X) (n : Nat) : Prop := ∀ (d : Nat) (M : mi_M) (pc : Nat) (la : mi_L) (st : List Value) (h : mi_H) (cells slots : Nat) (r : mi_Z), mi_mok M = true → mi_run X n d M pc la st h cells slots = some r → (cells ≤ r.2.2.1 ∧ slots ≤ r.2.2.2) ∧
  ∀ (p : Program) (l : Launch) (e : Env) (R : Room) (s : State) (m : MethodId) (args : Array Value) (below : List Frame) (meth : Method) (c : Code) (H : Heap) (locs : List Loc) (Q : State → Prop) (cn : Nat → Nat) (ids : Nat → ClassId) (D : va_G) (A : Nat → Prop) (sz0 : Nat) (ad : List Nat) (lv : mi_L) (sw : List Value) (ls : Array Slot),
    mi_Fr p l R s m args meth c M d X cn ids D A sz0 → r.2.2.1 ≤ R.cells → r.2.2.2 ≤ R.slots → lv_has ls (mi_nL M) lv → mi_rn ad cn la lv → mi_Wd D ids cn A s ad h H locs → mi_rl ad cn st sw → mi_End p l e R s m args below meth c Q M cn ids D A ad r →
    W p l e R s m args below meth c H locs cells slots Q (F0 m pc ls sw)
section MIM
variable {l : Launch} {d sz0 sz : Nat} {h h' : mi_H} {ad : List Nat} {cn : Nat → Nat} {ids : Nat → ClassId} {D : va_G} {X : mi_X} {M : mi_M} {av aw : List Value}
theorem mi_FrOf {p : Program} {e : Env} {s s₁ : State} {m : MethodId} {args : Array Value} {below : List Frame} {meth : Method} {c : Code} {rm : Room} (hM : M ∈ mi_mt) (hst : l.stackTraces = false) (hrf : d ≤ rm.frames) (hrl : 40 * d ≤ rm.locals)
    (B : BodyLoose p l (mi_y M) (headSpec (mi_Ws M) rm) (mi_bt M) (mi_nL M) (mi_rt M) e s m args below meth c s₁) (hml : c.maxLocals = mi_nL M) (htab : c.exceptionTable.toList = tableOf (mi_hd M)) (hv : mi_Pc X cn ids D sz0 ad h sz aw args s) : mi_Fr p l (headSpec (mi_Ws M) rm).room s m args meth c M d X cn ids D (mi_Af ad sz) sz0 := by
  obtain ⟨k1, k2, k3, k4, k5, k6, k7, k8, -⟩ := mi_mok_spec (mi_ok hM)
  obtain ⟨-, hsz, hz0, had, hGl, -⟩ := hv
  have hown := findClass_of_methodNamed B.named
  rw [k5] at hown
  refine ⟨⟨B.exec, B.bytes, B.returns, hml, B.notSynchronized, fun q => (name_of_methodNamed B.named B.method).1.trans (k8 q), fun _ => htab, hown⟩, fun w hw => atoms_spec (ws := mi_Ws M) B.pre w (List.mem_cons_of_mem _ hw), fun q hq => Or.inr (by omega), fun q hq => ?_, by omega, hGl, hrf, hrl, hst⟩
  rcases hq with hq | hq
  · exact had q hq
  · omega
theorem mi_W0 {n : Nat} (ih : mi_S X n) {p : Program} {e : Env} {s : State} {m : MethodId} {args : Array Value} {below : List Frame} {meth : Method} {c : Code} {R : Room} {Q : State → Prop} (hM : M ∈ mi_mt) (F : mi_Fr p l R s m args meth c M d X cn ids D (mi_Af ad sz) sz0) (hv : mi_Pc X cn ids D sz0 ad h sz aw args s)
    {r : mi_Z} (hrun : mi_run X n d M 0 (lv_args 0 av) [] h 0 0 = some r) (hargs : mi_rl ad cn av aw) (hcat : mi_cat av ≤ mi_nL M) (hc : r.2.2.1 ≤ R.cells) (hs : r.2.2.2 ≤ R.slots) (hend : mi_End p l e R s m args below meth c Q M cn ids D (mi_Af ad sz) ad r) : W p l e R s m args below meth c s.heap [] 0 0 Q (entryFrame m args (mi_nL M)) := by
  obtain ⟨hav, -, -, -, -, hWc⟩ := hv
  subst hav
  rw [lg_entry_eq]
  have hl := lv_entry aw (n := mi_nL M) (by rw [mi_sl_len, mi_rl_cat hargs]; exact hcat)
  exact (ih d M 0 _ [] h 0 0 r (mi_ok hM) hrun).2 p l e R s m _ below meth c s.heap [] Q cn ids D _ sz0 ad _ [] _ F hc hs hl (mi_args_r 0 hargs) (mi_Wd_of hWc (fun a ha => Or.inl ha) va_S.rf) rfl hend
theorem mi_met {n : Nat} (ih : mi_S X n) (hM : M ∈ mi_mt) (hst : l.stackTraces = false) {v : Option Value} {mc ms : Nat} (hrun : mi_run X n d M 0 (lv_args 0 av) [] h 0 0 = some (.inl v, h', mc, ms)) (hargs : mi_rl ad cn av aw) (hcat : mi_cat av ≤ mi_nL M) :
    Met l (mi_y M) (mi_Ws M) { frames := d, cells := mc, slots := ms, locals := 40 * d } (mi_Pc X cn ids D sz0 ad h sz aw) (mi_Qn cn ids D ad sz v h') mc ms (mi_Af ad sz) := by
  have hpl := (mi_mok_spec (mi_ok hM)).1
  have hkd := (mi_mok_spec (mi_ok hM)).2.2.2.2.2.2.2.2.2.2
  have body : ∀ (p : Program) (e : Env) (s : State) (m : MethodId) (args : Array Value) (below : List Frame) (meth : Method) (c : Code) (s₁ : State), BodyLoose p l (mi_y M) (headSpec (mi_Ws M) { frames := d, cells := mc, slots := ms, locals := 40 * d }) (mi_bt M) (mi_nL M) (mi_rt M) e s m args below meth c s₁ → c.maxLocals = mi_nL M → c.exceptionTable.toList = tableOf (mi_hd M) → mi_Pc X cn ids D sz0 ad h sz aw args s →
      W p l e (headSpec (mi_Ws M) { frames := d, cells := mc, slots := ms, locals := 40 * d }).room s m args below meth c s.heap [] 0 0 (MQ below (mi_Qn cn ids D ad sz v h') args s mc ms (mi_Af ad sz)) (entryFrame m args (mi_nL M)) := by
    intro p e s m args below meth c s₁ B hml htab hv
    have F := mi_FrOf (d := d) hM hst (Nat.le_refl _) (Nat.le_refl _) B hml htab hv
    refine mi_W0 ih hM F hv hrun hargs hcat (Nat.le_refl _) (Nat.le_refl _) ?_
    intro H' locs' ad' pc' ls' sw' i st' hle hd hr hs hw
    obtain ⟨hWc, hin, hS⟩ := mi_Wc_of hw
    exact mi_retQ_ok F hd hr hs (fun w t hw1 ht hW => ⟨⟨ad', w, hle, rfl, hw1, by rw [ht]; exact hWc, hin⟩, hS.F ht⟩) hS.2.2
  by_cases hk : mi_kd M = 3
  · refine va_MetW (hh := mi_hd M) (cc := mi_bt M) (maxL := mi_nL M) (ret := mi_rt M) (ws' := mi_need) hpl (by unfold mi_Ws mi_hw; rw [if_pos hk]) ?_
    intro p e s m args below meth c s₁ B hml hv
    have hcw : (Cond.codeWith (mi_y M) (mi_bt M) (mi_nL M) (mi_rt M) (mi_hd M)).before args s = true := by
      have h1 := atoms_spec (ws := mi_Ws M) B.pre (mi_hw M) List.mem_cons_self
      unfold mi_hw at h1
      rw [if_pos hk] at h1
      exact h1
    exact body p e s m args below meth c s₁ B hml (vx_table (x := mi_y M) B hcw) hv
  · refine Met.ofW (cc := mi_bt M) (maxL := mi_nL M) (ret := mi_rt M) (ws' := mi_need) hpl (by unfold mi_Ws mi_hw; rw [if_neg hk]) ?_
    intro p e s m args below meth c s₁ B hml hv
    have hcw : (Cond.code (mi_y M) (mi_bt M) (mi_nL M) (mi_rt M)).before args s = true := by
      have h1 := atoms_spec (ws := mi_Ws M) B.pre (mi_hw M) List.mem_cons_self
      unfold mi_hw at h1
      rw [if_neg hk] at h1
      exact h1
    have ht : c.exceptionTable.toList = tableOf (mi_hd M) := by
      obtain ⟨meth9, c9, h1, h2, -, -, -, -, h7, -⟩ := Cond.code_spec B.named hcw
      cases Option.some.inj (h1.symm.trans B.method)
      cases Option.some.inj (h2.symm.trans (Stand.of_body B).code)
      rw [Array.isEmpty_iff.mp h7, hkd.resolve_left hk]
      rfl
    exact body p e s m args below meth c s₁ B hml ht hv
end MIM
end
section
/-! ===== the calls themselves ===== -/
section MIX
variable {l : Launch} {d sz0 sz : Nat} {h h' : mi_H} {ad : List Nat} {cn : Nat → Nat} {ids : Nat → ClassId} {D : va_G} {X : mi_X} {M : mi_M} {av aw : List Value}
theorem mi_metx {n : Nat} (ih : mi_S X n) (hM : M ∈ mi_mt) (hst : l.stackTraces = false) (hk : mi_kd M = 1) {x : Nat} {mc ms : Nat} (hrun : mi_run X n d M 0 (lv_args 0 av) [] h 0 0 = some (.inr x, h', mc, ms)) (hargs : mi_rl ad cn av aw) (hcat : mi_cat av ≤ mi_nL M) :
    vx_Met l (mi_y M) (mi_Ws M) { frames := d, cells := mc, slots := ms, locals := 40 * d } (mi_Pc X cn ids D sz0 ad h sz aw) (fun _ _ _ _ => False) (mi_Qx cn ids D ad sz x h') mc ms (mi_Af ad sz) := by
  have hpl := (mi_mok_spec (mi_ok hM)).1
  have hkd := (mi_mok_spec (mi_ok hM)).2.2.2.2.2.2.2.2.2.2
  have hk3 : ¬ mi_kd M = 3 := by omega
  refine vx_ofW (cc := mi_bt M) (maxL := mi_nL M) (ret := mi_rt M) (ws' := mi_need) hpl (by unfold mi_Ws mi_hw; rw [if_neg hk3]) ?_
  intro p e s m args below meth c s₁ B hml htab hv
  have ht : c.exceptionTable.toList = tableOf (mi_hd M) := by
    rw [List.eq_nil_iff_forall_not_mem.mpr (fun a ha => htab a ha), hkd.resolve_left hk3]
    rfl
  have F := mi_FrOf (d := d) hM hst (Nat.le_refl _) (Nat.le_refl _) B hml ht hv
  refine mi_W0 ih hM F hv hrun hargs hcat (Nat.le_refl _) (Nat.le_refl _) ?_
  exact ⟨fun _ _ _ _ => False, mi_Qx cn ids D ad sz x h', mi_Af ad sz, rfl, fun _ hq => hq, fun t ad' hle hWc hin hF => ⟨rfl, ⟨ad', hle, hWc, hin⟩, hF⟩⟩
end MIX
theorem mi_mw1 {M : mi_M} (hM : M ∈ mi_mt) (hk : mi_kd M = 1) : Cond.instanceMethod (mi_y M) ∈ mi_need ∧ Cond.selects (mi_y M).cls (mi_y M) (mi_y M) ∈ mi_need ∧ Cond.initialized (mi_y M).cls ∈ mi_need := by
  have hn : ¬ (mi_kd M = 0 ∨ mi_kd M = 3) := by omega
  refine ⟨mi_in1 hM ?_, mi_in1 hM ?_, mi_in1 hM ?_⟩ <;> unfold mi_mw <;> rw [if_neg hn, if_pos hk] <;> simp
theorem mi_mw2 {M : mi_M} (hM : M ∈ mi_mt) (hk : mi_kd M = 2) : Cond.instanceMethod (mi_y M) ∈ mi_need ∧ Cond.initialized (mi_y M).cls ∈ mi_need := by
  have hn : ¬ (mi_kd M = 0 ∨ mi_kd M = 3) := by omega
  have hn1 : ¬ mi_kd M = 1 := by omega
  refine ⟨mi_in1 hM ?_, mi_in1 hM ?_⟩ <;> unfold mi_mw <;> rw [if_neg hn, if_neg hn1] <;> simp
theorem mi_mw0 {M : mi_M} (hM : M ∈ mi_mt) (hk : mi_kd M = 0 ∨ mi_kd M = 3) : Cond.static (mi_y M) ∈ mi_need ∧ Cond.initialized (mi_y M).cls ∈ mi_need := by
  have hn1 : ¬ mi_kd M = 1 := by omega
  refine ⟨mi_in1 hM ?_, mi_in1 hM ?_⟩ <;> unfold mi_mw <;> rw [if_pos hk, if_neg hn1] <;> simp
theorem mi_gG {w : Cond} {ws : List Cond} (h1 : w ∈ mi_need) (h2 : GoodIn mi_need ws) : GoodIn mi_need (w :: ws) := fun x hx => by
  rcases List.mem_cons.mp hx with rfl | hx
  · exact ⟨h1, (mi_gn _ h1).2⟩
  · exact h2 x hx
section MIY
variable {p : Program} {l : Launch} {e : Env} {R : Room} {s : State} {m : MethodId} {args : Array Value} {below : List Frame} {meth : Method} {c : Code} {H : Heap} {locs : List Loc} {cells slots : Nat} {Q : State → Prop}
variable {pc d sz0 : Nat} {st : List Value} {h h' : mi_H} {ad : List Nat} {cn : Nat → Nat} {ids : Nat → ClassId} {D : va_G} {A : Nat → Prop} {sw : List Value} {ls : Array Slot} {X : mi_X} {M M' : mi_M}
theorem mi_pre (F : mi_Fr p l R s m args meth c M d X cn ids D A sz0) (hw : mi_Wd D ids cn A s ad h H locs) (aw : List Value) : ∀ U : State, U.heap = H → s.WarmedH U.vm → mi_Pc X cn ids D sz0 ad h H.size aw aw.toArray U := by
  obtain ⟨-, -, -, hA0, hz0, hGl, -⟩ := F
  obtain ⟨hWc, hin, hS⟩ := mi_Wc_of hw
  intro U hU hW
  refine ⟨rfl, by rw [hU], Nat.le_trans hz0 hS.1, fun a ha => hA0 a (hin a ha), mi_Gl_next hW (by rw [hU]; exact hS.1) (fun a ha hn => by rw [hU]; exact hS.2.1 a ha (fun q => hn (hA0 a q))) hGl, by rw [hU]; exact hWc⟩
theorem mi_Af_A (F : mi_Fr p l R s m args meth c M d X cn ids D A sz0) (hw : mi_Wd D ids cn A s ad h H locs) : ∀ q, mi_Af ad H.size q → A q := by
  obtain ⟨-, -, hA, -⟩ := F
  obtain ⟨-, hin, hS⟩ := mi_Wc_of hw
  intro q hq
  rcases hq with hq | hq
  · exact hin q hq
  · exact hA q (Nat.le_trans hS.1 hq)
/-- the receiver's class is the method's -/
theorem mi_recv (F : mi_Fr p l R s m args meth c M d X cn ids D A sz0) (hw : mi_Wd D ids cn A s ad h H locs) {v b : Value} {ow : Nat} (hv : mi_rv ad cn v b) (hr : mi_rc h v ow = true) : ∃ a : Nat, b = .ref a ∧ ∃ cellB : Cell, H[a]? = some cellB ∧ cellB.vm.isStatics = false ∧ s.vm.findClass (mi_on ow) = some cellB.cls := by
  obtain ⟨-, -, -, hA0, -, hGl, -⟩ := F
  obtain ⟨ws, hrw, hP, hD, hS⟩ := hw
  unfold mi_rc at hr
  split at hr
  next k =>
    obtain ⟨a, ha, rfl⟩ := hv
    split at hr
    next x hx =>
      obtain ⟨a', e', g1, g2, gs, rfl, g4⟩ := hrw.2.2 _ _ hx
      cases g1.symm.trans ha
      obtain ⟨q, hq, -⟩ := hP k _ g2
      have hq' : mi_cl[x.1]? = some q := hq
      have hx1 : x.1 = ow := beq_iff_eq.mp hr
      obtain ⟨cell, c1, c2, c3⟩ := va_recv hGl.1 hP hq' g2
      rw [(mi_clok hq').2.2.2.2, hx1] at c3
      exact ⟨_, rfl, cell, c1, c2, c3⟩
    next => cases hr
  next k =>
    have hv' : b = .ref (cn k) := hv
    subst hv'
    simp only [Bool.and_eq_true, beq_iff_eq, decide_eq_true_eq] at hr
    obtain ⟨hk, hkn, rfl⟩ := hr
    have hG : mi_Gc X cn A s s.heap := mi_Gc_nar hA0 hGl.2.1
    obtain ⟨g1, -⟩ := hG.1 (k / 4) hkn
    rw [show 4 * (k / 4) = k by omega] at g1
    obtain ⟨cell, c1, c2, c3, -⟩ := g1.kept hS.2.1
    exact ⟨_, rfl, cell, c1, c2, c3⟩
  next => cases hr
/-- what the machine wants of a call that is found by its link -/
theorem mi_cB (hM : mi_mok M = true) (F : mi_Fr p l R s m args meth c M (d + 1) X cn ids D A sz0) (hM' : M' ∈ mi_mt) (hk3 : ¬ mi_kd M' = 3) {idx : Nat} (hl : Cond.methodLink (mi_on (mi_ow M)) idx (mi_y M') ∈ mi_need) (hini : Cond.initialized (mi_y M').cls ∈ mi_need) (mc ms : Nat) :
    CallB R s args (mi_on (mi_ow M)) idx (mi_y M') (mi_bt M') (mi_nL M') (mi_rt M') (mi_Ws M') { frames := d, cells := mc, slots := ms, locals := 40 * d } mc ms (mi_np M') := by
  obtain ⟨-, hts, -, -, -, -, hRf, hRl, -⟩ := F
  obtain ⟨k1, k2, k3, k4, k5, k6, k7, k8, -⟩ := mi_mok_spec (mi_ok hM')
  refine callB_of (ws' := mi_need) (mi_np M') hts (mi_gW hM') (by unfold mi_Ws mi_hw; rw [if_neg hk3]) rfl rfl (hts _ hini) (hts _ hl) ⟨k2, k3, k4⟩ ⟨hRf, ?_⟩
  show 8 + (mi_nL M' + 11) + 40 * d ≤ R.locals
  omega
theorem mi_fix (F : mi_Fr p l R s m args meth c M d X cn ids D A sz0) : CallFix p m c (mi_bt M) (mi_nL M) s args mi_need (mi_on (mi_ow M)) := ⟨F.1.1, F.1.2.1, F.1.2.2.2.1, F.1.2.2.2.2.2.2.2, F.2.1⟩
theorem mi_room {st : List Value} (hr : mi_rl ad cn st sw) (hc : mi_cat st ≤ 8) {g : JFrame} (hg : g.monitorRoom = 0) : 2 * g.monitorRoom + (sw.map fun v => v.category).sum ≤ 8 := by
  rw [hg, mi_rl_cat hr]
  omega
set_option maxHeartbeats 1000000 in
theorem mi_call_ok {n : Nat} (ih : mi_S X n) (hM : mi_mok M = true) (F : mi_Fr p l R s m args meth c M (d + 1) X cn ids D A sz0) {i : Instr} (hd : decode (mi_bt M) pc = .ok (i, 3)) (hls : ls.size = mi_nL M) {av rest : List Value} (hc : mi_cal M i st h = some (M', av, rest)) (hcat : mi_cat av ≤ mi_nL M') {v : Option Value} {mc ms : Nat}
    (hrun : mi_run X n d M' 0 (lv_args 0 av) [] h 0 0 = some (.inl v, h', mc, ms)) (hRc : cells + mc ≤ R.cells) (hRs : slots + ms ≤ R.slots) (hw : mi_Wd D ids cn A s ad h H locs) (hs : mi_rl ad cn st sw)
    (kk : mi_KH p l e R s m args below meth c Q D ids cn A ls ad (pc + 3) (v.toList ++ rest) h' (cells + mc) (slots + ms)) : W p l e R s m args below meth c H locs cells slots Q (F0 m pc ls sw) := by
  have ho := (mi_mok_spec hM).2.2.2.2.2.1
  have hst : l.stackTraces = false := F.2.2.2.2.2.2.2.2
  have hS := (mi_Wc_of hw).2.2
  have hAf := mi_Af_A F hw
  unfold mi_cal at hc
  split at hc
  next idx =>
    split at hc
    next k hk =>
      split at hc
      next M9 hM9 =>
        split at hc
        next hcond =>
          cases hc
          obtain ⟨hk1, hlt, hct, hrc⟩ := hcond
          have hMm : M' ∈ mi_mt := List.mem_of_getElem? hM9
          obtain ⟨As, b, rw', rfl, hAs, hb, hav, hre⟩ := mi_split _ hs hlt
          obtain ⟨a, rfl, hcell⟩ := mi_recv F hw hb hrc
          obtain ⟨i1, i2, i3⟩ := mi_mw1 hMm hk1
          have hcls : mi_on (mi_ow M') = (mi_y M').cls := (mi_mok_spec (mi_ok hMm)).2.2.2.2.1.symm
          rw [hcls] at hcell
          refine mi_callm (va_runV (mi_fix F) (mi_met (sz := H.size) ih hMm hst hrun hav hcat) ⟨mi_cB hM F hMm (by omega) (mi_ml_in ho hk hM9) i3 mc ms, F.2.1 _ i1, F.2.1 _ i2⟩ ⟨mi_Pc_blind, hcell, mi_pre F hw _⟩ rfl hAs hls rfl (mi_room hre hct rfl) hd ⟨hRc, hRs⟩) hS hAf hAf ?_
          exact fun w ad' H1 locs1 hle hv hw1 => kk _ _ _ _ hle hw1 (mi_rvo_st hv (mi_rl_mono hle hre))
        next => cases hc
      next => cases hc
    next => cases hc
  next idx =>
    split at hc
    next k hk =>
      split at hc
      next M9 hM9 =>
        split at hc
        next hcond =>
          cases hc
          obtain ⟨hk1, hlt, hct⟩ := hcond
          have hMm : M' ∈ mi_mt := List.mem_of_getElem? hM9
          obtain ⟨As, rw', rfl, hAs, hav, hre⟩ := mi_splitS _ hs hlt
          obtain ⟨i1, i3⟩ := mi_mw0 hMm hk1
          have fin : ∀ (w : Option Value) (ad' : List Nat) (H1 : Heap) (locs1 : List Loc), mi_le ad ad' → mi_rvo ad' cn v w → mi_Wd D ids cn A s ad' h' H1 locs1 → W p l e R s m args below meth c H1 locs1 (cells + mc) (slots + ms) Q (F0 m (pc + 3) ls (w.toList ++ rw')) :=
            fun w ad' H1 locs1 hle hv hw1 => kk _ _ _ _ hle hw1 (mi_rvo_st hv (mi_rl_mono hle hre))
          by_cases hk3 : mi_kd M' = 3
          · obtain ⟨k1, k2, k3, k4, k5, k6, k7, k8, -⟩ := mi_mok_spec (mi_ok hMm)
            have hRf : d + 1 ≤ R.frames := F.2.2.2.2.2.2.1
            have hRl : 40 * (d + 1) ≤ R.locals := F.2.2.2.2.2.2.2.1
            have cw : vx_CSW R s args (mi_on (mi_ow M)) idx (mi_y M') (mi_bt M') (mi_nL M') (mi_rt M') (mi_hd M') (mi_Ws M') { frames := d, cells := mc, slots := ms, locals := 40 * d } mc ms (mi_np M') :=
              vx_cwSW (ws' := mi_need) (mi_np M') F.2.1 (mi_gG (mi_ml_in ho hk hM9) (mi_gG i1 (mi_gG i3 (mi_gW hMm)))) (by unfold mi_Ws mi_hw; rw [if_pos hk3]) rfl rfl ⟨k2, k3, k4⟩ ⟨hRf, by show 8 + (mi_nL M' + 11) + 40 * d ≤ R.locals; omega⟩
            exact mi_callm (vx_runSW (mi_fix F) (mi_met (sz := H.size) ih hMm hst hrun hav hcat) cw ⟨mi_Pc_blind, mi_pre F hw _⟩ rfl hAs hls rfl (mi_room hre hct rfl) hd ⟨hRc, hRs⟩) hS hAf hAf fin
          · exact mi_callm (va_runS (mi_fix F) (mi_met (sz := H.size) ih hMm hst hrun hav hcat) ⟨mi_cB hM F hMm hk3 (mi_ml_in ho hk hM9) i3 mc ms, F.2.1 _ i1⟩ ⟨mi_Pc_blind, mi_pre F hw _⟩ rfl hAs hls rfl (mi_room hre hct rfl) hd ⟨hRc, hRs⟩) hS hAf hAf fin
        next => cases hc
      next => cases hc
    next => cases hc
  next idx =>
    split at hc
    next k hk =>
      split at hc
      next M9 hM9 =>
        split at hc
        next hcond =>
          cases hc
          obtain ⟨hk1, hrt, hlt, hct, hrc⟩ := hcond
          have hMm : M' ∈ mi_mt := List.mem_of_getElem? hM9
          obtain ⟨As, b, rw', rfl, hAs, hb, hav, hre⟩ := mi_split _ hs hlt
          obtain ⟨k1, k2, k3, k4, k5, k6, k7, k8, -⟩ := mi_mok_spec (mi_ok hMm)
          have hRf : d + 1 ≤ R.frames := F.2.2.2.2.2.2.1
          have hRl : 40 * (d + 1) ≤ R.locals := F.2.2.2.2.2.2.2.1
          obtain ⟨i1, i3⟩ := mi_mw2 hMm hk1
          have hbr : ∃ a : Nat, b = .ref a := by
            generalize st.getD (mi_np M') .null = v0 at hb hrc
            cases v0 <;> first | (exact absurd hrc Bool.false_ne_true) | (obtain ⟨a, -, e⟩ := hb; exact ⟨a, e⟩)
          obtain ⟨a, rfl⟩ := hbr
          have hk3 : ¬ mi_kd M' = 3 := by omega
          have fin : ∀ (w : Option Value) (ad' : List Nat) (H1 : Heap) (locs1 : List Loc), mi_le ad ad' → mi_rvo ad' cn v w → mi_Wd D ids cn A s ad' h' H1 locs1 → W p l e R s m args below meth c H1 locs1 (cells + mc) (slots + ms) Q (F0 m (pc + 3) ls (w.toList ++ rw')) :=
            fun w ad' H1 locs1 hle hv hw1 => kk _ _ _ _ hle hw1 (mi_rvo_st hv (mi_rl_mono hle hre))
          have hmet := mi_met (sz0 := sz0) (ids := ids) (D := D) (sz := H.size) ih hMm hst hrun hav hcat
          split at hk
          next k' hk' =>
            cases hk
            have hB := mi_cB hM F hMm hk3 (mi_ml_in ho hk' hM9) i3 mc ms
            rw [hrt] at hB
            exact mi_callm (va_runI (mi_fix F) hmet ⟨hB, k8 hk1, F.2.1 _ i1⟩ ⟨mi_Pc_blind, mi_pre F hw _⟩ rfl hAs hls rfl (mi_room hre hct rfl) hd ⟨hRc, hRs⟩) hS hAf hAf fin
          next =>
            have hbad := F.2.2.2.2.2.1.2.2.2.1 _ (mi_nm_in ho hk hM9)
            have cw : va_CN R s args (mi_on (mi_ow M)) idx (mi_y M') "TypeLoom" (mi_bt M') (mi_nL M') none (mi_Ws M') { frames := d, cells := mc, slots := ms, locals := 40 * d } mc ms (mi_np M') :=
              va_cnB (ws' := mi_need) (mi_np M') F.2.1 (mi_gW hMm) (by unfold mi_Ws mi_hw; rw [if_neg hk3, hrt]) rfl rfl hbad (F.2.1 _ i3) ⟨k2, k3, k4⟩ ⟨hRf, by show 8 + (mi_nL M' + 11) + 40 * d ≤ R.locals; omega⟩
            exact mi_callm (va_runIN (mi_fix F) hmet ⟨cw, k8 hk1, F.2.1 _ i1⟩ ⟨mi_Pc_blind, mi_pre F hw _⟩ rfl hAs hls rfl (mi_room hre hct rfl) hd ⟨hRc, hRs⟩) hS hAf hAf fin
        next => cases hc
      next => cases hc
    next => cases hc
  next => cases hc
end MIY
end
section
/-! ===== exceptions; and that a run is the machine's ===== -/
theorem mi_xs_ot : ∀ q ∈ mi_xs, (vx_atS "TypeLoom" q.2 (mi_xn q.1) mi_xc).all vx_ot = true := by decide +kernel
theorem mi_xfit : ∀ x, x < 3 → Bundle.fit (mi_xn x) = true := by decide +kernel
theorem mi_xcfit : ∀ n ∈ mi_xc, Bundle.fit n = true := by decide +kernel
theorem mi_xs_all : ∀ x, x < 3 → ∃ q ∈ mi_xs, q.1 = x := by decide +kernel
theorem mi_xl_ok : ∀ o, o < mi_no → ∀ x ∈ mi_xl o, x.1 ≠ 0 ∧ x.2 < 3 := by decide +kernel
theorem mi_xl_in {o idx x : Nat} (ho : o < mi_no) (hf : mi_lk (mi_xl o) idx = some x) : Cond.classLink (mi_on o) idx (mi_xn x) ∈ mi_need :=
  mi_in2 ho (List.mem_append_right _ (List.mem_append_right _ (List.mem_append_right _ (List.mem_append_left _ (List.mem_map.mpr ⟨_, mi_lk_mem hf, rfl⟩)))))
theorem mi_xini {x : Nat} (h : x < 3) : Cond.initialized (mi_xn x) ∈ mi_need := by
  match x, h with
  | 0, _ => exact mi_in3 (List.mem_of_getElem? (i := 6) rfl)
  | 1, _ => exact mi_in3 (List.mem_of_getElem? (i := 7) rfl)
  | 2, _ => exact mi_in3 (List.mem_of_getElem? (i := 8) rfl)
theorem mi_fnd_ok {pc : Nat} {q : Nat × Nat × Nat × Nat} : ∀ {l : List (Nat × Nat × Nat × Nat)}, mi_fnd l pc = some q → ∃ (as bs : List (Nat × Nat × Nat × Nat)), l = as ++ q :: bs ∧ (decide (q.1 ≤ pc) && decide (pc < q.2.1)) = true ∧ ∀ a ∈ as, (decide (a.1 ≤ pc) && decide (pc < a.2.1)) = false
  | [], h => by cases h
  | z :: l, h => by
    unfold mi_fnd at h
    cases hz : (decide (z.1 ≤ pc) && decide (pc < z.2.1)) with
    | true =>
      rw [if_pos hz] at h
      cases h
      exact ⟨[], l, rfl, hz, fun _ ha => nomatch ha⟩
    | false =>
      rw [if_neg (by rw [hz]; exact Bool.false_ne_true)] at h
      obtain ⟨as, bs, h1, h2, h3⟩ := mi_fnd_ok h
      refine ⟨z :: as, bs, by rw [h1]; rfl, h2, fun a ha => ?_⟩
      rcases List.mem_cons.mp ha with rfl | ha
      · exact hz
      · exact h3 a ha
section MIT
variable {p : Program} {l : Launch} {e : Env} {R : Room} {s : State} {m : MethodId} {args : Array Value} {below : List Frame} {meth : Method} {c : Code} {H : Heap} {locs : List Loc} {cells slots : Nat} {Q : State → Prop}
variable {pc d sz0 : Nat} {st : List Value} {h h' : mi_H} {ad : List Nat} {cn : Nat → Nat} {ids : Nat → ClassId} {D : va_G} {A : Nat → Prop} {sw : List Value} {ls : Array Slot} {X : mi_X} {M M' : mi_M}
theorem mi_hat (F : mi_Fr p l R s m args meth c M d X cn ids D A sz0) {q : Nat × Nat} (hq : q ∈ mi_xs) : ∀ w ∈ vx_atS "TypeLoom" q.2 (mi_xn q.1) mi_xc, w.before args s = true := by
  intro w hw
  have hbad := F.2.2.2.2.2.1.2.2.2.1
  cases hg : goodWord w with
  | true => exact F.2.1 w (mi_in4 (List.mem_flatMap.mpr ⟨q, hq, List.mem_filter.mpr ⟨hw, hg⟩⟩))
  | false =>
    have hb : w ∈ mi_bad := List.mem_append_right _ (List.mem_flatMap.mpr ⟨q, hq, List.mem_filter.mpr ⟨hw, by rw [hg]; rfl⟩⟩)
    exact va_Nw.use (mi_bw_on (mi_bad_bw w hb)) (hbad w hb)
theorem mi_throw_ok (hM : mi_mok M = true) (F : mi_Fr p l R s m args meth c M d X cn ids D A sz0) {t : Nat × Nat × Nat × Nat × Bool} (ht : mi_lk (mi_th M) pc = some t) (hd8 : 8 ≤ d) (hct : mi_cat st ≤ 8) (hls : ls.size = mi_nL M) (hRc : cells + 1 ≤ R.cells) (hRs : slots + 6 ≤ R.slots) (hw : mi_Wd D ids cn A s ad h H locs) (hs : mi_rl ad cn st sw)
    {Qc : Array Value → State → Outcome → State → Prop} {XC : String → State → State → Prop} {free : Addr → Prop} (hfree : ∀ q, A q → free q) (hXC : ∀ (t9 : State) (ad' : List Nat), mi_le ad ad' → mi_Wc D ids cn ad' h t9.heap → (∀ a ∈ ad', A a) → va_F A s t9 → XC (mi_xn t.1) s t9) :
    W p l e R s m args below meth c H locs cells slots (vx_MQ below Qc XC args s (cells + 1) (slots + 6) free) (F0 m pc ls sw) := by
  obtain ⟨k1, k2, k3, k4, k5, k6, k7, k8, k9, k10, k11⟩ := mi_mok_spec hM
  obtain ⟨t0, t3, t4, t6, t9, tc, tx, tk, tl, tlt, i, ti, -⟩ := k10 (pc, t) (mi_lk_mem ht)
  have hown := F.1.2.2.2.2.2.2.2
  have hcls : mi_on (mi_ow M) = "TypeLoom" := k5.symm.trans tc
  rw [hcls] at hown
  have hlink := F.2.1 _ (mi_xl_in k6 tl)
  rw [hcls] at hlink
  obtain ⟨tx9, hstr⟩ := mi_str k6 F.2.2.2.2.2.1.2.2.1 ti
  rw [hcls] at hstr
  have hot := mi_xs_ot _ tx
  have hA0 := F.2.2.2.1
  obtain ⟨-, -, -, -, hU, hN⟩ := F.2.2.2.2.2.1
  obtain ⟨ws, hrw, hP, hD, hS⟩ := hw
  have hRf := F.2.2.2.2.2.2.1
  have hRl := F.2.2.2.2.2.2.2.1
  have hcat := mi_rl_cat hs
  have hin : ∀ a ∈ ad, A a := (mi_Wc_of (show mi_Wd D ids cn A s ad h H locs from ⟨ws, hrw, hP, hD, hS⟩)).2.1
  refine vx_throwS (own := "TypeLoom") (cls := mi_xn t.1) (text := tx9) (names := mi_xc) (ik := t.2.1) (is := t.2.2.1) (ic := t.2.2.2.1) (sa := cn (4 * i)) (A := A) F.1.1 F.1.2.1 F.2.2.2.2.2.2.2.2 hown (mi_xfit _ tlt) mi_xcfit hlink (F.2.1 _ (mi_xini tlt)) hstr (mi_hat F tx) ?_ (hU.narrow hA0) (hN.narrow hA0) hS (hls.trans F.1.2.2.2.1.symm) t0 t3 t4 t6 t9 ?_ ?_ ?_ hRc hRs F.1.2.2.2.2.1 ?_ (fun z hz => hfree _ (hS.2.2 z hz)) (Nat.le_refl _) (Nat.le_refl _)
  · intro w hw
    rcases List.mem_cons.mp hw with rfl | hw
    · rfl
    · rcases List.mem_cons.mp hw with rfl | hw
      · rfl
      · exact List.all_eq_true.mp hot w hw
  · intro x hx
    rw [F.1.2.2.2.2.2.2.1 (by omega), k11.resolve_left (by omega)] at hx
    cases hx
  · show 2 + 3 < R.frames
    omega
  · show (sw.map fun v => v.category).sum + (13 * (2 + 1) + 43) ≤ R.locals
    omega
  · intro t9 hal hz hk
    refine hXC t9 ad (mi_le_rf _) ⟨ws, hrw, hP.kept (fun k q hq => hk q.1 ((hP k q hq).lt)), hD.1, fun _ _ _ => trivial⟩ hin ⟨Nat.le_trans hS.1 hz, fun q h1 h2 => (hk q (Nat.lt_of_lt_of_le h1 hS.1)).trans (hS.2.1 q h1 h2)⟩
theorem mi_callx_ok {n : Nat} (ih : mi_S X n) (hM : mi_mok M = true) (F : mi_Fr p l R s m args meth c M (d + 1) X cn ids D A sz0) {i : Instr} (hd : decode (mi_bt M) pc = .ok (i, 3)) (hls : ls.size = mi_nL M) {av rest : List Value} (hc : mi_cal M i st h = some (M', av, rest)) (hcat : mi_cat av ≤ mi_nL M') {x p' : Nat} {mc ms : Nat} (hk1 : mi_kd M' = 1) (hhnd : mi_hnd M pc x = some p')
    (hrun : mi_run X n d M' 0 (lv_args 0 av) [] h 0 0 = some (.inr x, h', mc, ms)) (hRc : cells + mc ≤ R.cells) (hRs : slots + ms ≤ R.slots) (hw : mi_Wd D ids cn A s ad h H locs) (hs : mi_rl ad cn st sw)
    (kk : mi_KH p l e R s m args below meth c Q D ids cn A ls ad p' [.float 0] h' (cells + mc) (slots + ms)) : W p l e R s m args below meth c H locs cells slots Q (F0 m pc ls sw) := by
  have ho := (mi_mok_spec hM).2.2.2.2.2.1
  have hst : l.stackTraces = false := F.2.2.2.2.2.2.2.2
  have hS := (mi_Wc_of hw).2.2
  have hAf := mi_Af_A F hw
  unfold mi_cal at hc
  split at hc
  next idx =>
    split at hc
    next k hk =>
      split at hc
      next M9 hM9 =>
        split at hc
        next hcond =>
          cases hc
          obtain ⟨-, hlt, hct, hrc⟩ := hcond
          have hMm : M' ∈ mi_mt := List.mem_of_getElem? hM9
          obtain ⟨As, b, rw', rfl, hAs, hb, hav, hre⟩ := mi_split _ hs hlt
          obtain ⟨a, rfl, hcell⟩ := mi_recv F hw hb hrc
          obtain ⟨i1, i2, i3⟩ := mi_mw1 hMm hk1
          have hcls : mi_on (mi_ow M') = (mi_y M').cls := (mi_mok_spec (mi_ok hMm)).2.2.2.2.1.symm
          rw [hcls] at hcell
          have hr := vx_runV (e := e) (below := below) (meth := meth) (locs := locs) (rest := rw') (g := F0 m pc ls (As.reverse ++ .ref a :: rw')) (mi_fix F) (mi_metx (sz := H.size) (sz0 := sz0) (ids := ids) (D := D) ih hMm hst hk1 hrun hav hcat) ⟨mi_cB hM F hMm (by omega) (mi_ml_in ho hk hM9) i3 mc ms, F.2.1 _ i1, F.2.1 _ i2⟩ ⟨mi_Pc_blind, hcell, mi_pre F hw _⟩ rfl hAs hls rfl (mi_room hre hct rfl) hd ⟨hRc, hRs⟩
          intro T hT X'
          rcases hr T hT X' with ⟨v0, st₀, t, T', L, h0, X2, hL, e1, e2, hF, st2⟩ | ⟨q, st₀, t, T', L, E, ce, h0, X2, hL, e1, e2, ⟨hE, ⟨ad', hle, hWc, hin⟩, hFr⟩, hce, hcv, hcl, st2⟩
          · exact hF.elim
          · obtain ⟨j1, j2, j3⟩ := vx_keep h0 e1 hS (fun q _ hq => hAf q hq) hAf hL hFr
            subst hE
            unfold mi_hnd at hhnd
            split at hhnd
            next z hz =>
              split at hhnd
              next hzx =>
                cases hhnd
                obtain ⟨as, bs, hab, hcov, hpass⟩ := mi_fnd_ok hz
                have hxl := mi_xl_ok _ ho _ (mi_lk_mem hzx)
                obtain ⟨y, hy, hyx⟩ := mi_xs_all x hxl.2
                have hcast : (Cond.castable (mi_xn x) (mi_xn x)).before args s = true := by
                  refine mi_hat F hy _ ?_
                  rw [hyx]
                  exact List.mem_filter.mpr ⟨by simp [Bundle.ownAtoms], by simp [vx_no]⟩
                have hww : vx_W p l e R s m args below meth c T'.heap (locs ++ L) (cells + mc) (slots + ms) Q (F0 m pc ls rw') q := by
                  refine vx_catch (own := mi_on (mi_ow M)) (name := mi_xn x) (E := mi_xn x) (ce := ce) F.1.2.2.2.2.2.2.2 (tableOf as) ⟨z.1, z.2.1, z.2.2.1, z.2.2.2⟩ (tableOf bs) ?_ ?_ hcov hxl.1 (F.2.1 _ (mi_xl_in ho hzx)) hcast (by rw [e1]; exact hce) hcv hcl ?_
                  · have hk4 : mi_kd M ≠ 4 := by
                      rcases (mi_mok_spec hM).2.2.2.2.2.2.2.2.2.2 with hk9 | hk9
                      · omega
                      · rw [hk9] at hab
                        exact absurd (congrArg List.length hab) (by simp)
                    rw [F.1.2.2.2.2.2.2.1 hk4, hab]
                    simp [tableOf]
                  · intro y9 hy9
                    obtain ⟨a9, ha9, rfl⟩ := List.mem_map.mp hy9
                    exact Or.inl (hpass a9 ha9)
                  · exact kk _ _ ad' _ hle (mi_Wd_of (by rw [e1]; exact hWc) (fun a ha => hAf a (hin a ha)) j3) (mi_rl_c (v := .float 0) (Or.inr ⟨q, rfl⟩) rfl)
                obtain ⟨t2, a1, b1⟩ := hww T' rfl X2
                exact ⟨t2, st2.trans a1, b1⟩
              next => cases hhnd
            next => cases hhnd
        next => cases hc
      next => cases hc
    next => cases hc
  next idx =>
    exfalso
    split at hc
    next k hk =>
      split at hc
      next M9 hM9 =>
        split at hc
        next hcond => cases hc; omega
        next => cases hc
      next => cases hc
    next => cases hc
  next idx =>
    exfalso
    split at hc
    next k hk =>
      split at hc
      next M9 hM9 =>
        split at hc
        next hcond => cases hc; omega
        next => cases hc
      next => cases hc
    next => cases hc
  next => cases hc
end MIT
end
section
/-! ===== a run of the abstract machine is the machine's ===== -/
theorem mi_run_0 {X : mi_X} {d : Nat} {M : mi_M} {pc : Nat} {la : mi_L} {st : List Value} {h : mi_H} {c s : Nat} : mi_run X 0 d M pc la st h c s = none := rfl
theorem mi_dec {M : mi_M} (hM : mi_mok M = true) {pc len : Nat} {i : Instr} (hi : mi_lk (mi_cd M) pc = some (i, len)) : decode (mi_bt M) pc = .ok (i, len) :=
  (mi_mok_spec hM).2.2.2.2.2.2.2.2.1 (pc, (i, len)) (mi_lk_mem hi)
set_option maxHeartbeats 1000000 in
theorem mi_sound (X : mi_X) : ∀ n, mi_S X n
  | 0 => fun d M pc la st h cells slots r hM hrun => by
    rw [mi_run_0] at hrun
    cases hrun
  | n + 1 => fun d M pc la st h cells slots r hM hrun => by
    have ih := mi_sound X n
    unfold mi_run at hrun
    split at hrun
    next t ht =>
      split at hrun
      next hc =>
        cases hrun
        refine ⟨⟨Nat.le_add_right _ _, Nat.le_add_right _ _⟩, ?_⟩
        intro p l e R s m args below meth c H locs Q cn ids D A sz0 ad lv sw ls F hRc hRs hl hn hw hs hend
        obtain ⟨Qc, XC, free, rfl, hfree, hXC⟩ := hend
        exact mi_throw_ok hM F ht hc.1 hc.2 hl.1 hRc hRs hw hs hfree hXC
      next => cases hrun
    next =>
      split at hrun
      next => cases hrun
      next i len hi =>
        have hd : decode (mi_bt M) pc = .ok (i, len) := mi_dec hM hi
        split at hrun
        next pc' l' st' hp =>
          obtain ⟨hle, hW⟩ := ih d M pc' l' st' h cells slots r hM hrun
          refine ⟨hle, ?_⟩
          intro p l e R s m args below meth c H locs Q cn ids D A sz0 ad lv sw ls F hRc hRs hl hn hw hs hend
          exact mi_pure_ok F.1.1 F.1.2.1 hd hp hl hn hs (fun ls' lv' sw' hl' hn' hs' => hW p l e R s m args below meth c H locs Q cn ids D A sz0 ad lv' sw' ls' F hRc hRs hl' hn' hw hs' hend)
        next =>
          split at hrun
          next v hv =>
            split at hrun
            next hlen =>
              cases hrun
              subst hlen
              refine ⟨⟨Nat.le_refl _, Nat.le_refl _⟩, ?_⟩
              intro p l e R s m args below meth c H locs Q cn ids D A sz0 ad lv sw ls F hRc hRs hl hn hw hs hend
              exact hend H locs ad pc ls sw i st (mi_le_rf _) hd hv hs hw
            next => cases hrun
          next =>
            split at hrun
            next pc' st' h' c' s' hmem =>
              split at hmem
              next hlen =>
                obtain ⟨hle, hW⟩ := ih d M pc' la st' h' c' s' r hM hrun
                have hmo := mi_mem_le hmem
                refine ⟨⟨Nat.le_trans hmo.1 hle.1, Nat.le_trans hmo.2 hle.2⟩, ?_⟩
                intro p l e R s m args below meth c H locs Q cn ids D A sz0 ad lv sw ls F hRc hRs hl hn hw hs hend
                exact mi_mem_ok hM F hd hlen (Nat.le_trans hle.1 hRc) (Nat.le_trans hle.2 hRs) hmem hw hs (fun H' locs' ad' sw' hle' hw' hs' => hW p l e R s m args below meth c H' locs' Q cn ids D A sz0 ad' lv sw' ls F hRc hRs hl (mi_rn_mono hle' hn) hw' hs' (mi_End_mono hle' hend))
              next => cases hmem
            next =>
              split at hrun
              next hlen =>
                subst hlen
                split at hrun
                next => cases hrun
                next d' =>
                  split at hrun
                  next st' he =>
                    obtain ⟨hle, hW⟩ := ih (d' + 1) M (pc + 3) la st' h cells slots r hM hrun
                    refine ⟨hle, ?_⟩
                    intro p l e R s m args below meth c H locs Q cn ids D A sz0 ad lv sw ls F hRc hRs hl hn hw hs hend
                    exact mi_easy_ok hM F hd hl.1 (Nat.le_trans hle.1 hRc) (Nat.le_trans hle.2 hRs) he hw hs (fun H' locs' ad' sw' hle' hw' hs' => hW p l e R s m args below meth c H' locs' Q cn ids D A sz0 ad' lv sw' ls F hRc hRs hl (mi_rn_mono hle' hn) hw' hs' (mi_End_mono hle' hend))
                  next =>
                    split at hrun
                    next => cases hrun
                    next M' av rest hcal =>
                      split at hrun
                      next => cases hrun
                      next v h' c' s' hcr =>
                        split at hcr
                        next hcat =>
                          obtain ⟨hle, hW⟩ := ih (d' + 1) M (pc + 3) la (v.toList ++ rest) h' (cells + c') (slots + s') r hM hrun
                          refine ⟨⟨Nat.le_trans (Nat.le_add_right _ _) hle.1, Nat.le_trans (Nat.le_add_right _ _) hle.2⟩, ?_⟩
                          intro p l e R s m args below meth c H locs Q cn ids D A sz0 ad lv sw ls F hRc hRs hl hn hw hs hend
                          exact mi_call_ok ih hM F hd hl.1 hcal hcat hcr (Nat.le_trans hle.1 hRc) (Nat.le_trans hle.2 hRs) hw hs (fun H' locs' ad' sw' hle' hw' hs' => hW p l e R s m args below meth c H' locs' Q cn ids D A sz0 ad' lv sw' ls F hRc hRs hl (mi_rn_mono hle' hn) hw' hs' (mi_End_mono hle' hend))
                        next => cases hcr
                      next x h' c' s' hcr =>
                        split at hcr
                        next hcat =>
                          split at hrun
                          next p' hp' =>
                            split at hp'
                            next hk1 =>
                              obtain ⟨hle, hW⟩ := ih (d' + 1) M p' la [.float 0] h' (cells + c') (slots + s') r hM hrun
                              refine ⟨⟨Nat.le_trans (Nat.le_add_right _ _) hle.1, Nat.le_trans (Nat.le_add_right _ _) hle.2⟩, ?_⟩
                              intro p l e R s m args below meth c H locs Q cn ids D A sz0 ad lv sw ls F hRc hRs hl hn hw hs hend
                              exact mi_callx_ok ih hM F hd hl.1 hcal hcat hk1 hp' hcr (Nat.le_trans hle.1 hRc) (Nat.le_trans hle.2 hRs) hw hs (fun H' locs' ad' sw' hle' hw' hs' => hW p l e R s m args below meth c H' locs' Q cn ids D A sz0 ad' lv sw' ls F hRc hRs hl (mi_rn_mono hle' hn) hw' hs' (mi_End_mono hle' hend))
                            next => cases hp'
                          next => cases hrun
                        next => cases hcr
              next => cases hrun
end
section
/-! ===== the law's own row ===== -/
set_option maxRecDepth 100000 in
theorem mi_dL0 : ∀ q ∈ mi_qL0, decode code q.1 = .ok q.2 := by decide +kernel
set_option maxRecDepth 100000 in
theorem mi_dL1 : ∀ q ∈ mi_qL1, decode code q.1 = .ok q.2 := by decide +kernel
set_option maxRecDepth 100000 in
theorem mi_dL2 : ∀ q ∈ mi_qL2, decode code q.1 = .ok q.2 := by decide +kernel
set_option maxRecDepth 100000 in
theorem mi_dL3 : ∀ q ∈ mi_qL3, decode code q.1 = .ok q.2 := by decide +kernel
set_option maxRecDepth 100000 in
theorem mi_dL4 : ∀ q ∈ mi_qL4, decode code q.1 = .ok q.2 := by decide +kernel
set_option maxRecDepth 100000 in
theorem mi_dL5 : ∀ q ∈ mi_qL5, decode code q.1 = .ok q.2 := by decide +kernel
set_option maxRecDepth 100000 in
theorem mi_dL6 : ∀ q ∈ mi_qL6, decode code q.1 = .ok q.2 := by decide +kernel
set_option maxRecDepth 100000 in
theorem mi_dL7 : ∀ q ∈ mi_qL7, decode code q.1 = .ok q.2 := by decide +kernel
set_option maxRecDepth 100000 in
theorem mi_dL8 : ∀ q ∈ mi_qL8, decode code q.1 = .ok q.2 := by decide +kernel
set_option maxRecDepth 100000 in
theorem mi_dL9 : ∀ q ∈ mi_qL9, decode code q.1 = .ok q.2 := by decide +kernel
set_option maxRecDepth 100000 in
theorem mi_dL10 : ∀ q ∈ mi_qL10, decode code q.1 = .ok q.2 := by decide +kernel
set_option maxRecDepth 100000 in
theorem mi_dL11 : ∀ q ∈ mi_qL11, decode code q.1 = .ok q.2 := by decide +kernel
set_option maxRecDepth 100000 in
theorem mi_dL12 : ∀ q ∈ mi_qL12, decode code q.1 = .ok q.2 := by decide +kernel
set_option maxRecDepth 100000 in
theorem mi_dL13 : ∀ q ∈ mi_qL13, decode code q.1 = .ok q.2 := by decide +kernel
theorem mi_dL : ∀ q ∈ mi_qL, decode code q.1 = .ok q.2 := by
  intro q h
  rcases List.mem_append.mp h with h | h
  · exact mi_dL0 q h
  rcases List.mem_append.mp h with h | h
  · exact mi_dL1 q h
  rcases List.mem_append.mp h with h | h
  · exact mi_dL2 q h
  rcases List.mem_append.mp h with h | h
  · exact mi_dL3 q h
  rcases List.mem_append.mp h with h | h
  · exact mi_dL4 q h
  rcases List.mem_append.mp h with h | h
  · exact mi_dL5 q h
  rcases List.mem_append.mp h with h | h
  · exact mi_dL6 q h
  rcases List.mem_append.mp h with h | h
  · exact mi_dL7 q h
  rcases List.mem_append.mp h with h | h
  · exact mi_dL8 q h
  rcases List.mem_append.mp h with h | h
  · exact mi_dL9 q h
  rcases List.mem_append.mp h with h | h
  · exact mi_dL10 q h
  rcases List.mem_append.mp h with h | h
  · exact mi_dL11 q h
  rcases List.mem_append.mp h with h | h
  · exact mi_dL12 q h
  exact mi_dL13 q h
theorem mi_cdL : mi_cd mi_ML = mi_qL := rfl
theorem mi_btL : mi_bt mi_ML = code := rfl
theorem mi_allL : (mi_cd mi_ML).all (fun q => decide (decode (mi_bt mi_ML) q.1 = .ok q.2)) = true := by
  rw [mi_cdL, mi_btL]
  exact List.all_eq_true.mpr (fun q hq => decide_eq_true (mi_dL q hq))
set_option maxRecDepth 100000 in
theorem mi_okL : mi_mok mi_ML = true := by
  unfold mi_mok
  simp only [Bool.and_eq_true]
  and_intros
  · decide +kernel
  · decide +kernel
  · decide +kernel
  · decide +kernel
  · decide +kernel
  · decide +kernel
  · decide +kernel
  · decide +kernel
  · exact mi_allL
  · decide +kernel
  · decide +kernel
end
section
/-! ===== where the premises of the start lie (printed by wip/gen/prem.py) ===== -/
def mi_prem : List Cond := flatC (Cond.and given_1 narrow_1)
/-- a String constant: the constant of the same text that the premises speak of, the place of its words, the place of the word that both are one (0: it is itself) -/
def mi_sc : List (String × Nat × Nat × Nat) := [("TypeLoom$Tokens", 30, 69, 0), ("TypeLoom$Known", 39, 129, 0), ("TypeLoom$Known", 45, 136, 0), ("TypeLoom$Known", 47, 144, 0), ("TypeLoom$Known", 59, 152, 0), ("TypeLoom$Known", 61, 159, 0), ("TypeLoom$Tokens", 98, 167, 0), ("TypeLoom$Writer", 110, 182, 0), ("TypeLoom$Writer", 116, 190, 0), ("TypeLoom$Writer", 124, 199, 0), ("TypeLoom$Writer", 129, 206, 0), ("TypeLoom", 88, 214, 0), ("TypeLoom", 99, 255, 0), ("TypeLoom", 133, 295, 0), ("TypeLoom", 144, 339, 0), ("TypeLoom", 152, 370, 0), ("TypeLoom", 161, 408, 0), ("TypeLoom", 169, 440, 0), ("TypeLoom", 174, 466, 0), ("TypeLoom", 179, 505, 0), ("TypeLoomModel", 168, 547, 0), ("TypeLoomModel", 181, 556, 0), ("TypeLoomModel", 183, 564, 0), ("TypeLoomModel", 189, 573, 0), ("TypeLoomModel", 195, 580, 0), ("TypeLoomModel", 260, 587, 0), ("TypeLoomModel", 322, 603, 0), ("TypeLoomModel", 329, 611, 0), ("TypeLoomModel", 354, 616, 0), ("TypeLoomModel", 361, 621, 0), ("TypeLoomModel", 363, 626, 0), ("TypeLoomModel", 356, 632, 0), ("TypeLoomModel", 352, 637, 0), ("TypeLoomModel", 334, 642, 0), ("TypeLoomModel", 336, 647, 0), ("TypeLoomModel", 338, 654, 0), ("TypeLoomModel", 365, 659, 0), ("TypeLoomModel", 367, 666, 0), ("TypeLoomModel", 369, 672, 0), ("TypeLoomModel", 370, 679, 0), ("TypeLoomModel", 372, 685, 0), ("TypeLoomModel", 374, 693, 0), ("TypeLoomModel", 376, 701, 0), ("TypeLoomModel", 378, 709, 0), ("TypeLoomModel", 383, 715, 0), ("TypeLoomModel", 399, 722, 0), ("TypeLoomModel", 401, 730, 0), ("TypeLoomModel", 409, 739, 0), ("TypeLoomModel", 392, 744, 0), ("TypeLoomModel", 394, 749, 0), ("TypeLoomModel", 387, 754, 0), ("TypeLoomModel", 427, 759, 0), ("TypeLoomModel", 429, 768, 0), ("TypeLoomModel", 597, 778, 0), ("TypeLoomModel", 599, 786, 0)]
def mi_spl : List Nat := [237, 362, 368, 369, 396, 397, 752, 1412, 1419, 1431, 1436, 1545, 1592, 1616, 1631, 1632, 1645, 1663, 1671, 1679, 1722, 1745, 1746, 1751, 1752, 2006, 2017, 2044, 2053, 2066, 2067, 2068, 2069, 2070, 2071, 2072, 2077, 2078, 2079, 2080, 2081, 2082, 2083, 2084, 2089, 2110, 2111, 2112, 2113, 2114, 2115, 2128, 2129, 2354, 2355]
def mi_pc : Nat := 4
def mi_ps : Nat := 5
def mi_qpu : Nat := 9
def mi_pn : Nat := 10
def mi_pk : Nat := 12
/-- the reference's words: the place of each word, and the number of its String constant -/
def mi_ke : List (Nat × Nat) := [(14, 26), (15, 34), (16, 36), (17, 37), (18, 38), (19, 39), (20, 40), (21, 41), (22, 42), (23, 43), (24, 44), (25, 45), (26, 46)]
/-! ===== what is given at the law's entry is what a run is given ===== -/
theorem mi_nth {ws L : List Cond} (pl : List Nat) (h : L = pl.filterMap (fun i => ws[i]?)) : ∀ w ∈ L, w ∈ ws := fun w hw => by
  rw [h] at hw
  obtain ⟨i, -, hi⟩ := List.mem_filterMap.mp hw
  exact List.mem_of_getElem? hi
def mi_sr (i : Nat) : String × Nat × Nat × Nat := mi_sc.getD i ("", 0, 0, 0)
def mi_tm (i : Nat) : Term := .string (mi_sr i).1 (mi_sr i).2.1
def mi_own (i : Nat) : Term := .string (mi_sw.getD i ("", 0, "")).1 (mi_sw.getD i ("", 0, "")).2.1
def mi_vf (t : Term) : Term := .field t "java/lang/String" "value" "[B"
def mi_pS (t : Term) (b : List Int32) : List Cond := [.exactly t "java/lang/String", .eq (.field t "java/lang/String" "coder" "B") (.int 0), .arrayOf (mi_vf t) .byte, .eq (.length (mi_vf t)) (.int (Int32.ofNat b.length))] ++ (List.range b.length).map (fun j => .eq (.elem (mi_vf t) (.int (Int32.ofNat j))) (.int (b.getD j 0)))
def mi_kwT : Term := .static "TypeLoomModel" "KEYWORDS" "[Ljava/lang/String;"
set_option maxRecDepth 100000 in
theorem mi_pS_ok : ∀ i, i < mi_nS → mi_pS (mi_tm i) (mi_byt.getD i []) = (mi_prem.drop (mi_sr i).2.2.1).take (4 + (mi_byt.getD i []).length) ∧ (mi_byt.getD i []).length < 2 ^ 31 := by decide +kernel
set_option maxRecDepth 100000 in
theorem mi_al_ok : ∀ i, i < mi_nS → (mi_tm i = mi_own i ∨ mi_prem[(mi_sr i).2.2.2]? = some (.eq (mi_own i) (mi_tm i))) := by decide +kernel
set_option maxRecDepth 100000 in
theorem mi_sr_ok : mi_sw.map (fun x => Cond.stringRef x.1 x.2.1 x.2.2) = mi_spl.filterMap (fun i => lw_tbl[i]?) := by decide +kernel
set_option maxRecDepth 100000 in
theorem mi_kp_ok : mi_prem[mi_pk]? = some (.arrayOf mi_kwT (.object "java/lang/String")) ∧ mi_prem[mi_pk + 1]? = some (.eq (.length mi_kwT) (.int (Int32.ofNat 13))) ∧ (∀ j, j < 13 → (mi_ke.getD j (0, 0)).2 < mi_nS ∧ mi_prem[(mi_ke.getD j (0, 0)).1]? = some (.eq (.elem mi_kwT (.int (Int32.ofNat j))) (mi_own (mi_ke.getD j (0, 0)).2))) ∧
    mi_prem[mi_pc]? = some (.eq (.static "java/lang/String" "COMPACT_STRINGS" "Z") (.int 1)) ∧ mi_prem[mi_ps]? = some (.isRef (.static "jdk/internal/util/Preconditions" "SIOOBE_FORMATTER" "Ljava/util/function/BiFunction;")) ∧ mi_prem[mi_qpu]? = some (.isRef (.static Bundle.tN "UNASSIGNED_STACK" Bundle.steD)) ∧ mi_prem[mi_pn]? = some (.isRef (.static Bundle.tN "SUPPRESSED_SENTINEL" Bundle.listD)) := by decide +kernel
def mi_tw : List Cond := [.laysStatic "java/lang/String" "COMPACT_STRINGS" "Z", .initialized "java/lang/String", .laysStatic "jdk/internal/util/Preconditions" "SIOOBE_FORMATTER" "Ljava/util/function/BiFunction;", .initialized "jdk/internal/util/Preconditions", .laysStatic Bundle.tN "UNASSIGNED_STACK" Bundle.steD, .laysStatic Bundle.tN "SUPPRESSED_SENTINEL" Bundle.listD, .initialized Bundle.tN, .laysStatic "TypeLoomModel" "KEYWORDS" "[Ljava/lang/String;", .initialized "TypeLoomModel"]
set_option maxRecDepth 100000 in
theorem mi_tw_ok : ∀ w ∈ mi_tw, w ∈ lw_tbl := mi_nth [247, 184, 263, 186, 1531, 1533, 200, 2043, 199] (by decide +kernel)
section MIE
variable {args : Array Value} {s : State} {A : Nat → Prop}
theorem mi_strs (hp : ∀ w ∈ mi_prem, w.before args s = true) (hA : ∀ a : Nat, a < s.heap.size → ¬ A a) (i : Nat) (hi : i < mi_nS) : ∃ q : Nat × Nat, (mi_own i).eval args s none [] s = some (.ref q.1) ∧ va_O "java/lang/String" q.1 A s s.heap ∧ va_OF "java/lang/String" "coder" "B" (.int 0) q.1 A s s.heap ∧ va_OF "java/lang/String" "value" "[B" (.ref q.2) q.1 A s s.heap ∧ va_T .byte q.2 (mi_byt.getD i []).length (fun j => .int ((mi_byt.getD i []).getD j 0)) A s s.heap := by
  obtain ⟨h1, h2⟩ := mi_pS_ok i hi
  have hw : ∀ w ∈ mi_pS (mi_tm i) (mi_byt.getD i []), w.before args s = true := fun w hw => hp w (by
    rw [h1] at hw
    exact List.mem_of_mem_drop (List.mem_of_mem_take hw))
  obtain ⟨adK, adV, ⟨hS, -⟩, hev⟩ := vk_Sof (args := args) (s := s) (N := 1) (tm := fun _ => mi_tm i) (len := [(mi_byt.getD i []).length]) (byt := [mi_byt.getD i []]) (A := A)
    (fun k hk => by obtain rfl : k = 0 := (by omega); exact h2)
    (fun k hk => hw _ (List.mem_append_left _ List.mem_cons_self))
    (fun k hk => hw _ (List.mem_append_left _ (List.mem_cons_of_mem _ List.mem_cons_self)))
    (fun k hk => hw _ (List.mem_append_left _ (List.mem_cons_of_mem _ (List.mem_cons_of_mem _ List.mem_cons_self))))
    (fun k hk => by obtain rfl : k = 0 := (by omega); exact hw _ (List.mem_append_left _ (List.mem_cons_of_mem _ (List.mem_cons_of_mem _ (List.mem_cons_of_mem _ List.mem_cons_self)))))
    (fun k hk j hj => by
      obtain rfl : k = 0 := (by omega)
      exact hw _ (List.mem_append_right _ (List.mem_map.mpr ⟨j, List.mem_range.mpr hj, rfl⟩)))
    (fun k j hk hj hne => absurd (show k = j by omega) hne) hA
  have h3 := hS 0 (by omega)
  refine ⟨(adK 0, adV 0), ?_, h3.1, h3.2.1, h3.2.2.1, h3.2.2.2⟩
  rcases mi_al_ok i hi with h | h
  · rw [← h]
    exact hev 0 (by omega)
  · exact va_eqv (hp _ (List.mem_of_getElem? h)) (hev 0 (by omega))
theorem mi_kwof (hp : ∀ w ∈ mi_prem, w.before args s = true) (hA : ∀ a : Nat, a < s.heap.size → ¬ A a) : ∃ t : Nat, mi_kwT.eval args s none [] s = some (.ref t) ∧ ∃ f : Nat → Option Nat, va_T (.object "java/lang/String") t 13 (fun j => va_rf (f j)) A s s.heap := by
  have h0 : ∀ i : Nat, ∃ q : Nat, i < mi_nS → (mi_own i).eval args s none [] s = some (.ref q) := fun i => by
    by_cases hi : i < mi_nS
    · obtain ⟨q, hq, -⟩ := mi_strs hp hA i hi
      exact ⟨q.1, fun _ => hq⟩
    · exact ⟨0, fun h => absurd h hi⟩
  obtain ⟨ad, had⟩ := Classical.axiomOfChoice h0
  obtain ⟨k1, k2, k3, -⟩ := mi_kp_ok
  obtain ⟨t, ht, hT⟩ := va_Tof (f := fun j => va_rf (some (ad (mi_ke.getD j (0, 0)).2))) (A := A) (N := 13) (by decide) (hp _ (List.mem_of_getElem? k1)) (va_eqt (hp _ (List.mem_of_getElem? k2))) (fun j hj => va_eqv (hp _ (List.mem_of_getElem? (k3 j hj).2)) (had _ (k3 j hj).1)) hA
  exact ⟨t, ht, fun j => some (ad (mi_ke.getD j (0, 0)).2), hT⟩
theorem mi_tyof {ty : FieldType} (h : (Cond.arrayClass ty).before args s = true) : ∃ c : ClassId, ArrOfT s c ty ∧ s.vm.findClass ("[" ++ ty.toString) = some c := by
  obtain ⟨c, k, comp, h1, h2, h3⟩ := Cond.arrayClass_spec h
  exact ⟨c, fun N z => ⟨(fun k h => by cases h), k, h2, comp, h3⟩, h1⟩
theorem mi_ckof (hn : ∀ w ∈ mi_need, w.before args s = true) : ∃ D : va_G, ∀ (c : Nat) (q : vw_C), mi_cl[c]? = some q → u_Kn s q.1 q.2.1 q.2.2 (D.1 c) (D.2 c) := by
  have h0 : ∀ c : Nat, ∃ d : ClassId × (Nat → Nat), ∀ q : vw_C, mi_cl[c]? = some q → u_Kn s q.1 q.2.1 q.2.2 d.1 d.2 := fun c => by
    cases hq : mi_cl[c]? with
    | none => exact ⟨(0, fun _ => 0), fun q h => by cases h⟩
    | some q =>
      have hm := List.mem_of_getElem? hq
      obtain ⟨cC, iS, h⟩ := u_known (C := q.1) (T := q.2.1) (N := q.2.2) (n := q.2.2) hn (fun w hw => mi_in0 hm (List.mem_append_left _ hw)) (hn _ (mi_in0 hm (List.mem_append_right _ List.mem_cons_self)))
      exact ⟨(cC, iS), fun q' h' => by cases h'; exact h⟩
  obtain ⟨d, hd⟩ := Classical.axiomOfChoice h0
  exact ⟨(fun c => (d c).1, fun c => (d c).2), hd⟩
theorem mi_st0 {l : Launch} (h : l.flags = flags0) : l.stackTraces = false := by
  unfold Launch.stackTraces
  rw [h]
  decide +kernel
end MIE
end
section
/-! THE CLAIM OUT OF ONE WALK OF THE LAW'S BODY. Your part is whole_start (and what it stands on); all else here is the same for every law, but numbers. -/
def R_law : String := "TypeLoomLaw"
def lw_P (b : Addr) (xs : List Int32) (args : Array Value) (s : State) : Prop := args = #[.ref b] ∧ s.IntsAt b xs ∧ xs.length ≤ 6 ∧ (Jvm.Cond.and given_1 narrow_1).before args s = true
/-- what a walk over the start with the record d0 says of its end, said of the start itself -/
theorem lw_closed {s t : State} {o : Outcome} {d0 : Drawn} {L : List Loc} {k n : Nat} (hd0 : s.drawn.sameBut d0 lw_cs) (hv : ∃ v, o = .returned v) (hW : (s.setDrawn d0).WarmedH t.vm) (hs : (s.setDrawn d0).sameButNew ({ t with vm := s.vm } : State) L k n) : State.butDraws s t lw_cs (fun t1 => Framed s o t1 L k n) := by
  have h2 : t.drawn = d0 := congrArg State.drawn hs.1
  refine ⟨⟨hv, hW, State.sameButNew.setDrawn hs s.drawn⟩, ?_, by decide⟩
  rw [h2]
  exact hd0
def lw_Q (_ : Array Value) (s : State) (o : Outcome) (t : State) : Prop := o = .returned (some (.int 1)) ∧ State.butDraws s t lw_cs (fun t1 => Framed s o t1 [] 600002 7302232)
def lw_Z (below : List Frame) (a : Array Value) (s : State) : State → Prop := fun t => ∃ o, t.status = .running ∧ Ended t below o ∧ lw_Q a s o t
/-- the law's own end, with 1 on the stack, nothing written that was there before, its room as the claim has it; d0: the record of draws at this point (at the entry s.drawn: begin with 'refine W.base ?_' and 'have hd0 := Drawn.sameBut.refl s.drawn lw_cs') -/
theorem lw_ret {p : Program} {l : Launch} {e : Env} {s : State} {m : MethodId} {below : List Frame} {meth : Method} {c : Code} {b : Nat} {d0 : Drawn} (hd0 : s.drawn.sameBut d0 lw_cs) (hx : p.tables.exec = Jvm.exec) (hb : c.code = code) (hr : meth.sig.returnType = ret) (hlocks : meth.locks = false) {pc : Nat} {H : Heap} {ls : Array Slot} (hdg : decode code pc = .ok (.ireturn, 1)) : W p l e room_1 (s.setDrawn d0) m #[Value.ref b] below meth c H [] 600002 7302232 (lw_Z below #[Value.ref b] s) (F0 m pc ls [.int 1]) := by
  intro T hT X
  obtain ⟨fs, hret, hrun, hended, hW, hframe⟩ := X.leave (v := some (.int 1)) (hlocks := hlocks) (fun h => by rw [hr] at h; cases h)
  have hmeth' : T.vm.method? m = some meth := X.method'
  refine ⟨T.setFrames fs, ?_, .returned (some (.int 1)), hrun, hended, rfl, lw_closed hd0 ⟨_, rfl⟩ hW hframe⟩
  jvm_step X.here [X.here.top, hx, hb, hdg, hmeth', hr, ret, narrow_b1]
  (try refine ⟨rfl, ?_⟩); (try refine ⟨rfl, ?_⟩)
  first | (intro acts; rw [hret _ acts rfl rfl rfl]) | rw [hret _ _ rfl rfl rfl]
  exact Steps.refl _
/-- what holds at the law's entry: the machine, the code, the tables' words (any of lw_tbl by 'hts w (by decide +kernel)'), the script of L ints xs at the cell b, what the Statement gives of the start (any of its parts by flat_of_before) -/
def lw_At (p : Program) (s : State) (m : MethodId) (meth : Method) (c : Code) (b L : Nat) (xs : Nat → Int32) : Prop :=
  p.tables.exec = Jvm.exec ∧ c.code = code ∧ meth.sig.returnType = ret ∧ c.maxLocals = 9 ∧ s.vm.findClass R_law = some m.cls ∧ (∀ w ∈ lw_tbl, w.before #[Value.ref b] s = true) ∧ va_X b L xs s s.heap ∧ b < s.heap.size ∧ meth.locks = false ∧ (Jvm.Cond.and given_1 narrow_1).before #[Value.ref b] s = true
/-! ===== the law, from its entry, by a run ===== -/
set_option maxRecDepth 100000 in
theorem mi_bad_in : ∀ w ∈ mi_bad, w ∈ lw_tbl := by decide +kernel
set_option maxRecDepth 100000 in
theorem mi_swl : mi_sw.length = mi_nS := by decide +kernel
theorem mi_GlOf {b L : Nat} {xs : Nat → Int32} {s : State} (hts : ∀ w ∈ lw_tbl, w.before #[Value.ref b] s = true) (hp : ∀ w ∈ mi_prem, w.before #[Value.ref b] s = true) (hX : va_X b L xs s s.heap) (hbl : b < s.heap.size) :
    ∃ (cn : Nat → Nat) (ids : Nat → ClassId) (D : va_G), cn 3 = b ∧ mi_Gl (some (L, xs)) cn ids D s.heap.size s := by
  have hA : ∀ a : Nat, a < s.heap.size → ¬ (fun q : Nat => s.heap.size ≤ q) a := fun a h => Nat.not_le.mpr h
  have hn : ∀ w ∈ mi_need, w.before #[Value.ref b] s = true := fun w hw => hts w (mi_gn w hw).1
  obtain ⟨D, hD⟩ := mi_ckof hn
  obtain ⟨c0, k0, f0⟩ := mi_tyof (hn _ (mi_in3 (w := .arrayClass .int) (by decide +kernel)))
  obtain ⟨c1, k1, f1⟩ := mi_tyof (hn _ (mi_in3 (w := .arrayClass .long) (by decide +kernel)))
  obtain ⟨c2, k2, f2⟩ := mi_tyof (hn _ (mi_in3 (w := .arrayClass .byte) (by decide +kernel)))
  obtain ⟨c3, k3, f3⟩ := mi_tyof (hn _ (mi_in3 (w := .arrayClass .boolean) (by decide +kernel)))
  have h0 : ∀ i : Nat, ∃ q : Nat × Nat, i < mi_nS → (mi_own i).eval #[Value.ref b] s none [] s = some (.ref q.1) ∧ va_O "java/lang/String" q.1 (fun q : Nat => s.heap.size ≤ q) s s.heap ∧ va_OF "java/lang/String" "coder" "B" (.int 0) q.1 (fun q : Nat => s.heap.size ≤ q) s s.heap ∧ va_OF "java/lang/String" "value" "[B" (.ref q.2) q.1 (fun q : Nat => s.heap.size ≤ q) s s.heap ∧ va_T .byte q.2 (mi_byt.getD i []).length (fun j => .int ((mi_byt.getD i []).getD j 0)) (fun q : Nat => s.heap.size ≤ q) s s.heap := fun i => by
    by_cases hi : i < mi_nS
    · obtain ⟨q, hq⟩ := mi_strs hp hA i hi
      exact ⟨q, fun _ => hq⟩
    · exact ⟨(0, 0), fun h => absurd h hi⟩
  obtain ⟨ad, had⟩ := Classical.axiomOfChoice h0
  obtain ⟨t, ht, f, hT⟩ := mi_kwof hp hA
  obtain ⟨-, -, -, p4, p5, p6, p7⟩ := mi_kp_ok
  have tw : ∀ (w : Cond), w ∈ mi_tw → w.before #[Value.ref b] s = true := fun w hw => hts w (mi_tw_ok w hw)
  have hpp : ∀ {i : Nat} {w : Cond}, mi_prem[i]? = some w → w.before #[Value.ref b] s = true := fun h => hp _ (List.mem_of_getElem? h)
  let cn : Nat → Nat := fun n => if n = 2 then t else if n = 3 then b else if n % 4 = 0 then (ad (n / 4)).1 else (ad (n / 4)).2
  have e0 : ∀ i : Nat, cn (4 * i) = (ad i).1 := fun i => by
    show (if 4 * i = 2 then t else if 4 * i = 3 then b else if 4 * i % 4 = 0 then (ad (4 * i / 4)).1 else (ad (4 * i / 4)).2) = _
    rw [if_neg (by omega), if_neg (by omega), if_pos (by omega), show 4 * i / 4 = i by omega]
  have e1 : ∀ i : Nat, cn (4 * i + 1) = (ad i).2 := fun i => by
    show (if 4 * i + 1 = 2 then t else if 4 * i + 1 = 3 then b else if (4 * i + 1) % 4 = 0 then (ad ((4 * i + 1) / 4)).1 else (ad ((4 * i + 1) / 4)).2) = _
    rw [if_neg (by omega), if_neg (by omega), if_neg (by omega), show (4 * i + 1) / 4 = i by omega]
  have e2 : cn 2 = t := rfl
  have e3 : cn 3 = b := rfl
  refine ⟨cn, fun k => if k = 0 then c0 else if k = 1 then c1 else if k = 2 then c2 else c3, D, rfl, ?_, ⟨?_, ⟨?_, f, ?_⟩, ?_, ?_, ?_⟩, ?_, ?_, ?_, ?_⟩
  · refine ⟨hD, fun k q h => ?_⟩
    match k, h with
    | 0, h => cases h; exact ⟨k0, f0⟩
    | 1, h => cases h; exact ⟨k1, f1⟩
    | 2, h => cases h; exact ⟨k2, f2⟩
    | 3, h => cases h; exact ⟨k3, f3⟩
    | k + 4, h => simp [mi_tys] at h
  · intro i hi
    rw [e0 i, e1 i]
    exact (had i hi).2
  · rw [e2]
    exact va_Zref (tw _ (by decide +kernel)) (tw _ (by decide +kernel)) ht hA
  · rw [e2]
    exact hT
  · exact va_Zqof (tw _ (by decide +kernel)) (tw _ (by decide +kernel)) (hpp p5) hA
  · exact va_Zof (tw _ (by decide +kernel)) (tw _ (by decide +kernel)) (va_eqi (hpp p4)) hA
  · exact ⟨hX, hbl, hA b hbl⟩
  · intro i x hx
    have hi : i < mi_nS := by
      have := (List.getElem?_eq_some_iff.mp hx).1
      rw [mi_swl] at this
      exact this
    have hm : Cond.stringRef x.1 x.2.1 x.2.2 ∈ mi_sw.map (fun x => Cond.stringRef x.1 x.2.1 x.2.2) := List.mem_map.mpr ⟨x, List.mem_of_getElem? hx, rfl⟩
    have hw := hts _ (mi_nth mi_spl mi_sr_ok _ hm)
    have hev := (had i hi).1
    have hg : mi_sw.getD i ("", 0, "") = x := by rw [List.getD_eq_getElem?_getD, hx]; rfl
    unfold mi_own at hev
    rw [hg] at hev
    rw [e0 i]
    exact vk_R.of hw hev
  · exact fun w hw => va_Nw.of (mi_bw_on (mi_bad_bw w hw)) (hts w (mi_bad_in w hw))
  · exact vx_Zqof (tw _ (by decide +kernel)) (tw _ (by decide +kernel)) (hpp p6) hA
  · exact vx_Zqof (tw _ (by decide +kernel)) (tw _ (by decide +kernel)) (hpp p7) hA
set_option maxHeartbeats 1000000 in
/-- the law, from its entry to its end with true, out of a run -/
theorem mi_lawW {p : Program} {e : Env} {s : State} {m : MethodId} {below : List Frame} {meth : Method} {c : Code} (l : Launch) (hflags : l.flags = flags0) {b L : Nat} {xs : Nat → Int32} (C0 : lw_At p s m meth c b L xs) {n d c' s' : Nat} {h' : mi_H} (hd : d ≤ 2048) (hd2 : 40 * d ≤ 84000)
    (hrun : mi_run (some (L, xs)) n d mi_ML 0 [(0, .retAddr 3)] [] [] 0 0 = some (.inl (some (.int 1)), h', c', s')) (hc : c' ≤ 600002) (hs' : s' ≤ 7302232) : W p l e room_1 s m #[Value.ref b] below meth c s.heap [] 0 0 (lw_Z below #[Value.ref b] s) (entryFrame m ([Value.ref b] : List Value).toArray 9) := by
  obtain ⟨hx, hb, hr, hml, hown, hts, hX, hbl, hlocks, hgv⟩ := C0
  have hp : ∀ w ∈ mi_prem, w.before #[Value.ref b] s = true := flat_of_before _ hgv
  obtain ⟨cn, ids, D, e3, hGl⟩ := mi_GlOf hts hp hX hbl
  have hn : ∀ w ∈ mi_need, w.before #[Value.ref b] s = true := fun w hw => hts w (mi_gn w hw).1
  have F : mi_Fr p l room_1 s m #[Value.ref b] meth c mi_ML d (some (L, xs)) cn ids D (fun q : Nat => s.heap.size ≤ q) s.heap.size :=
    ⟨⟨hx, hb, hr, hml, hlocks, fun h => absurd h (by decide), fun h => absurd rfl h, hown⟩, hn, fun _ h => h, fun _ h => h, Nat.le_refl _, hGl, hd, hd2, mi_st0 hflags⟩
  have hl := lv_entry ([.ref b]) (n := 9) (Nat.le_of_ble_eq_true rfl)
  rw [lg_entry_eq]
  generalize (lg_sl ([.ref b]) ++ List.replicate (9 - (lg_sl ([.ref b])).length) Slot.unset).toArray = ls at hl ⊢
  have hl : lv_has ls 9 [(0, .ref b)] := hl
  refine (mi_sound (some (L, xs)) n d mi_ML 0 [(0, .retAddr 3)] [] [] 0 0 _ mi_okL hrun).2 p l e room_1 s m #[Value.ref b] below meth c s.heap [] _ cn ids D _ s.heap.size [] [(0, .ref b)] [] ls F ?_ ?_ hl ?_ ?_ rfl ?_
  · exact hc
  · exact hs'
  · exact ⟨.ref b, [], rfl, by rw [← e3]; exact rfl, rfl⟩
  · exact ⟨[], ⟨rfl, rfl, fun k o h => by simp at h⟩, fun k q h => by simp at h, ⟨fun i j p q h => by simp at h, fun k q h => by simp at h⟩, va_S.rf⟩
  · intro H' locs' ad' pc' ls' sw' i st' hle hdec hret hrl hw
    have hdec' : decode code pc' = .ok (i, 1) := hdec
    have hr2 : i = .ireturn ∧ st' = [.int 1] := by
      have hM : mi_rt mi_ML = some .boolean := rfl
      unfold mi_ret at hret
      rw [hM] at hret
      split at hret
      next => rw [if_neg (by decide)] at hret; cases hret
      next v =>
        dsimp only at hret
        split at hret
        next => cases hret; exact ⟨rfl, rfl⟩
        next => cases hret
      next => rw [if_neg (by decide)] at hret; cases hret
      next => rw [if_neg (by decide)] at hret; cases hret
      next => cases hret
    obtain ⟨rfl, rfl⟩ := hr2
    obtain ⟨w, ws', rfl, hv, hnil⟩ := hrl
    have hv' : w = .int 1 := hv
    have hnil' : ws' = [] := hnil
    subst hv' hnil'
    obtain ⟨ws, -, -, -, hS⟩ := hw
    refine va_forget (fun q hq => hS.2.2 q hq) ?_
    refine W.widen (k := 600002) (n := 7302232) hc hs' ?_
    refine W.base ?_
    exact lw_ret (Drawn.sameBut.refl s.drawn lw_cs) hx hb hr hlocks hdec'
end
section
/-! ===== more fuel, and a script that was not known, change no run ===== -/
theorem mi_alen_up {X' : mi_X} {pc c s : Nat} {st : List Value} {h : mi_H} {r : Nat × List Value × mi_H × Nat × Nat} (hh : mi_alen none pc st h c s = some r) : mi_alen X' pc st h c s = some r := by
  unfold mi_alen at hh ⊢
  split at hh
  next k q => exact hh
  next k q =>
    split at hh
    next hA => exact (if_pos hA).trans hh
    next hA =>
      split at hh
      next hB => exact ((if_neg hA).trans (if_pos hB)).trans hh
      next => cases hh
  next => cases hh
theorem mi_mem_up {X X' : mi_X} (hX : X = none ∨ X = X') {M : mi_M} {i : Instr} {pc c s : Nat} {st : List Value} {h : mi_H} {r : Nat × List Value × mi_H × Nat × Nat} (hh : mi_mem X M i pc st h c s = some r) : mi_mem X' M i pc st h c s = some r := by
  rcases hX with rfl | rfl
  · cases i
    case iaload =>
      dsimp only [mi_mem] at hh ⊢
      split at hh
      next q hq => exact hh
      next => cases hh
    case arraylength => exact mi_alen_up hh
    case newarray at' => cases at' <;> exact hh
    all_goals exact hh
  · exact hh
theorem mi_mem_3 {X X' : mi_X} {M : mi_M} {i : Instr} {pc c s : Nat} {st : List Value} {h : mi_H} (h3 : mi_ml2 i = 3) : mi_mem X' M i pc st h c s = mi_mem X M i pc st h c s := by
  cases i
  case iaload => exact absurd h3 (by decide)
  case arraylength => exact absurd h3 (by decide)
  case newarray at' => exact absurd h3 (show ¬ (2 : Nat) = 3 by decide)
  all_goals rfl
theorem mi_run_up {X X' : mi_X} (hX : X = none ∨ X = X') : ∀ (n k d : Nat) (M : mi_M) (pc : Nat) (l : mi_L) (st : List Value) (h : mi_H) (c s : Nat) (r : mi_Z), mi_run X n d M pc l st h c s = some r → mi_run X' (n + k) d M pc l st h c s = some r
  | 0, _, _, _, _, _, _, _, _, _, _, hr => by
    rw [mi_run_0] at hr
    cases hr
  | n + 1, k, d, M, pc, l, st, h, c, s, r, hr => by
    have ih := mi_run_up hX n k
    rw [show n + 1 + k = (n + k) + 1 by omega]
    unfold mi_run at hr ⊢
    split at hr
    next t ht =>
      try simp only [ht]
      exact hr
    next ht =>
      try simp only [ht]
      split at hr
      next => cases hr
      next i len hi =>
        try simp only [hi]
        split at hr
        next pc' l' st' hp =>
          try simp only [hp]
          exact ih _ _ _ _ _ _ _ _ _ hr
        next hp =>
          try simp only [hp]
          split at hr
          next v hv =>
            try simp only [hv]
            exact hr
          next hv =>
            try simp only [hv]
            split at hr
            next pc' st' h' c' s' hm =>
              have hm' : (if len = mi_ml2 i then mi_mem X' M i pc st h c s else none) = some (pc', st', h', c', s') := by
                split at hm
                next hl => rw [if_pos hl]; exact mi_mem_up hX hm
                next => cases hm
              try simp only [hm']
              exact ih _ _ _ _ _ _ _ _ _ hr
            next hm =>
              split at hr
              next h3 =>
                have hm' : (if len = mi_ml2 i then mi_mem X' M i pc st h c s else none) = none := by
                  by_cases hl : len = mi_ml2 i
                  · rw [if_pos hl] at hm ⊢
                    rw [mi_mem_3 (X := X) (X' := X') (by omega)]
                    exact hm
                  · rw [if_neg hl]
                try simp only [hm']
                rw [if_pos h3]
                split at hr
                next => cases hr
                next d' =>
                  split at hr
                  next st' he =>
                    try simp only [he]
                    exact ih _ _ _ _ _ _ _ _ _ hr
                  next he =>
                    try simp only [he]
                    split at hr
                    next => cases hr
                    next M' args rest hcal =>
                      try simp only [hcal]
                      split at hr
                      next => cases hr
                      next v h' c' s' hcr =>
                        have hcr' : (if mi_cat args ≤ mi_nL M' then mi_run X' (n + k) d' M' 0 (lv_args 0 args) [] h 0 0 else none) = some (.inl v, h', c', s') := by
                          split at hcr
                          next hl => rw [if_pos hl]; exact ih _ _ _ _ _ _ _ _ _ hcr
                          next => cases hcr
                        try simp only [hcr']
                        exact ih _ _ _ _ _ _ _ _ _ hr
                      next x h' c' s' hcr =>
                        have hcr' : (if mi_cat args ≤ mi_nL M' then mi_run X' (n + k) d' M' 0 (lv_args 0 args) [] h 0 0 else none) = some (.inr x, h', c', s') := by
                          split at hcr
                          next hl => rw [if_pos hl]; exact ih _ _ _ _ _ _ _ _ _ hcr
                          next => cases hcr
                        try simp only [hcr']
                        split at hr
                        next p' hp' =>
                          try simp only [hp']
                          exact ih _ _ _ _ _ _ _ _ _ hr
                        next => cases hr
              next => cases hr
end
section
/-! ===== single steps of a run, for values that are not known ===== -/
section MST
variable {X : mi_X} {n d : Nat} {M M' : mi_M} {pc pc' len c s c' s' : Nat} {i : Instr} {l l' : mi_L} {st st' args rest : List Value} {h h' : mi_H} {r : Option mi_Z}
theorem mi_st_p (ht : mi_lk (mi_th M) pc = none) (hi : mi_lk (mi_cd M) pc = some (i, len)) (hp : mi_pure (mi_nL M) len i pc l st = some (pc', l', st')) (k : mi_run X n d M pc' l' st' h c s = r) : mi_run X (n + 1) d M pc l st h c s = r := by
  unfold mi_run
  simp only [ht, hi, hp]
  exact k
theorem mi_st_r (ht : mi_lk (mi_th M) pc = none) (hi : mi_lk (mi_cd M) pc = some (i, 1)) (hp : mi_pure (mi_nL M) 1 i pc l st = none) {v : Option Value} (hv : mi_ret M i st = some v) : mi_run X (n + 1) d M pc l st h c s = some (.inl v, h, c, s) := by
  unfold mi_run
  simp only [ht, hi, hp, hv]
  rfl
theorem mi_st_x {t : Nat × Nat × Nat × Nat × Bool} (ht : mi_lk (mi_th M) pc = some t) (hd : 8 ≤ d) (hc : mi_cat st ≤ 8) : mi_run X (n + 1) d M pc l st h c s = some (.inr t.1, h, c + 1, s + 6) := by
  unfold mi_run
  simp only [ht]
  exact if_pos ⟨hd, hc⟩
theorem mi_st_m (ht : mi_lk (mi_th M) pc = none) (hi : mi_lk (mi_cd M) pc = some (i, len)) (hp : mi_pure (mi_nL M) len i pc l st = none) (hv : mi_ret M i st = none) (hl : len = mi_ml2 i) (hm : mi_mem X M i pc st h c s = some (pc', st', h', c', s')) (k : mi_run X n d M pc' l st' h' c' s' = r) : mi_run X (n + 1) d M pc l st h c s = r := by
  unfold mi_run
  simp only [ht, hi, hp, hv, if_pos hl, hm]
  exact k
theorem mi_st_e (ht : mi_lk (mi_th M) pc = none) (hi : mi_lk (mi_cd M) pc = some (i, 3)) (hp : mi_pure (mi_nL M) 3 i pc l st = none) (hv : mi_ret M i st = none) (hm : (if 3 = mi_ml2 i then mi_mem X M i pc st h c s else none) = none) (he : mi_easy M i st = some st') (k : mi_run X n (d + 1) M (pc + 3) l st' h c s = r) : mi_run X (n + 1) (d + 1) M pc l st h c s = r := by
  unfold mi_run
  simp only [ht, hi, hp, hv, hm, he, if_true]
  exact k
/-- a call that returns: what it does may have been found with less fuel -/
theorem mi_st_c (ht : mi_lk (mi_th M) pc = none) (hi : mi_lk (mi_cd M) pc = some (i, 3)) (hp : mi_pure (mi_nL M) 3 i pc l st = none) (hv : mi_ret M i st = none) (hm : (if 3 = mi_ml2 i then mi_mem X M i pc st h c s else none) = none) (he : mi_easy M i st = none) (hcal : mi_cal M i st h = some (M', args, rest)) (hcat : mi_cat args ≤ mi_nL M')
    {v : Option Value} {n' : Nat} (hn : n' ≤ n) {X0 : mi_X} (hX : X0 = none ∨ X0 = X) (hr : mi_run X0 n' d M' 0 (lv_args 0 args) [] h 0 0 = some (.inl v, h', c', s')) (k : mi_run X n (d + 1) M (pc + 3) l (v.toList ++ rest) h' (c + c') (s + s') = r) : mi_run X (n + 1) (d + 1) M pc l st h c s = r := by
  have hr' : mi_run X n d M' 0 (lv_args 0 args) [] h 0 0 = some (.inl v, h', c', s') := by
    have := mi_run_up hX n' (n - n') d M' 0 (lv_args 0 args) [] h 0 0 _ hr
    rwa [show n' + (n - n') = n by omega] at this
  unfold mi_run
  simp only [ht, hi, hp, hv, hm, he, hcal, if_true, if_pos hcat, hr']
  exact k
/-- a call whose exception is caught here -/
theorem mi_st_h (ht : mi_lk (mi_th M) pc = none) (hi : mi_lk (mi_cd M) pc = some (i, 3)) (hp : mi_pure (mi_nL M) 3 i pc l st = none) (hv : mi_ret M i st = none) (hm : (if 3 = mi_ml2 i then mi_mem X M i pc st h c s else none) = none) (he : mi_easy M i st = none) (hcal : mi_cal M i st h = some (M', args, rest)) (hcat : mi_cat args ≤ mi_nL M')
    {x p' : Nat} {n' : Nat} (hn : n' ≤ n) {X0 : mi_X} (hX : X0 = none ∨ X0 = X) (hr : mi_run X0 n' d M' 0 (lv_args 0 args) [] h 0 0 = some (.inr x, h', c', s')) (hk : mi_kd M' = 1) (hh : mi_hnd M pc x = some p') (k : mi_run X n (d + 1) M p' l [.float 0] h' (c + c') (s + s') = r) : mi_run X (n + 1) (d + 1) M pc l st h c s = r := by
  have hr' : mi_run X n d M' 0 (lv_args 0 args) [] h 0 0 = some (.inr x, h', c', s') := by
    have := mi_run_up hX n' (n - n') d M' 0 (lv_args 0 args) [] h 0 0 _ hr
    rwa [show n' + (n - n') = n by omega] at this
  unfold mi_run
  simp only [ht, hi, hp, hv, hm, he, hcal, if_true, if_pos hcat, hr', if_pos hk, hh]
  exact k
end MST
end
section
/-! ===== the constructors, by evaluation ===== -/
/-- an object of class ci, new -/
def mi_fresh (ci : Nat) : va_E := .inr (ci, match mi_cl[ci]? with | some q => (List.range q.2.2).map (fun j => defaultValue (mi_ty ci j)) | none => [])
/-- a run that returns nothing: how many cells there are, how many were made, how many slots -/
def mi_k0 (r : Option mi_Z) : Option (Nat × Nat × Nat) := match r with
  | some (.inl none, h, c, s) => some (h.length, c, s)
  | _ => none
def mi_hp (r : Option mi_Z) : mi_H := match r with
  | some z => z.2.1
  | none => []
theorem mi_k0_ok {r : Option mi_Z} {k c s : Nat} (h : mi_k0 r = some (k, c, s)) : r = some (.inl none, mi_hp r, c, s) ∧ (mi_hp r).length = k := by
  unfold mi_k0 at h
  split at h
  next h' c' s' => cases h; exact ⟨rfl, rfl⟩
  next => cases h
def mi_r0 : Option mi_Z := mi_run none 9000 20 mi_M0 0 [(0, .ref 0)] [] [mi_fresh 10] 0 0
def mi_h0 : mi_H := mi_hp mi_r0
set_option maxRecDepth 1000000 in
theorem mi_r0_k : mi_k0 mi_r0 = some (55, 54, 24825) := by decide +kernel
end
section
/-! ===== a run that ends in a way that is asked for; single steps of it; what is read of cells ===== -/
/-- object k's field j, if it is of class ci -/
def mi_fv (h : mi_H) (k ci j : Nat) : Option Value := match h[k]? with
  | some (.inr o) => if o.1 = ci then o.2[j]? else none
  | _ => none
/-- array k of ints, bytes or booleans: its kind, its length, what it holds -/
def mi_ai (h : mi_H) (k : Nat) : Option (Nat × Nat × (Nat → Int32)) := match h[k]? with
  | some (.inl (t, n, .inl f)) => some (t, n, f)
  | _ => none
def mi_al (h : mi_H) (k : Nat) : Option (Nat × (Nat → Int64)) := match h[k]? with
  | some (.inl (t, n, .inr (.inl f))) => if t = 1 then some (n, f) else none
  | _ => none
def mi_pw (h : mi_H) (k ci j : Nat) (v : Value) : mi_H := match h[k]? with
  | some (.inr o) => h.set k (.inr (ci, o.2.set j v))
  | _ => h
def mi_aw (h : mi_H) (k i : Nat) (x : Int32) : mi_H := match h[k]? with
  | some (.inl (t, n, .inl f)) => h.set k (.inl (t, n, .inl (upd f i x)))
  | _ => h
def mi_lw' (h : mi_H) (k i : Nat) (x : Int64) : mi_H := match h[k]? with
  | some (.inl (t, n, .inr (.inl f))) => h.set k (.inl (t, n, .inr (.inl (vp_updL f i x))))
  | _ => h
theorem mi_fv_inv {h : mi_H} {k ci j : Nat} {v : Value} (q : mi_fv h k ci j = some v) : ∃ o : List Value, h[k]? = some (.inr (ci, o)) ∧ o[j]? = some v := by
  unfold mi_fv at q
  split at q
  next o ho =>
    split at q
    next hc => obtain ⟨a, b⟩ := o; cases hc; exact ⟨b, ho, q⟩
    next => cases q
  next => cases q
theorem mi_ai_inv {h : mi_H} {k t n : Nat} {f : Nat → Int32} (q : mi_ai h k = some (t, n, f)) : h[k]? = some (.inl (t, n, .inl f)) := by
  unfold mi_ai at q
  split at q
  next t n f ho => cases q; exact ho
  next => cases q
theorem mi_al_inv {h : mi_H} {k n : Nat} {f : Nat → Int64} (q : mi_al h k = some (n, f)) : h[k]? = some (.inl (1, n, .inr (.inl f))) := by
  unfold mi_al at q
  split at q
  next t n f ho =>
    split at q
    next ht => cases ht; cases q; exact ho
    next => cases q
  next => cases q
theorem mi_fv_of {h : mi_H} {k ci j : Nat} {o : List Value} {v : Value} (q : h[k]? = some (.inr (ci, o))) (hj : o[j]? = some v) : mi_fv h k ci j = some v := by
  unfold mi_fv
  rw [q]
  exact (if_pos rfl).trans hj
theorem mi_ai_of {h : mi_H} {k t n : Nat} {f : Nat → Int32} (q : h[k]? = some (.inl (t, n, .inl f))) : mi_ai h k = some (t, n, f) := by
  unfold mi_ai
  rw [q]
theorem mi_al_of {h : mi_H} {k n : Nat} {f : Nat → Int64} (q : h[k]? = some (.inl (1, n, .inr (.inl f)))) : mi_al h k = some (n, f) := by
  unfold mi_al
  rw [q]
  exact if_pos rfl
theorem mi_set_eq {h : mi_H} {k : Nat} {e e' : va_E} (q : h[k]? = some e) : (h.set k e')[k]? = some e' := by
  rw [List.getElem?_set_self (List.getElem?_eq_some_iff.mp q).1]
theorem mi_set_ne {h : mi_H} {k k' : Nat} {e' : va_E} (q : k ≠ k') : (h.set k e')[k']? = h[k']? := List.getElem?_set_ne q
/-! what a write leaves -/
theorem mi_fv_pw {h : mi_H} {k ci j : Nat} {v w : Value} (q : mi_fv h k ci j = some w) : mi_fv (mi_pw h k ci j v) k ci j = some v := by
  obtain ⟨o, h1, h2⟩ := mi_fv_inv q
  unfold mi_pw
  rw [h1]
  exact mi_fv_of (mi_set_eq h1) (List.getElem?_set_self (List.getElem?_eq_some_iff.mp h2).1)
theorem mi_fv_pw_j {h : mi_H} {k k' ci ci' j j' : Nat} {v w : Value} (hne : j ≠ j') (q : mi_fv h k' ci j' = some w) (hc : k = k' → ci' = ci) : mi_fv (mi_pw h k ci' j v) k' ci j' = some w := by
  obtain ⟨o, h1, h2⟩ := mi_fv_inv q
  by_cases hk : k = k'
  · subst hk
    obtain rfl := hc rfl
    unfold mi_pw
    rw [h1]
    exact mi_fv_of (mi_set_eq h1) (by rw [List.getElem?_set_ne hne]; exact h2)
  · unfold mi_pw
    split
    next o' ho => exact mi_fv_of (by rw [mi_set_ne hk]; exact h1) h2
    next => exact q
theorem mi_fv_pw_k {h : mi_H} {k k' ci ci' j j' : Nat} {v : Value} (hk : k ≠ k') : mi_fv (mi_pw h k ci' j v) k' ci j' = mi_fv h k' ci j' := by
  unfold mi_pw
  split
  next o' ho => unfold mi_fv; rw [mi_set_ne hk]
  next => rfl
theorem mi_ai_pw {h : mi_H} {k k' ci j : Nat} {v : Value} : mi_ai (mi_pw h k ci j v) k' = mi_ai h k' := by
  unfold mi_pw
  split
  next o' ho =>
    by_cases hk : k = k'
    · subst hk
      unfold mi_ai
      rw [mi_set_eq ho, ho]
    · unfold mi_ai; rw [mi_set_ne hk]
  next => rfl
theorem mi_al_pw {h : mi_H} {k k' ci j : Nat} {v : Value} : mi_al (mi_pw h k ci j v) k' = mi_al h k' := by
  unfold mi_pw
  split
  next o' ho =>
    by_cases hk : k = k'
    · subst hk
      unfold mi_al
      rw [mi_set_eq ho, ho]
    · unfold mi_al; rw [mi_set_ne hk]
  next => rfl
theorem mi_fv_aw {h : mi_H} {k i k' ci j : Nat} {x : Int32} : mi_fv (mi_aw h k i x) k' ci j = mi_fv h k' ci j := by
  unfold mi_aw
  split
  next t n f ho =>
    by_cases hk : k = k'
    · subst hk
      unfold mi_fv
      rw [mi_set_eq ho, ho]
    · unfold mi_fv; rw [mi_set_ne hk]
  next => rfl
theorem mi_ai_aw {h : mi_H} {k i t n : Nat} {x : Int32} {f : Nat → Int32} (q : mi_ai h k = some (t, n, f)) : mi_ai (mi_aw h k i x) k = some (t, n, upd f i x) := by
  have h1 := mi_ai_inv q
  unfold mi_aw
  rw [h1]
  exact mi_ai_of (mi_set_eq h1)
theorem mi_ai_aw_k {h : mi_H} {k i k' : Nat} {x : Int32} (hk : k ≠ k') : mi_ai (mi_aw h k i x) k' = mi_ai h k' := by
  unfold mi_aw
  split
  next t n f ho => unfold mi_ai; rw [mi_set_ne hk]
  next => rfl
theorem mi_al_aw {h : mi_H} {k i k' : Nat} {x : Int32} : mi_al (mi_aw h k i x) k' = mi_al h k' := by
  unfold mi_aw
  split
  next t n f ho =>
    by_cases hk : k = k'
    · subst hk
      unfold mi_al
      rw [mi_set_eq ho, ho]
    · unfold mi_al; rw [mi_set_ne hk]
  next => rfl
theorem mi_fv_lw {h : mi_H} {k i k' ci j : Nat} {x : Int64} : mi_fv (mi_lw' h k i x) k' ci j = mi_fv h k' ci j := by
  unfold mi_lw'
  split
  next t n f ho =>
    by_cases hk : k = k'
    · subst hk
      unfold mi_fv
      rw [mi_set_eq ho, ho]
    · unfold mi_fv; rw [mi_set_ne hk]
  next => rfl
theorem mi_ai_lw {h : mi_H} {k i k' : Nat} {x : Int64} : mi_ai (mi_lw' h k i x) k' = mi_ai h k' := by
  unfold mi_lw'
  split
  next t n f ho =>
    by_cases hk : k = k'
    · subst hk
      unfold mi_ai
      rw [mi_set_eq ho, ho]
    · unfold mi_ai; rw [mi_set_ne hk]
  next => rfl
theorem mi_al_lw {h : mi_H} {k i n : Nat} {x : Int64} {f : Nat → Int64} (q : mi_al h k = some (n, f)) : mi_al (mi_lw' h k i x) k = some (n, vp_updL f i x) := by
  have h1 := mi_al_inv q
  unfold mi_lw'
  rw [h1]
  exact mi_al_of (mi_set_eq h1)
theorem mi_al_lw_k {h : mi_H} {k i k' : Nat} {x : Int64} (hk : k ≠ k') : mi_al (mi_lw' h k i x) k' = mi_al h k' := by
  unfold mi_lw'
  split
  next t n f ho => unfold mi_al; rw [mi_set_ne hk]
  next => rfl
/-! more cells behind -/
theorem mi_app_l {h : mi_H} {e : va_E} {k : Nat} {x : va_E} (q : h[k]? = some x) : (h ++ [e])[k]? = some x := by
  rw [List.getElem?_append_left (List.getElem?_eq_some_iff.mp q).1]
  exact q
theorem mi_fv_app {h : mi_H} {e : va_E} {k ci j : Nat} {v : Value} (q : mi_fv h k ci j = some v) : mi_fv (h ++ [e]) k ci j = some v := by
  obtain ⟨o, h1, h2⟩ := mi_fv_inv q
  exact mi_fv_of (mi_app_l h1) h2
theorem mi_ai_app {h : mi_H} {e : va_E} {k t n : Nat} {f : Nat → Int32} (q : mi_ai h k = some (t, n, f)) : mi_ai (h ++ [e]) k = some (t, n, f) := mi_ai_of (mi_app_l (mi_ai_inv q))
theorem mi_al_app {h : mi_H} {e : va_E} {k n : Nat} {f : Nat → Int64} (q : mi_al h k = some (n, f)) : mi_al (h ++ [e]) k = some (n, f) := mi_al_of (mi_app_l (mi_al_inv q))
/-! ===== a run that ends as Q asks ===== -/
def mi_wp (X : mi_X) (d : Nat) (M : mi_M) (pc : Nat) (l : mi_L) (st : List Value) (h : mi_H) (c s : Nat) (Q : mi_Z → Prop) : Prop := ∃ n z, mi_run X n d M pc l st h c s = some z ∧ Q z
theorem mi_wp_run {X X' : mi_X} (hX : X = none ∨ X = X') {n d : Nat} {M : mi_M} {pc : Nat} {l : mi_L} {st : List Value} {h : mi_H} {c s : Nat} {Q : mi_Z → Prop} {z : mi_Z} (hr : mi_run X n d M pc l st h c s = some z) (hq : Q z) : mi_wp X' d M pc l st h c s Q := ⟨n + 0, z, mi_run_up hX n 0 d M pc l st h c s z hr, hq⟩
section MWP
variable {X : mi_X} {d : Nat} {M M' : mi_M} {pc pc' len c s c' s' : Nat} {i : Instr} {l l' : mi_L} {st st' args rest : List Value} {h h' : mi_H} {Q : mi_Z → Prop}
theorem mi_wp_q {Q' : mi_Z → Prop} (k : mi_wp X d M pc l st h c s Q') (hq : ∀ z, Q' z → Q z) : mi_wp X d M pc l st h c s Q := by
  obtain ⟨n, z, hr, hz⟩ := k
  exact ⟨n, z, hr, hq z hz⟩
theorem mi_wp_p (ht : mi_lk (mi_th M) pc = none) (hi : mi_lk (mi_cd M) pc = some (i, len)) (hp : mi_pure (mi_nL M) len i pc l st = some (pc', l', st')) (k : mi_wp X d M pc' l' st' h c s Q) : mi_wp X d M pc l st h c s Q := by
  obtain ⟨n, z, hr, hz⟩ := k
  exact ⟨n + 1, z, mi_st_p ht hi hp hr, hz⟩
theorem mi_wp_r (ht : mi_lk (mi_th M) pc = none) (hi : mi_lk (mi_cd M) pc = some (i, 1)) (hp : mi_pure (mi_nL M) 1 i pc l st = none) {v : Option Value} (hv : mi_ret M i st = some v) (hq : Q (.inl v, h, c, s)) : mi_wp X d M pc l st h c s Q := ⟨0 + 1, _, mi_st_r ht hi hp hv, hq⟩
theorem mi_wp_x {t : Nat × Nat × Nat × Nat × Bool} (ht : mi_lk (mi_th M) pc = some t) (hd : 8 ≤ d) (hc : mi_cat st ≤ 8) (hq : Q (.inr t.1, h, c + 1, s + 6)) : mi_wp X d M pc l st h c s Q := ⟨0 + 1, _, mi_st_x ht hd hc, hq⟩
theorem mi_wp_m (ht : mi_lk (mi_th M) pc = none) (hi : mi_lk (mi_cd M) pc = some (i, len)) (hp : mi_pure (mi_nL M) len i pc l st = none) (hv : mi_ret M i st = none) (hl : len = mi_ml2 i) (hm : mi_mem X M i pc st h c s = some (pc', st', h', c', s')) (k : mi_wp X d M pc' l st' h' c' s' Q) : mi_wp X d M pc l st h c s Q := by
  obtain ⟨n, z, hr, hz⟩ := k
  exact ⟨n + 1, z, mi_st_m ht hi hp hv hl hm hr, hz⟩
theorem mi_wp_e (ht : mi_lk (mi_th M) pc = none) (hi : mi_lk (mi_cd M) pc = some (i, 3)) (hp : mi_pure (mi_nL M) 3 i pc l st = none) (hv : mi_ret M i st = none) (hm : (if 3 = mi_ml2 i then mi_mem X M i pc st h c s else none) = none) (he : mi_easy M i st = some st') (k : mi_wp X (d + 1) M (pc + 3) l st' h c s Q) : mi_wp X (d + 1) M pc l st h c s Q := by
  obtain ⟨n, z, hr, hz⟩ := k
  exact ⟨n + 1, z, mi_st_e ht hi hp hv hm he hr, hz⟩
/-- a call: what it comes to, and how it goes on behind each of its ends -/
theorem mi_wp_c (ht : mi_lk (mi_th M) pc = none) (hi : mi_lk (mi_cd M) pc = some (i, 3)) (hp : mi_pure (mi_nL M) 3 i pc l st = none) (hv : mi_ret M i st = none) (hm : (if 3 = mi_ml2 i then mi_mem X M i pc st h c s else none) = none) (he : mi_easy M i st = none) (hcal : mi_cal M i st h = some (M', args, rest)) (hcat : mi_cat args ≤ mi_nL M') {Q' : mi_Z → Prop} (hc : mi_wp X d M' 0 (lv_args 0 args) [] h 0 0 Q')
    (k : ∀ v h' c' s', Q' (.inl v, h', c', s') → mi_wp X (d + 1) M (pc + 3) l (v.toList ++ rest) h' (c + c') (s + s') Q)
    (kx : ∀ x h' c' s', Q' (.inr x, h', c', s') → mi_kd M' = 1 ∧ ∃ p', mi_hnd M pc x = some p' ∧ mi_wp X (d + 1) M p' l [.float 0] h' (c + c') (s + s') Q) : mi_wp X (d + 1) M pc l st h c s Q := by
  obtain ⟨n1, z1, hr1, hz1⟩ := hc
  obtain ⟨a, h', c', s'⟩ := z1
  cases a with
  | inl v =>
    obtain ⟨n, z, hr, hz⟩ := k v h' c' s' hz1
    exact ⟨(n + n1) + 1, z, mi_st_c ht hi hp hv hm he hcal hcat (Nat.le_add_left n1 n) (Or.inr rfl) hr1 (mi_run_up (Or.inr rfl) n n1 _ _ _ _ _ _ _ _ _ hr), hz⟩
  | inr x =>
    obtain ⟨hk, p', hh, n, z, hr, hz⟩ := kx x h' c' s' hz1
    exact ⟨(n + n1) + 1, z, mi_st_h ht hi hp hv hm he hcal hcat (Nat.le_add_left n1 n) (Or.inr rfl) hr1 hk hh (mi_run_up (Or.inr rfl) n n1 _ _ _ _ _ _ _ _ _ hr), hz⟩
/-- a call that returns a value (or nothing) for sure -/
theorem mi_wp_c1 (ht : mi_lk (mi_th M) pc = none) (hi : mi_lk (mi_cd M) pc = some (i, 3)) (hp : mi_pure (mi_nL M) 3 i pc l st = none) (hv : mi_ret M i st = none) (hm : (if 3 = mi_ml2 i then mi_mem X M i pc st h c s else none) = none) (he : mi_easy M i st = none) (hcal : mi_cal M i st h = some (M', args, rest)) (hcat : mi_cat args ≤ mi_nL M') {v : Option Value} {h1 : mi_H} {c1 s1 : Nat} (hc : mi_wp X d M' 0 (lv_args 0 args) [] h 0 0 (fun z => z = (.inl v, h1, c1, s1)))
    (k : mi_wp X (d + 1) M (pc + 3) l (v.toList ++ rest) h1 (c + c1) (s + s1) Q) : mi_wp X (d + 1) M pc l st h c s Q :=
  mi_wp_c ht hi hp hv hm he hcal hcat hc (fun _ _ _ _ e => by cases e; exact k) (fun _ _ _ _ e => by cases e)
/-- a call that throws for sure -/
theorem mi_wp_cx (ht : mi_lk (mi_th M) pc = none) (hi : mi_lk (mi_cd M) pc = some (i, 3)) (hp : mi_pure (mi_nL M) 3 i pc l st = none) (hv : mi_ret M i st = none) (hm : (if 3 = mi_ml2 i then mi_mem X M i pc st h c s else none) = none) (he : mi_easy M i st = none) (hcal : mi_cal M i st h = some (M', args, rest)) (hcat : mi_cat args ≤ mi_nL M') {x p' : Nat} {h1 : mi_H} {c1 s1 : Nat} (hc : mi_wp X d M' 0 (lv_args 0 args) [] h 0 0 (fun z => z = (.inr x, h1, c1, s1)))
    (hk : mi_kd M' = 1) (hh : mi_hnd M pc x = some p') (k : mi_wp X (d + 1) M p' l [.float 0] h1 (c + c1) (s + s1) Q) : mi_wp X (d + 1) M pc l st h c s Q :=
  mi_wp_c ht hi hp hv hm he hcal hcat hc (fun _ _ _ _ e => by cases e) (fun _ _ _ _ e => by cases e; exact ⟨hk, p', hh, k⟩)
/-! branches -/
theorem mi_br1 {k : ClassFile.Cond} {off : Int} {x : Int32} {r : List Value} {t nL : Nat} {b : Bool} (hc : mi_cc k x 0 = b) (hj : mi_jmp pc off = some t) : mi_pure nL 3 (.ifCond k off) pc l (.int x :: r) = some (bif b then t else pc + 3, l, r) := by
  subst hc
  show mi_c1 (fun x => mi_cc k x 0) pc off l (.int x :: r) = _
  have e : mi_c1 (fun x => mi_cc k x 0) pc off l (.int x :: r) = some (if mi_cc k x 0 = true then t else pc + 3, l, r) := by
    unfold mi_c1
    simp only [hj]
  rw [e]
  cases mi_cc k x 0 <;> rfl
theorem mi_br2 {k : ClassFile.Cond} {off : Int} {x y : Int32} {r : List Value} {t nL : Nat} {b : Bool} (hc : mi_cc k x y = b) (hj : mi_jmp pc off = some t) : mi_pure nL 3 (.if_icmp k off) pc l (.int y :: .int x :: r) = some (bif b then t else pc + 3, l, r) := by
  subst hc
  show mi_c2 (fun x y => mi_cc k x y) pc off l (.int y :: .int x :: r) = _
  have e : mi_c2 (fun x y => mi_cc k x y) pc off l (.int y :: .int x :: r) = some (if mi_cc k x y = true then t else pc + 3, l, r) := by
    unfold mi_c2
    simp only [hj]
  rw [e]
  cases mi_cc k x y <;> rfl
/-! cells -/
theorem mi_gf_of {ci j k : Nat} {v : Value} {r : List Value} (hv : mi_fv h k ci j = some v) : mi_gf ci j k pc' r h c s = some (pc', v :: r, h, c, s) := by
  obtain ⟨o, h1, h2⟩ := mi_fv_inv hv
  unfold mi_gf
  simp only [h1, h2, if_true]
theorem mi_wp_gf {idx ci j k : Nat} {v : Value} {r : List Value} (ht : mi_lk (mi_th M) pc = none) (hi : mi_lk (mi_cd M) pc = some (.getfield idx, 3)) (hx : mi_lk (mi_fl (mi_ow M)) idx = some (ci, j)) (hv : mi_fv h k ci j = some v) (kk : mi_wp X d M (pc + 3) l (v :: r) h c s Q) : mi_wp X d M pc l (.ref k :: r) h c s Q := by
  refine mi_wp_m ht hi rfl (by unfold mi_ret; rfl) rfl ?_ kk
  show mi_getf (mi_ow M) idx (pc + 3) (.ref k :: r) h c s = _
  unfold mi_getf
  simp only [hx]
  exact mi_gf_of hv
theorem mi_wp_gfn {idx ci j k : Nat} {v : Value} {r : List Value} (ht : mi_lk (mi_th M) pc = none) (hi : mi_lk (mi_cd M) pc = some (.getfield idx, 3)) (hx : mi_lk (mi_fl (mi_ow M)) idx = none) (hx2 : mi_lk (mi_nf (mi_ow M)) idx = some (ci, j)) (hv : mi_fv h k ci j = some v) (kk : mi_wp X d M (pc + 3) l (v :: r) h c s Q) : mi_wp X d M pc l (.ref k :: r) h c s Q := by
  refine mi_wp_m ht hi rfl (by unfold mi_ret; rfl) rfl ?_ kk
  show mi_getf (mi_ow M) idx (pc + 3) (.ref k :: r) h c s = _
  unfold mi_getf
  simp only [hx, hx2]
  exact mi_gf_of hv
theorem mi_wp_pf {idx ci j k : Nat} {v w : Value} {r : List Value} (ht : mi_lk (mi_th M) pc = none) (hi : mi_lk (mi_cd M) pc = some (.putfield idx, 3)) (hx : mi_lk (mi_fl (mi_ow M)) idx = some (ci, j)) (hv : mi_fv h k ci j = some w) (hf : mi_fit (mi_ty ci j) v = true) (hn : mi_fin ci j = false ∨ (mi_kd M = 2 ∧ mi_ow M = ci)) (kk : mi_wp X d M (pc + 3) l r (mi_pw h k ci j v) c s Q) : mi_wp X d M pc l (v :: .ref k :: r) h c s Q := by
  refine mi_wp_m ht hi rfl (by unfold mi_ret; rfl) rfl ?_ kk
  show mi_putf M idx (pc + 3) (v :: .ref k :: r) h c s = _
  unfold mi_putf
  simp only [hx]
  obtain ⟨o, h1, h2⟩ := mi_fv_inv hv
  unfold mi_pf mi_pw
  simp only [h1]
  exact if_pos ⟨trivial, (List.getElem?_eq_some_iff.mp h2).1, hf, hn⟩
theorem mi_fit_int {x : Int32} : mi_fit .int (.int x) = true := by
  unfold mi_fit
  simp [narrow, fits]
theorem mi_inb_of {j : Int32} {n : Nat} (h0 : 0 ≤ j.toInt) (h1 : j.toInt < n) : mi_inb j n = true := by
  unfold mi_inb
  simp [h0, h1]
theorem mi_wp_ials {n k : Nat} {f : Nat → Int32} {r : List Value} (ht : mi_lk (mi_th M) pc = none) (hi : mi_lk (mi_cd M) pc = some (.iaload, 1)) {j : Int32} (ha : mi_ai h k = some (0, n, f)) (hb : mi_inb j n = true) (kk : mi_wp X d M (pc + 1) l (.int (f j.toNatClampNeg) :: r) h c s Q) : mi_wp X d M pc l (.int j :: .ref k :: r) h c s Q := by
  refine mi_wp_m ht hi rfl (by unfold mi_ret; rfl) rfl ?_ kk
  show (match mi_ald 0 (pc + 1) (.int j :: .ref k :: r) h c s with | some q => some q | none => _) = _
  have : mi_ald 0 (pc + 1) (.int j :: .ref k :: r) h c s = some (pc + 1, .int (f j.toNatClampNeg) :: r, h, c, s) := by
    unfold mi_ald
    simp only [mi_ai_inv ha]
    exact if_pos ⟨trivial, hb⟩
  rw [this]
theorem mi_wp_ias {n k : Nat} {f : Nat → Int32} {x j : Int32} {r : List Value} (ht : mi_lk (mi_th M) pc = none) (hi : mi_lk (mi_cd M) pc = some (.iastore, 1)) (ha : mi_ai h k = some (0, n, f)) (hb : mi_inb j n = true) (kk : mi_wp X d M (pc + 1) l r (mi_aw h k j.toNatClampNeg x) c s Q) : mi_wp X d M pc l (.int x :: .int j :: .ref k :: r) h c s Q := by
  refine mi_wp_m ht hi rfl (by unfold mi_ret; rfl) rfl ?_ kk
  show mi_ast 0 (fun x => x) (pc + 1) (.int x :: .int j :: .ref k :: r) h c s = _
  have h1 := mi_ai_inv ha
  unfold mi_ast mi_aw
  simp only [h1]
  exact if_pos ⟨trivial, hb⟩
theorem mi_wp_bas {n k : Nat} {f : Nat → Int32} {x j : Int32} {r : List Value} (ht : mi_lk (mi_th M) pc = none) (hi : mi_lk (mi_cd M) pc = some (.bastore, 1)) (ha : mi_ai h k = some (2, n, f)) (hb : mi_inb j n = true) (kk : mi_wp X d M (pc + 1) l r (mi_aw h k j.toNatClampNeg (vp_nar .byte x)) c s Q) : mi_wp X d M pc l (.int x :: .int j :: .ref k :: r) h c s Q := by
  refine mi_wp_m ht hi rfl (by unfold mi_ret; rfl) rfl ?_ kk
  show (match mi_ast 2 (vp_nar .byte) (pc + 1) (.int x :: .int j :: .ref k :: r) h c s with | some q => some q | none => _) = _
  have h1 := mi_ai_inv ha
  have : mi_ast 2 (vp_nar .byte) (pc + 1) (.int x :: .int j :: .ref k :: r) h c s = some (pc + 1, r, mi_aw h k j.toNatClampNeg (vp_nar .byte x), c, s) := by
    unfold mi_ast mi_aw
    simp only [h1]
    exact if_pos ⟨trivial, hb⟩
  rw [this]
theorem mi_wp_las {n k : Nat} {f : Nat → Int64} {x : Int64} {j : Int32} {r : List Value} (ht : mi_lk (mi_th M) pc = none) (hi : mi_lk (mi_cd M) pc = some (.lastore, 1)) (ha : mi_al h k = some (n, f)) (hb : mi_inb j n = true) (kk : mi_wp X d M (pc + 1) l r (mi_lw' h k j.toNatClampNeg x) c s Q) : mi_wp X d M pc l (.long x :: .int j :: .ref k :: r) h c s Q := by
  refine mi_wp_m ht hi rfl (by unfold mi_ret; rfl) rfl ?_ kk
  show mi_last (pc + 1) (.long x :: .int j :: .ref k :: r) h c s = _
  have h1 := mi_al_inv ha
  unfold mi_last mi_lw'
  simp only [h1]
  exact if_pos ⟨trivial, hb⟩
theorem mi_wp_lald {n k : Nat} {f : Nat → Int64} {j : Int32} {r : List Value} (ht : mi_lk (mi_th M) pc = none) (hi : mi_lk (mi_cd M) pc = some (.laload, 1)) (ha : mi_al h k = some (n, f)) (hb : mi_inb j n = true) (kk : mi_wp X d M (pc + 1) l (.long (f j.toNatClampNeg) :: r) h c s Q) : mi_wp X d M pc l (.int j :: .ref k :: r) h c s Q := by
  refine mi_wp_m ht hi rfl (by unfold mi_ret; rfl) rfl ?_ kk
  show mi_lald (pc + 1) (.int j :: .ref k :: r) h c s = _
  have h1 := mi_al_inv ha
  unfold mi_lald
  simp only [h1]
  exact if_pos ⟨trivial, hb⟩
/-! what is called -/
theorem mi_rc_of {k ci j : Nat} {v : Value} (q : mi_fv h k ci j = some v) : mi_rc h (.ref k) ci = true := by
  obtain ⟨o, h1, -⟩ := mi_fv_inv q
  unfold mi_rc
  simp only [h1]
  exact beq_self_eq_true ci
theorem mi_cal_v {idx m np : Nat} (hl : mi_lk (mi_ml (mi_ow M)) idx = some m) (hm : mi_mt[m]? = some M') (hk : mi_kd M' = 1) (hn : mi_np M' = np) (hlen : np < st.length) (hc : mi_cat (st.drop (np + 1)) ≤ 8) (hr : mi_rc h (st.getD np .null) (mi_ow M') = true) : mi_cal M (.invokevirtual idx) st h = some (M', (st.take (np + 1)).reverse, st.drop (np + 1)) := by
  subst hn
  unfold mi_cal
  simp only [hl, hm]
  exact if_pos ⟨hk, hlen, hc, hr⟩
theorem mi_cal_s {idx m np : Nat} (hl : mi_lk (mi_ml (mi_ow M)) idx = some m) (hm : mi_mt[m]? = some M') (hk : mi_kd M' = 0 ∨ mi_kd M' = 3) (hn : mi_np M' = np) (hlen : np ≤ st.length) (hc : mi_cat (st.drop np) ≤ 8) : mi_cal M (.invokestatic idx) st h = some (M', (st.take np).reverse, st.drop np) := by
  subst hn
  unfold mi_cal
  simp only [hl, hm]
  exact if_pos ⟨hk, hlen, hc⟩
/-! writes, with what is left of the cells -/
theorem mi_fv_pw_o {k k' ci ci' j j' : Nat} {v w : Value} (hh : mi_fv h k ci j = some v) (q : mi_fv h k' ci' j' = some w) (hne : k' ≠ k ∨ j' ≠ j) {x : Value} : mi_fv (mi_pw h k ci j x) k' ci' j' = some w := by
  by_cases hk : k = k'
  · subst hk
    obtain ⟨o, h1, -⟩ := mi_fv_inv hh
    obtain ⟨o', h2, -⟩ := mi_fv_inv q
    rw [h1] at h2
    cases h2
    exact mi_fv_pw_j (fun e => (hne.resolve_left (fun h => h rfl)) e.symm) q (fun _ => rfl)
  · rw [mi_fv_pw_k hk]
    exact q
theorem mi_pw_len {k ci j : Nat} {v : Value} : (mi_pw h k ci j v).length = h.length := by
  unfold mi_pw
  split
  next => exact List.length_set
  next => rfl
theorem mi_aw_len {k i : Nat} {x : Int32} : (mi_aw h k i x).length = h.length := by
  unfold mi_aw
  split
  next => exact List.length_set
  next => rfl
theorem mi_lw_len {k i : Nat} {x : Int64} : (mi_lw' h k i x).length = h.length := by
  unfold mi_lw'
  split
  next => exact List.length_set
  next => rfl
theorem mi_wp_pfk {idx ci j k : Nat} {v w : Value} {r : List Value} (ht : mi_lk (mi_th M) pc = none) (hi : mi_lk (mi_cd M) pc = some (.putfield idx, 3)) (hx : mi_lk (mi_fl (mi_ow M)) idx = some (ci, j)) (hv : mi_fv h k ci j = some w) (hf : mi_fit (mi_ty ci j) v = true) (hn : mi_fin ci j = false ∨ (mi_kd M = 2 ∧ mi_ow M = ci))
    (kk : ∀ h' : mi_H, mi_fv h' k ci j = some v → (∀ (k' ci' j' : Nat) (w : Value), mi_fv h k' ci' j' = some w → (k' ≠ k ∨ j' ≠ j) → mi_fv h' k' ci' j' = some w) → (∀ k' : Nat, mi_ai h' k' = mi_ai h k') → (∀ k' : Nat, mi_al h' k' = mi_al h k') → h'.length = h.length → mi_wp X d M (pc + 3) l r h' c s Q) : mi_wp X d M pc l (v :: .ref k :: r) h c s Q :=
  mi_wp_pf ht hi hx hv hf hn (kk _ (mi_fv_pw hv) (fun _ _ _ _ q hne => mi_fv_pw_o hv q hne) (fun _ => mi_ai_pw) (fun _ => mi_al_pw) mi_pw_len)
theorem mi_wp_iask {n k : Nat} {f : Nat → Int32} {x j : Int32} {r : List Value} (ht : mi_lk (mi_th M) pc = none) (hi : mi_lk (mi_cd M) pc = some (.iastore, 1)) (ha : mi_ai h k = some (0, n, f)) (hb : mi_inb j n = true)
    (kk : ∀ h' : mi_H, mi_ai h' k = some (0, n, upd f j.toNatClampNeg x) → (∀ (k' ci' j' : Nat), mi_fv h' k' ci' j' = mi_fv h k' ci' j') → (∀ k' : Nat, k' ≠ k → mi_ai h' k' = mi_ai h k') → (∀ k' : Nat, mi_al h' k' = mi_al h k') → h'.length = h.length → mi_wp X d M (pc + 1) l r h' c s Q) : mi_wp X d M pc l (.int x :: .int j :: .ref k :: r) h c s Q :=
  mi_wp_ias ht hi ha hb (kk _ (mi_ai_aw ha) (fun _ _ _ => mi_fv_aw) (fun _ q => mi_ai_aw_k (Ne.symm q)) (fun _ => mi_al_aw) mi_aw_len)
theorem mi_wp_bask {n k : Nat} {f : Nat → Int32} {x j : Int32} {r : List Value} (ht : mi_lk (mi_th M) pc = none) (hi : mi_lk (mi_cd M) pc = some (.bastore, 1)) (ha : mi_ai h k = some (2, n, f)) (hb : mi_inb j n = true)
    (kk : ∀ h' : mi_H, mi_ai h' k = some (2, n, upd f j.toNatClampNeg (vp_nar .byte x)) → (∀ (k' ci' j' : Nat), mi_fv h' k' ci' j' = mi_fv h k' ci' j') → (∀ k' : Nat, k' ≠ k → mi_ai h' k' = mi_ai h k') → (∀ k' : Nat, mi_al h' k' = mi_al h k') → h'.length = h.length → mi_wp X d M (pc + 1) l r h' c s Q) : mi_wp X d M pc l (.int x :: .int j :: .ref k :: r) h c s Q :=
  mi_wp_bas ht hi ha hb (kk _ (mi_ai_aw ha) (fun _ _ _ => mi_fv_aw) (fun _ q => mi_ai_aw_k (Ne.symm q)) (fun _ => mi_al_aw) mi_aw_len)
theorem mi_wp_lask {n k : Nat} {f : Nat → Int64} {x : Int64} {j : Int32} {r : List Value} (ht : mi_lk (mi_th M) pc = none) (hi : mi_lk (mi_cd M) pc = some (.lastore, 1)) (ha : mi_al h k = some (n, f)) (hb : mi_inb j n = true)
    (kk : ∀ h' : mi_H, mi_al h' k = some (n, vp_updL f j.toNatClampNeg x) → (∀ (k' ci' j' : Nat), mi_fv h' k' ci' j' = mi_fv h k' ci' j') → (∀ k' : Nat, mi_ai h' k' = mi_ai h k') → (∀ k' : Nat, k' ≠ k → mi_al h' k' = mi_al h k') → h'.length = h.length → mi_wp X d M (pc + 1) l r h' c s Q) : mi_wp X d M pc l (.long x :: .int j :: .ref k :: r) h c s Q :=
  mi_wp_las ht hi ha hb (kk _ (mi_al_lw ha) (fun _ _ _ => mi_fv_lw) (fun _ => mi_ai_lw) (fun _ q => mi_al_lw_k (Ne.symm q)) mi_lw_len)
/-- a new row of ints -/
theorem mi_wp_nai {k : Nat} {n : Int32} {r : List Value} (ht : mi_lk (mi_th M) pc = none) (hi : mi_lk (mi_cd M) pc = some (.newarray .int, 2)) (hl : h.length = k) (hb : mi_inb n 200001 = true)
    (kk : ∀ h' : mi_H, mi_ai h' k = some (0, n.toNatClampNeg, fun _ => 0) → (∀ (k' ci' j' : Nat) (w : Value), mi_fv h k' ci' j' = some w → mi_fv h' k' ci' j' = some w) → (∀ (k' t m : Nat) (f : Nat → Int32), mi_ai h k' = some (t, m, f) → mi_ai h' k' = some (t, m, f)) → (∀ (k' m : Nat) (f : Nat → Int64), mi_al h k' = some (m, f) → mi_al h' k' = some (m, f)) → h'.length = k + 1 → mi_wp X d M (pc + 2) l (.ref k :: r) h' (c + 1) (s + n.toNatClampNeg) Q) : mi_wp X d M pc l (.int n :: r) h c s Q := by
  subst hl
  refine mi_wp_m ht hi rfl (by unfold mi_ret; rfl) rfl ?_ (kk (h ++ [.inl (0, n.toNatClampNeg, .inl (fun _ => 0))]) (mi_ai_of (by rw [List.getElem?_append_right (Nat.le_refl _)]; simp)) (fun _ _ _ _ q => mi_fv_app q) (fun _ _ _ _ q => mi_ai_app q) (fun _ _ _ q => mi_al_app q) (by simp))
  show mi_nar 0 (fun n => (n, .inl (fun _ => 0))) (pc + 2) (.int n :: r) h c s = _
  unfold mi_nar
  exact if_pos hb
theorem mi_wp_aln {k t n : Nat} {f : Nat → Int32} {r : List Value} (ht : mi_lk (mi_th M) pc = none) (hi : mi_lk (mi_cd M) pc = some (.arraylength, 1)) (ha : mi_ai h k = some (t, n, f)) (h4 : t < 4) (kk : mi_wp X d M (pc + 1) l (.int (Int32.ofNat n) :: r) h c s Q) : mi_wp X d M pc l (.ref k :: r) h c s Q := by
  refine mi_wp_m ht hi rfl (by unfold mi_ret; rfl) rfl ?_ kk
  show mi_alen X (pc + 1) (.ref k :: r) h c s = _
  unfold mi_alen
  simp only [mi_ai_inv ha]
  exact if_pos h4
end MWP
/-- a word of the script -/
theorem mi_wp_sld {L : Nat} {xs : Nat → Int32} {d : Nat} {M : mi_M} {pc c s : Nat} {l : mi_L} {h : mi_H} {Q : mi_Z → Prop} {j x : Int32} {k : Nat} {r : List Value} (ht : mi_lk (mi_th M) pc = none) (hi : mi_lk (mi_cd M) pc = some (.iaload, 1)) (hb : mi_inb j L = true) (hj : j.toNatClampNeg = k) (hx : xs k = x) (kk : mi_wp (some (L, xs)) d M (pc + 1) l (.int x :: r) h c s Q) : mi_wp (some (L, xs)) d M pc l (.int j :: .retAddr 3 :: r) h c s Q := by
  subst hj hx
  refine mi_wp_m ht hi rfl (by unfold mi_ret; rfl) rfl ?_ kk
  show mi_sld (some (L, xs)) (pc + 1) (.int j :: .retAddr 3 :: r) h c s = _
  unfold mi_sld
  exact if_pos ⟨rfl, hb⟩
theorem mi_wp_slen {L : Nat} {xs : Nat → Int32} {d : Nat} {M : mi_M} {pc c s : Nat} {l : mi_L} {h : mi_H} {Q : mi_Z → Prop} {r : List Value} (ht : mi_lk (mi_th M) pc = none) (hi : mi_lk (mi_cd M) pc = some (.arraylength, 1)) (kk : mi_wp (some (L, xs)) d M (pc + 1) l (.int (Int32.ofNat L) :: r) h c s Q) : mi_wp (some (L, xs)) d M pc l (.retAddr 3 :: r) h c s Q := by
  refine mi_wp_m ht hi rfl (by unfold mi_ret; rfl) rfl ?_ kk
  show mi_alen (some (L, xs)) (pc + 1) (.retAddr 3 :: r) h c s = _
  unfold mi_alen
  rfl
section MWQ
variable {X : mi_X} {d : Nat} {M M' : mi_M} {pc c s : Nat} {i : Instr} {l : mi_L} {st args rest : List Value} {h : mi_H} {Q : mi_Z → Prop}
/-- a call that returns v for sure, and leaves cells of which P is known -/
theorem mi_wp_ce (ht : mi_lk (mi_th M) pc = none) (hi : mi_lk (mi_cd M) pc = some (i, 3)) (hp : mi_pure (mi_nL M) 3 i pc l st = none) (hv : mi_ret M i st = none) (hm : (if 3 = mi_ml2 i then mi_mem X M i pc st h c s else none) = none) (he : mi_easy M i st = none) (hcal : mi_cal M i st h = some (M', args, rest)) (hcat : mi_cat args ≤ mi_nL M') {v : Option Value} {c1 s1 : Nat} {P : mi_H → Prop} (hc : mi_wp X d M' 0 (lv_args 0 args) [] h 0 0 (fun z => ∃ h', z = (.inl v, h', c1, s1) ∧ P h'))
    (k : ∀ h' : mi_H, P h' → mi_wp X (d + 1) M (pc + 3) l (v.toList ++ rest) h' (c + c1) (s + s1) Q) : mi_wp X (d + 1) M pc l st h c s Q :=
  mi_wp_c ht hi hp hv hm he hcal hcat hc (fun _ _ _ _ ⟨h', e, g⟩ => by cases e; exact k _ g) (fun _ _ _ _ ⟨h', e, g⟩ => by cases e)
theorem mi_wp_laldv {n k : Nat} {f : Nat → Int64} {j : Int32} {v : Int64} {r : List Value} (ht : mi_lk (mi_th M) pc = none) (hi : mi_lk (mi_cd M) pc = some (.laload, 1)) (ha : mi_al h k = some (n, f)) (hb : mi_inb j n = true) (hj : j.toNatClampNeg = 0) (hv : f 0 = v) (kk : mi_wp X d M (pc + 1) l (.long v :: r) h c s Q) : mi_wp X d M pc l (.int j :: .ref k :: r) h c s Q := by
  subst hv
  refine mi_wp_lald ht hi ha hb ?_
  rw [hj]
  exact kk
end MWQ
theorem mi_i01 (a : Int32) : a < Int32.ofInt 0 ∨ (0 : Int32) - Int32.ofInt 1 < a := by
  rw [Int32.lt_iff_toInt_lt, Int32.lt_iff_toInt_lt, show (Int32.ofInt 0).toInt = 0 by decide, show ((0 : Int32) - Int32.ofInt 1).toInt = -1 by decide]
  omega
theorem mi_ige {a b : Int32} (h : ¬ a < b) : b ≤ a := Int32.not_lt.mp h
end
section
/-! ===== what a first call reaches, on a fresh object (printed by wip/gen/p1walk.py) ===== -/
theorem mi_wp_l {X : mi_X} {d : Nat} {M : mi_M} {pc : Nat} {l l' : mi_L} {st : List Value} {h : mi_H} {c s : Nat} {Q : mi_Z → Prop} (e : l = l') (k : mi_wp X d M pc l' st h c s Q) : mi_wp X d M pc l st h c s Q := by rw [e]; exact k
theorem mi_ret_i {M : mi_M} {v : Int32} (hr : mi_rt M = some .int) : mi_ret M .ireturn [.int v] = some (some (.int v)) := by
  unfold mi_ret
  simp [hr, narrow]
theorem mi_o0 {f : Nat → Int64} {j : Nat} {v w : Int64} (hj : j = 0) (e : v = w) : vp_updL f j v 0 = w := by
  subst hj e
  exact if_pos rfl
theorem mi_zi {x y : Int32} {h : mi_H} {c s : Nat} (e : x = y) : ((.inl (some (.int x)), h, c, s) : mi_Z) = (.inl (some (.int y)), h, c, s) := by rw [e]
theorem mi_eqi {h : mi_H} {k ci j : Nat} {x y : Int32} (q : mi_fv h k ci j = some (.int x)) (e : x = y) : mi_fv h k ci j = some (.int y) := by rw [← e]; exact q
theorem mi_ix {a lo hi : Int32} (h : hi < lo) : a < lo ∨ hi < a := by
  rw [Int32.lt_iff_toInt_lt] at h
  rw [Int32.lt_iff_toInt_lt, Int32.lt_iff_toInt_lt]
  omega
theorem mi_i0 {a : Int32} (h : a ≠ 0) : a < Int32.ofInt 0 ∨ (0 : Int32) < a := by
  by_cases ha : a < 0
  · exact Or.inl ha
  · exact Or.inr (Int32.lt_of_le_of_ne (mi_ige ha) (Ne.symm h))
theorem mi_k_def {X : mi_X} {d : Nat} {h : mi_H} {a : Int32} (f0 : mi_fv h 17 3 14 = some (.int 0)) : mi_wp X d mi_M31 0 [(0, .ref 17), (1, .int a)] [] h 0 0 (fun z => z = (.inl (some (.int (Int32.ofInt 0))), h, 0, 0)) := by
  by_cases ha : a < 0
  · refine mi_wp_p (pc' := 1) rfl rfl rfl ?_
    refine mi_wp_p (pc' := 16) rfl rfl (mi_br1 (b := true) (t := 16) (decide_eq_true ha) rfl) ?_
    refine mi_wp_p (pc' := 17) rfl rfl rfl ?_
    exact mi_wp_r rfl rfl rfl rfl rfl
  · refine mi_wp_p (pc' := 1) rfl rfl rfl ?_
    refine mi_wp_p (pc' := 4) rfl rfl (mi_br1 (b := false) (t := 16) (decide_eq_false ha) rfl) ?_
    refine mi_wp_p (pc' := 5) rfl rfl rfl ?_
    refine mi_wp_p (pc' := 6) rfl rfl rfl ?_
    refine mi_wp_gf rfl rfl rfl f0 ?_
    refine mi_wp_p (pc' := 16) rfl rfl (mi_br2 (b := true) (t := 16) (decide_eq_true (mi_ige ha)) rfl) ?_
    refine mi_wp_p (pc' := 17) rfl rfl rfl ?_
    exact mi_wp_r rfl rfl rfl rfl rfl
theorem mi_k_ic {X : mi_X} {d : Nat} {h : mi_H} (f0 : mi_fv h 17 3 13 = some (.int 2)) : mi_wp X d mi_M33 0 [(0, .ref 17)] [] h 0 0 (fun z => z = (.inl (some (.int ((2 : Int32) - Int32.ofInt 2))), h, 0, 0)) := by
  refine mi_wp_p (pc' := 1) rfl rfl rfl ?_
  refine mi_wp_gf rfl rfl rfl f0 ?_
  refine mi_wp_p (pc' := 5) rfl rfl rfl ?_
  refine mi_wp_p (pc' := 6) rfl rfl rfl ?_
  exact mi_wp_r rfl rfl rfl rfl rfl
theorem mi_k_hc {X : mi_X} {h : mi_H} {a : Int32} (f0 : mi_fv h 17 3 13 = some (.int 2)) : mi_wp X 18 mi_M32 0 [(0, .ref 17), (1, .int a)] [] h 0 0 (fun z => z = (.inl (some (.int (Int32.ofInt 0))), h, 0, 0)) := by
  have hd : 8 ≤ 18 := by decide
  by_cases ha : a < 0
  · refine mi_wp_p (pc' := 1) rfl rfl rfl ?_
    refine mi_wp_p (pc' := 16) rfl rfl (mi_br1 (b := true) (t := 16) (decide_eq_true ha) rfl) ?_
    refine mi_wp_p (pc' := 17) rfl rfl rfl ?_
    exact mi_wp_r rfl rfl rfl rfl rfl
  · refine mi_wp_p (pc' := 1) rfl rfl rfl ?_
    refine mi_wp_p (pc' := 4) rfl rfl (mi_br1 (b := false) (t := 16) (decide_eq_false ha) rfl) ?_
    refine mi_wp_p (pc' := 5) rfl rfl rfl ?_
    refine mi_wp_p (pc' := 6) rfl rfl rfl ?_
    refine mi_wp_c1 rfl rfl rfl rfl rfl rfl (mi_cal_v (np := 0) rfl rfl rfl rfl (Nat.le_of_ble_eq_true rfl) (Nat.le_of_ble_eq_true rfl) (mi_rc_of f0)) (Nat.le_of_ble_eq_true rfl) (mi_k_ic f0) ?_
    refine mi_wp_p (pc' := 16) rfl rfl (mi_br2 (b := true) (t := 16) (decide_eq_true (mi_ige ha)) rfl) ?_
    refine mi_wp_p (pc' := 17) rfl rfl rfl ?_
    exact mi_wp_r rfl rfl rfl rfl rfl
theorem mi_k_sa {X : mi_X} {d : Nat} {h : mi_H} {a : Int32} (f0 : mi_fv h 26 6 7 = some (.int 0)) : mi_wp X d mi_M55 0 [(0, .ref 26), (1, .int a)] [] h 0 0 (fun z => z = (.inl (some (.int (Int32.ofInt (-1)))), h, 0, 0)) := by
  refine mi_wp_p (pc' := 1) rfl rfl rfl ?_
  refine mi_wp_p (pc' := 2) rfl rfl rfl ?_
  refine mi_wp_m rfl rfl rfl rfl rfl rfl ?_
  refine mi_wp_p (pc' := 5) rfl rfl rfl ?_
  refine mi_wp_p (pc' := 6) rfl rfl rfl ?_
  refine mi_wp_p (pc' := 8) rfl rfl rfl ?_
  refine mi_wp_p (pc' := 10) rfl rfl rfl ?_
  refine mi_wp_p (pc' := 11) rfl rfl rfl ?_
  refine mi_wp_gf rfl rfl rfl f0 ?_
  refine mi_wp_p (pc' := 107) rfl rfl (mi_br2 (b := true) (t := 107) (by decide +kernel) rfl) ?_
  refine mi_wp_p (pc' := 108) rfl rfl rfl ?_
  exact mi_wp_r rfl rfl rfl rfl rfl
theorem mi_k_ws {X : mi_X} {d : Nat} {h : mi_H} (f0 : mi_fv h 52 9 5 = some (.int 0)) : mi_wp X d mi_M75 0 [(0, .ref 52)] [] h 0 0 (fun z => z = (.inl (some (.int 0)), h, 0, 0)) := by
  refine mi_wp_p (pc' := 1) rfl rfl rfl ?_
  refine mi_wp_gf rfl rfl rfl f0 ?_
  exact mi_wp_r rfl rfl rfl rfl rfl
theorem mi_k_it {X : mi_X} {d : Nat} {h : mi_H} (f0 : mi_fv h 17 3 12 = some (.int 3)) : mi_wp X d mi_M34 0 [(0, .ref 17)] [] h 0 0 (fun z => z = (.inl (some (.int 0)), h, 0, 0)) := by
  refine mi_wp_p (pc' := 1) rfl rfl rfl ?_
  refine mi_wp_gf rfl rfl rfl f0 ?_
  refine mi_wp_p (pc' := 5) rfl rfl rfl ?_
  refine mi_wp_p (pc' := 6) rfl rfl rfl ?_
  exact mi_wp_r rfl rfl rfl rfl (mi_zi (by decide +kernel))
theorem mi_k_ic0 {X : mi_X} {d : Nat} {h : mi_H} (f0 : mi_fv h 17 3 13 = some (.int 2)) : mi_wp X d mi_M33 0 [(0, .ref 17)] [] h 0 0 (fun z => z = (.inl (some (.int 0)), h, 0, 0)) := by
  refine mi_wp_p (pc' := 1) rfl rfl rfl ?_
  refine mi_wp_gf rfl rfl rfl f0 ?_
  refine mi_wp_p (pc' := 5) rfl rfl rfl ?_
  refine mi_wp_p (pc' := 6) rfl rfl rfl ?_
  exact mi_wp_r rfl rfl rfl rfl (mi_zi (by decide +kernel))
theorem mi_k_ds {X : mi_X} {d : Nat} {h : mi_H} (f0 : mi_fv h 17 3 14 = some (.int 0)) : mi_wp X d mi_M29 0 [(0, .ref 17)] [] h 0 0 (fun z => z = (.inl (some (.int 0)), h, 0, 0)) := by
  refine mi_wp_p (pc' := 1) rfl rfl rfl ?_
  refine mi_wp_gf rfl rfl rfl f0 ?_
  exact mi_wp_r rfl rfl rfl rfl (mi_zi (by decide +kernel))
theorem mi_c_write {X : mi_X} {h : mi_H} {a : Int32} (g0 : mi_fv h 0 10 4 = some (.ref 17)) (f0 : mi_fv h 17 3 14 = some (.int 0)) : mi_wp X 19 mi_M17 0 [(0, .ref 0), (1, .int a)] [] h 0 0 (fun z => z = (.inr 2, h, 1, 6)) := by
  have hd : 8 ≤ 19 := by decide
  refine mi_wp_p (pc' := 1) rfl rfl rfl ?_
  refine mi_wp_gf rfl rfl rfl g0 ?_
  refine mi_wp_p (pc' := 5) rfl rfl rfl ?_
  refine mi_wp_c1 rfl rfl rfl rfl rfl rfl (mi_cal_v (np := 1) rfl rfl rfl rfl (Nat.le_of_ble_eq_true rfl) (Nat.le_of_ble_eq_true rfl) (mi_rc_of f0)) (Nat.le_of_ble_eq_true rfl) (mi_k_def f0) ?_
  refine mi_wp_p (pc' := 11) rfl rfl (mi_br1 (b := false) (t := 21) (by decide +kernel) rfl) ?_
  exact mi_wp_x rfl hd (Nat.le_of_ble_eq_true rfl) rfl
theorem mi_c_writeConstructor {X : mi_X} {h : mi_H} {a : Int32} (g0 : mi_fv h 0 10 4 = some (.ref 17)) (f0 : mi_fv h 17 3 13 = some (.int 2)) : mi_wp X 19 mi_M19 0 [(0, .ref 0), (1, .int a)] [] h 0 0 (fun z => z = (.inr 2, h, 1, 6)) := by
  have hd : 8 ≤ 19 := by decide
  refine mi_wp_p (pc' := 1) rfl rfl rfl ?_
  refine mi_wp_gf rfl rfl rfl g0 ?_
  refine mi_wp_p (pc' := 5) rfl rfl rfl ?_
  refine mi_wp_c1 rfl rfl rfl rfl rfl rfl (mi_cal_v (np := 1) rfl rfl rfl rfl (Nat.le_of_ble_eq_true rfl) (Nat.le_of_ble_eq_true rfl) (mi_rc_of f0)) (Nat.le_of_ble_eq_true rfl) (mi_k_hc f0) ?_
  refine mi_wp_p (pc' := 11) rfl rfl (mi_br1 (b := false) (t := 21) (by decide +kernel) rfl) ?_
  exact mi_wp_x rfl hd (Nat.le_of_ble_eq_true rfl) rfl
theorem mi_c_writeAt {X : mi_X} {h : mi_H} {a : Int32} (g0 : mi_fv h 0 10 5 = some (.ref 26)) (f0 : mi_fv h 26 6 7 = some (.int 0)) : mi_wp X 19 mi_M18 0 [(0, .ref 0), (1, .int a)] [] h 0 0 (fun z => z = (.inr 2, h, 1, 6)) := by
  have hd : 8 ≤ 19 := by decide
  refine mi_wp_p (pc' := 1) rfl rfl rfl ?_
  refine mi_wp_gf rfl rfl rfl g0 ?_
  refine mi_wp_p (pc' := 5) rfl rfl rfl ?_
  refine mi_wp_c1 rfl rfl rfl rfl rfl rfl (mi_cal_v (np := 1) rfl rfl rfl rfl (Nat.le_of_ble_eq_true rfl) (Nat.le_of_ble_eq_true rfl) (mi_rc_of f0)) (Nat.le_of_ble_eq_true rfl) (mi_k_sa f0) ?_
  refine mi_wp_p (pc' := 9) rfl rfl rfl ?_
  refine mi_wp_p (pc' := 10) rfl rfl rfl ?_
  refine mi_wp_p (pc' := 13) rfl rfl (mi_br1 (b := false) (t := 23) (by decide +kernel) rfl) ?_
  exact mi_wp_x rfl hd (Nat.le_of_ble_eq_true rfl) rfl
theorem mi_c_byteAt {X : mi_X} {h : mi_H} {a : Int32} (g0 : mi_fv h 0 10 9 = some (.ref 52)) (f0 : mi_fv h 52 9 5 = some (.int 0)) : mi_wp X 19 mi_M4 0 [(0, .ref 0), (1, .int a)] [] h 0 0 (fun z => z = (.inr 2, h, 1, 6)) := by
  have hd : 8 ≤ 19 := by decide
  by_cases ha : a < 0
  · refine mi_wp_p (pc' := 1) rfl rfl rfl ?_
    refine mi_wp_p (pc' := 15) rfl rfl (mi_br1 (b := true) (t := 15) (decide_eq_true ha) rfl) ?_
    exact mi_wp_x rfl hd (Nat.le_of_ble_eq_true rfl) rfl
  · refine mi_wp_p (pc' := 1) rfl rfl rfl ?_
    refine mi_wp_p (pc' := 4) rfl rfl (mi_br1 (b := false) (t := 15) (decide_eq_false ha) rfl) ?_
    refine mi_wp_p (pc' := 5) rfl rfl rfl ?_
    refine mi_wp_p (pc' := 6) rfl rfl rfl ?_
    refine mi_wp_gf rfl rfl rfl g0 ?_
    refine mi_wp_c1 rfl rfl rfl rfl rfl rfl (mi_cal_v (np := 0) rfl rfl rfl rfl (Nat.le_of_ble_eq_true rfl) (Nat.le_of_ble_eq_true rfl) (mi_rc_of f0)) (Nat.le_of_ble_eq_true rfl) (mi_k_ws f0) ?_
    refine mi_wp_p (pc' := 15) rfl rfl (mi_br2 (b := false) (t := 25) (decide_eq_false ha) rfl) ?_
    exact mi_wp_x rfl hd (Nat.le_of_ble_eq_true rfl) rfl
theorem mi_c_measure {X : mi_X} {h : mi_H} {a b : Int32} (g0 : mi_fv h 0 10 4 = some (.ref 17)) (f0 : mi_fv h 17 3 14 = some (.int 0)) : mi_wp X 19 mi_M13 0 [(0, .ref 0), (1, .int a), (2, .int b)] [] h 0 0 (fun z => z = (.inr 2, h, 1, 6)) := by
  have hd : 8 ≤ 19 := by decide
  refine mi_wp_p (pc' := 1) rfl rfl rfl ?_
  refine mi_wp_gf rfl rfl rfl g0 ?_
  refine mi_wp_p (pc' := 5) rfl rfl rfl ?_
  refine mi_wp_c1 rfl rfl rfl rfl rfl rfl (mi_cal_v (np := 1) rfl rfl rfl rfl (Nat.le_of_ble_eq_true rfl) (Nat.le_of_ble_eq_true rfl) (mi_rc_of f0)) (Nat.le_of_ble_eq_true rfl) (mi_k_def f0) ?_
  refine mi_wp_p (pc' := 20) rfl rfl (mi_br1 (b := true) (t := 20) (by decide +kernel) rfl) ?_
  exact mi_wp_x rfl hd (Nat.le_of_ble_eq_true rfl) rfl
theorem mi_c_uses {X : mi_X} {h : mi_H} {a b : Int32} (g0 : mi_fv h 0 10 4 = some (.ref 17)) (f0 : mi_fv h 17 3 14 = some (.int 0)) : mi_wp X 19 mi_M16 0 [(0, .ref 0), (1, .int a), (2, .int b)] [] h 0 0 (fun z => z = (.inr 2, h, 1, 6)) := by
  have hd : 8 ≤ 19 := by decide
  refine mi_wp_p (pc' := 1) rfl rfl rfl ?_
  refine mi_wp_gf rfl rfl rfl g0 ?_
  refine mi_wp_p (pc' := 5) rfl rfl rfl ?_
  refine mi_wp_c1 rfl rfl rfl rfl rfl rfl (mi_cal_v (np := 1) rfl rfl rfl rfl (Nat.le_of_ble_eq_true rfl) (Nat.le_of_ble_eq_true rfl) (mi_rc_of f0)) (Nat.le_of_ble_eq_true rfl) (mi_k_def f0) ?_
  refine mi_wp_p (pc' := 22) rfl rfl (mi_br1 (b := true) (t := 22) (by decide +kernel) rfl) ?_
  exact mi_wp_x rfl hd (Nat.le_of_ble_eq_true rfl) rfl
theorem mi_c_covers {X : mi_X} {h : mi_H} {a b : Int32} (g0 : mi_fv h 0 10 4 = some (.ref 17)) (f0 : mi_fv h 17 3 14 = some (.int 0)) : mi_wp X 19 mi_M7 0 [(0, .ref 0), (1, .int a), (2, .int b)] [] h 0 0 (fun z => z = (.inr 2, h, 1, 6)) := by
  have hd : 8 ≤ 19 := by decide
  refine mi_wp_p (pc' := 1) rfl rfl rfl ?_
  refine mi_wp_gf rfl rfl rfl g0 ?_
  refine mi_wp_p (pc' := 5) rfl rfl rfl ?_
  refine mi_wp_c1 rfl rfl rfl rfl rfl rfl (mi_cal_v (np := 1) rfl rfl rfl rfl (Nat.le_of_ble_eq_true rfl) (Nat.le_of_ble_eq_true rfl) (mi_rc_of f0)) (Nat.le_of_ble_eq_true rfl) (mi_k_def f0) ?_
  refine mi_wp_p (pc' := 22) rfl rfl (mi_br1 (b := true) (t := 22) (by decide +kernel) rfl) ?_
  exact mi_wp_x rfl hd (Nat.le_of_ble_eq_true rfl) rfl
theorem mi_c_meet {X : mi_X} {h : mi_H} {a b : Int32} (g0 : mi_fv h 0 10 4 = some (.ref 17)) (f0 : mi_fv h 17 3 14 = some (.int 0)) : mi_wp X 19 mi_M14 0 [(0, .ref 0), (1, .int a), (2, .int b)] [] h 0 0 (fun z => z = (.inr 2, h, 1, 6)) := by
  have hd : 8 ≤ 19 := by decide
  refine mi_wp_p (pc' := 1) rfl rfl rfl ?_
  refine mi_wp_gf rfl rfl rfl g0 ?_
  refine mi_wp_p (pc' := 5) rfl rfl rfl ?_
  refine mi_wp_c1 rfl rfl rfl rfl rfl rfl (mi_cal_v (np := 1) rfl rfl rfl rfl (Nat.le_of_ble_eq_true rfl) (Nat.le_of_ble_eq_true rfl) (mi_rc_of f0)) (Nat.le_of_ble_eq_true rfl) (mi_k_def f0) ?_
  refine mi_wp_p (pc' := 22) rfl rfl (mi_br1 (b := true) (t := 22) (by decide +kernel) rfl) ?_
  exact mi_wp_x rfl hd (Nat.le_of_ble_eq_true rfl) rfl
theorem mi_c_trimx {X : mi_X} {h : mi_H} {a : Int32} (f0 : mi_fv h 0 10 10 = some (.int 0)) (hne : a ≠ 0) : mi_wp X 19 mi_M15 0 [(0, .ref 0), (1, .int a)] [] h 0 0 (fun z => z = (.inr 1, h, 1, 6)) := by
  have hd : 8 ≤ 19 := by decide
  by_cases ha : a < 0
  · refine mi_wp_p (pc' := 1) rfl rfl rfl ?_
    refine mi_wp_p (pc' := 12) rfl rfl (mi_br1 (b := true) (t := 12) (decide_eq_true ha) rfl) ?_
    exact mi_wp_x rfl hd (Nat.le_of_ble_eq_true rfl) rfl
  · refine mi_wp_p (pc' := 1) rfl rfl rfl ?_
    refine mi_wp_p (pc' := 4) rfl rfl (mi_br1 (b := false) (t := 12) (decide_eq_false ha) rfl) ?_
    refine mi_wp_p (pc' := 5) rfl rfl rfl ?_
    refine mi_wp_p (pc' := 6) rfl rfl rfl ?_
    refine mi_wp_gf rfl rfl rfl f0 ?_
    refine mi_wp_p (pc' := 12) rfl rfl (mi_br2 (b := false) (t := 22) (decide_eq_false (fun q => hne (Int32.le_antisymm q (mi_ige ha)))) rfl) ?_
    exact mi_wp_x rfl hd (Nat.le_of_ble_eq_true rfl) rfl
theorem mi_c_trim0 {X : mi_X} {h : mi_H} {f : Nat → Int64} (f0 : mi_fv h 0 10 10 = some (.int 0)) (r0 : mi_fv h 55 11 0 = some (.int 0)) (r1 : mi_fv h 55 11 2 = some (.int 0)) (a1 : mi_al h 98 = some (1, f)) : mi_wp X 19 mi_M15 0 [(0, .ref 0), (1, .int 0)] [] h 0 0 (fun z => ∃ h', z = (.inl (some (.int 0)), h', 0, 0) ∧ mi_fv h' 55 11 0 = some (.int 0) ∧ mi_fv h' 55 11 2 = some (.int 0) ∧ mi_al h' 98 = some (1, f)) := by
  have hd : 8 ≤ 19 := by decide
  refine mi_wp_p (pc' := 1) rfl rfl rfl ?_
  refine mi_wp_p (pc' := 4) rfl rfl (mi_br1 (b := false) (t := 12) (by decide +kernel) rfl) ?_
  refine mi_wp_p (pc' := 5) rfl rfl rfl ?_
  refine mi_wp_p (pc' := 6) rfl rfl rfl ?_
  refine mi_wp_gf rfl rfl rfl f0 ?_
  refine mi_wp_p (pc' := 22) rfl rfl (mi_br2 (b := true) (t := 22) (by decide +kernel) rfl) ?_
  refine mi_wp_p (pc' := 23) rfl rfl rfl ?_
  refine mi_wp_p (pc' := 24) rfl rfl rfl ?_
  refine mi_wp_pfk rfl rfl rfl f0 mi_fit_int (Or.inl rfl) ?_
  intro h1 e1 e2 e3 e4 e5
  replace f0 := mi_eqi (y := 0) e1 (by decide +kernel)
  replace r0 := e2 _ _ _ _ r0 (by decide)
  replace r1 := e2 _ _ _ _ r1 (by decide)
  replace a1 := (e4 _).trans a1
  clear e1 e2 e3 e4 e5
  refine mi_wp_p (pc' := 28) rfl rfl rfl ?_
  exact mi_wp_r rfl rfl rfl rfl ⟨_, rfl, r0, r1, a1⟩
theorem mi_c_countx {X : mi_X} {h : mi_H} {a : Int32} (hx : a < 0 ∨ Int32.ofInt 5 ≤ a) : mi_wp X 19 mi_M6 0 [(0, .ref 0), (1, .int a)] [] h 0 0 (fun z => z = (.inr 2, h, 1, 6)) := by
  have hd : 8 ≤ 19 := by decide
  by_cases ha : a < 0
  · refine mi_wp_p (pc' := 1) rfl rfl rfl ?_
    refine mi_wp_p (pc' := 9) rfl rfl (mi_br1 (b := true) (t := 9) (decide_eq_true ha) rfl) ?_
    exact mi_wp_x rfl hd (Nat.le_of_ble_eq_true rfl) rfl
  · refine mi_wp_p (pc' := 1) rfl rfl rfl ?_
    refine mi_wp_p (pc' := 4) rfl rfl (mi_br1 (b := false) (t := 9) (decide_eq_false ha) rfl) ?_
    refine mi_wp_p (pc' := 5) rfl rfl rfl ?_
    refine mi_wp_p (pc' := 6) rfl rfl rfl ?_
    refine mi_wp_p (pc' := 9) rfl rfl (mi_br2 (b := false) (t := 19) (decide_eq_false (Int32.not_lt.mpr (hx.resolve_left ha))) rfl) ?_
    exact mi_wp_x rfl hd (Nat.le_of_ble_eq_true rfl) rfl
theorem mi_c_amount0 {X : mi_X} {h : mi_H} (g0 : mi_fv h 0 10 4 = some (.ref 17)) (f0 : mi_fv h 17 3 12 = some (.int 3)) : mi_wp X 18 mi_M1 0 [(0, .ref 0), (1, .int 0)] [] h 0 0 (fun z => z = (.inl (some (.int 0)), h, 0, 0)) := by
  have hd : 8 ≤ 18 := by decide
  refine mi_wp_p (pc' := 1) rfl rfl rfl ?_
  refine mi_wp_p (pc' := 32) rfl rfl rfl ?_
  refine mi_wp_p (pc' := 33) rfl rfl rfl ?_
  refine mi_wp_gf rfl rfl rfl g0 ?_
  refine mi_wp_c1 rfl rfl rfl rfl rfl rfl (mi_cal_v (np := 0) rfl rfl rfl rfl (Nat.le_of_ble_eq_true rfl) (Nat.le_of_ble_eq_true rfl) (mi_rc_of f0)) (Nat.le_of_ble_eq_true rfl) (mi_k_it f0) ?_
  exact mi_wp_r rfl rfl rfl rfl rfl
theorem mi_c_count0 {X : mi_X} {h : mi_H} (g0 : mi_fv h 0 10 4 = some (.ref 17)) (f0 : mi_fv h 17 3 12 = some (.int 3)) : mi_wp X 19 mi_M6 0 [(0, .ref 0), (1, .int 0)] [] h 0 0 (fun z => z = (.inl (some (.int 0)), h, 0, 0)) := by
  have hd : 8 ≤ 19 := by decide
  refine mi_wp_p (pc' := 1) rfl rfl rfl ?_
  refine mi_wp_p (pc' := 4) rfl rfl (mi_br1 (b := false) (t := 9) (by decide +kernel) rfl) ?_
  refine mi_wp_p (pc' := 5) rfl rfl rfl ?_
  refine mi_wp_p (pc' := 6) rfl rfl rfl ?_
  refine mi_wp_p (pc' := 19) rfl rfl (mi_br2 (b := true) (t := 19) (by decide +kernel) rfl) ?_
  refine mi_wp_p (pc' := 20) rfl rfl rfl ?_
  refine mi_wp_p (pc' := 21) rfl rfl rfl ?_
  refine mi_wp_c1 rfl rfl rfl rfl rfl rfl (mi_cal_v (np := 1) rfl rfl rfl rfl (Nat.le_of_ble_eq_true rfl) (Nat.le_of_ble_eq_true rfl) (mi_rc_of g0)) (Nat.le_of_ble_eq_true rfl) (mi_c_amount0 g0 f0) ?_
  exact mi_wp_r rfl rfl rfl rfl rfl
theorem mi_c_amount1 {X : mi_X} {h : mi_H} (g0 : mi_fv h 0 10 4 = some (.ref 17)) (f0 : mi_fv h 17 3 13 = some (.int 2)) : mi_wp X 18 mi_M1 0 [(0, .ref 0), (1, .int 1)] [] h 0 0 (fun z => z = (.inl (some (.int 0)), h, 0, 0)) := by
  have hd : 8 ≤ 18 := by decide
  refine mi_wp_p (pc' := 1) rfl rfl rfl ?_
  refine mi_wp_p (pc' := 40) rfl rfl rfl ?_
  refine mi_wp_p (pc' := 41) rfl rfl rfl ?_
  refine mi_wp_gf rfl rfl rfl g0 ?_
  refine mi_wp_c1 rfl rfl rfl rfl rfl rfl (mi_cal_v (np := 0) rfl rfl rfl rfl (Nat.le_of_ble_eq_true rfl) (Nat.le_of_ble_eq_true rfl) (mi_rc_of f0)) (Nat.le_of_ble_eq_true rfl) (mi_k_ic0 f0) ?_
  exact mi_wp_r rfl rfl rfl rfl rfl
theorem mi_c_count1 {X : mi_X} {h : mi_H} (g0 : mi_fv h 0 10 4 = some (.ref 17)) (f0 : mi_fv h 17 3 13 = some (.int 2)) : mi_wp X 19 mi_M6 0 [(0, .ref 0), (1, .int 1)] [] h 0 0 (fun z => z = (.inl (some (.int 0)), h, 0, 0)) := by
  have hd : 8 ≤ 19 := by decide
  refine mi_wp_p (pc' := 1) rfl rfl rfl ?_
  refine mi_wp_p (pc' := 4) rfl rfl (mi_br1 (b := false) (t := 9) (by decide +kernel) rfl) ?_
  refine mi_wp_p (pc' := 5) rfl rfl rfl ?_
  refine mi_wp_p (pc' := 6) rfl rfl rfl ?_
  refine mi_wp_p (pc' := 19) rfl rfl (mi_br2 (b := true) (t := 19) (by decide +kernel) rfl) ?_
  refine mi_wp_p (pc' := 20) rfl rfl rfl ?_
  refine mi_wp_p (pc' := 21) rfl rfl rfl ?_
  refine mi_wp_c1 rfl rfl rfl rfl rfl rfl (mi_cal_v (np := 1) rfl rfl rfl rfl (Nat.le_of_ble_eq_true rfl) (Nat.le_of_ble_eq_true rfl) (mi_rc_of g0)) (Nat.le_of_ble_eq_true rfl) (mi_c_amount1 g0 f0) ?_
  exact mi_wp_r rfl rfl rfl rfl rfl
theorem mi_c_amount2 {X : mi_X} {h : mi_H} (g0 : mi_fv h 0 10 4 = some (.ref 17)) (f0 : mi_fv h 17 3 14 = some (.int 0)) : mi_wp X 18 mi_M1 0 [(0, .ref 0), (1, .int 2)] [] h 0 0 (fun z => z = (.inl (some (.int 0)), h, 0, 0)) := by
  have hd : 8 ≤ 18 := by decide
  refine mi_wp_p (pc' := 1) rfl rfl rfl ?_
  refine mi_wp_p (pc' := 48) rfl rfl rfl ?_
  refine mi_wp_p (pc' := 49) rfl rfl rfl ?_
  refine mi_wp_gf rfl rfl rfl g0 ?_
  refine mi_wp_c1 rfl rfl rfl rfl rfl rfl (mi_cal_v (np := 0) rfl rfl rfl rfl (Nat.le_of_ble_eq_true rfl) (Nat.le_of_ble_eq_true rfl) (mi_rc_of f0)) (Nat.le_of_ble_eq_true rfl) (mi_k_ds f0) ?_
  exact mi_wp_r rfl rfl rfl rfl rfl
theorem mi_c_count2 {X : mi_X} {h : mi_H} (g0 : mi_fv h 0 10 4 = some (.ref 17)) (f0 : mi_fv h 17 3 14 = some (.int 0)) : mi_wp X 19 mi_M6 0 [(0, .ref 0), (1, .int 2)] [] h 0 0 (fun z => z = (.inl (some (.int 0)), h, 0, 0)) := by
  have hd : 8 ≤ 19 := by decide
  refine mi_wp_p (pc' := 1) rfl rfl rfl ?_
  refine mi_wp_p (pc' := 4) rfl rfl (mi_br1 (b := false) (t := 9) (by decide +kernel) rfl) ?_
  refine mi_wp_p (pc' := 5) rfl rfl rfl ?_
  refine mi_wp_p (pc' := 6) rfl rfl rfl ?_
  refine mi_wp_p (pc' := 19) rfl rfl (mi_br2 (b := true) (t := 19) (by decide +kernel) rfl) ?_
  refine mi_wp_p (pc' := 20) rfl rfl rfl ?_
  refine mi_wp_p (pc' := 21) rfl rfl rfl ?_
  refine mi_wp_c1 rfl rfl rfl rfl rfl rfl (mi_cal_v (np := 1) rfl rfl rfl rfl (Nat.le_of_ble_eq_true rfl) (Nat.le_of_ble_eq_true rfl) (mi_rc_of g0)) (Nat.le_of_ble_eq_true rfl) (mi_c_amount2 g0 f0) ?_
  exact mi_wp_r rfl rfl rfl rfl rfl
theorem mi_c_amount3 {X : mi_X} {h : mi_H} (f0 : mi_fv h 0 10 10 = some (.int 0)) : mi_wp X 18 mi_M1 0 [(0, .ref 0), (1, .int 3)] [] h 0 0 (fun z => z = (.inl (some (.int 0)), h, 0, 0)) := by
  have hd : 8 ≤ 18 := by decide
  refine mi_wp_p (pc' := 1) rfl rfl rfl ?_
  refine mi_wp_p (pc' := 56) rfl rfl rfl ?_
  refine mi_wp_p (pc' := 57) rfl rfl rfl ?_
  refine mi_wp_gf rfl rfl rfl f0 ?_
  exact mi_wp_r rfl rfl rfl rfl rfl
theorem mi_c_count3 {X : mi_X} {h : mi_H} (f0 : mi_fv h 0 10 10 = some (.int 0)) : mi_wp X 19 mi_M6 0 [(0, .ref 0), (1, .int 3)] [] h 0 0 (fun z => z = (.inl (some (.int 0)), h, 0, 0)) := by
  have hd : 8 ≤ 19 := by decide
  refine mi_wp_p (pc' := 1) rfl rfl rfl ?_
  refine mi_wp_p (pc' := 4) rfl rfl (mi_br1 (b := false) (t := 9) (by decide +kernel) rfl) ?_
  refine mi_wp_p (pc' := 5) rfl rfl rfl ?_
  refine mi_wp_p (pc' := 6) rfl rfl rfl ?_
  refine mi_wp_p (pc' := 19) rfl rfl (mi_br2 (b := true) (t := 19) (by decide +kernel) rfl) ?_
  refine mi_wp_p (pc' := 20) rfl rfl rfl ?_
  refine mi_wp_p (pc' := 21) rfl rfl rfl ?_
  refine mi_wp_c1 rfl rfl rfl rfl rfl rfl (mi_cal_v (np := 1) rfl rfl rfl rfl (Nat.le_of_ble_eq_true rfl) (Nat.le_of_ble_eq_true rfl) (mi_rc_of f0)) (Nat.le_of_ble_eq_true rfl) (mi_c_amount3 f0) ?_
  exact mi_wp_r rfl rfl rfl rfl rfl
theorem mi_c_amount4 {X : mi_X} {h : mi_H} (g0 : mi_fv h 0 10 9 = some (.ref 52)) (f0 : mi_fv h 52 9 5 = some (.int 0)) : mi_wp X 18 mi_M1 0 [(0, .ref 0), (1, .int 4)] [] h 0 0 (fun z => z = (.inl (some (.int 0)), h, 0, 0)) := by
  have hd : 8 ≤ 18 := by decide
  refine mi_wp_p (pc' := 1) rfl rfl rfl ?_
  refine mi_wp_p (pc' := 61) rfl rfl rfl ?_
  refine mi_wp_p (pc' := 62) rfl rfl rfl ?_
  refine mi_wp_gf rfl rfl rfl g0 ?_
  refine mi_wp_c1 rfl rfl rfl rfl rfl rfl (mi_cal_v (np := 0) rfl rfl rfl rfl (Nat.le_of_ble_eq_true rfl) (Nat.le_of_ble_eq_true rfl) (mi_rc_of f0)) (Nat.le_of_ble_eq_true rfl) (mi_k_ws f0) ?_
  exact mi_wp_r rfl rfl rfl rfl rfl
theorem mi_c_count4 {X : mi_X} {h : mi_H} (g0 : mi_fv h 0 10 9 = some (.ref 52)) (f0 : mi_fv h 52 9 5 = some (.int 0)) : mi_wp X 19 mi_M6 0 [(0, .ref 0), (1, .int 4)] [] h 0 0 (fun z => z = (.inl (some (.int 0)), h, 0, 0)) := by
  have hd : 8 ≤ 19 := by decide
  refine mi_wp_p (pc' := 1) rfl rfl rfl ?_
  refine mi_wp_p (pc' := 4) rfl rfl (mi_br1 (b := false) (t := 9) (by decide +kernel) rfl) ?_
  refine mi_wp_p (pc' := 5) rfl rfl rfl ?_
  refine mi_wp_p (pc' := 6) rfl rfl rfl ?_
  refine mi_wp_p (pc' := 19) rfl rfl (mi_br2 (b := true) (t := 19) (by decide +kernel) rfl) ?_
  refine mi_wp_p (pc' := 20) rfl rfl rfl ?_
  refine mi_wp_p (pc' := 21) rfl rfl rfl ?_
  refine mi_wp_c1 rfl rfl rfl rfl rfl rfl (mi_cal_v (np := 1) rfl rfl rfl rfl (Nat.le_of_ble_eq_true rfl) (Nat.le_of_ble_eq_true rfl) (mi_rc_of g0)) (Nat.le_of_ble_eq_true rfl) (mi_c_amount4 g0 f0) ?_
  exact mi_wp_r rfl rfl rfl rfl rfl
theorem mi_l_write {X : mi_X} {h : mi_H} {a : Int32} (g0 : mi_fv h 0 10 4 = some (.ref 17)) (f0 : mi_fv h 17 3 14 = some (.int 0)) : mi_wp X 20 mi_M84 0 [(0, .ref 0), (1, .int a), (2, .ref 98)] [] h 0 0 (fun z => z = (.inl (some (.int (Int32.ofInt 1))), h, 1, 6)) := by
  have hd : 8 ≤ 20 := by decide
  refine mi_wp_p (pc' := 1) rfl rfl rfl ?_
  refine mi_wp_p (pc' := 2) rfl rfl rfl ?_
  refine mi_wp_p (pc' := 3) rfl rfl rfl ?_
  refine mi_wp_p (pc' := 4) rfl rfl rfl ?_
  refine mi_wp_cx rfl rfl rfl rfl rfl rfl (mi_cal_v (np := 1) rfl rfl rfl rfl (Nat.le_of_ble_eq_true rfl) (Nat.le_of_ble_eq_true rfl) (mi_rc_of g0)) (Nat.le_of_ble_eq_true rfl) (mi_c_write g0 f0) rfl rfl ?_
  refine mi_wp_p (pc' := 13) rfl rfl rfl ?_
  refine mi_wp_p (pc' := 14) rfl rfl rfl ?_
  exact mi_wp_r rfl rfl rfl rfl rfl
theorem mi_l_writeConstructor {X : mi_X} {h : mi_H} {a : Int32} (g0 : mi_fv h 0 10 4 = some (.ref 17)) (f0 : mi_fv h 17 3 13 = some (.int 2)) : mi_wp X 20 mi_M86 0 [(0, .ref 0), (1, .int a), (2, .ref 98)] [] h 0 0 (fun z => z = (.inl (some (.int (Int32.ofInt 1))), h, 1, 6)) := by
  have hd : 8 ≤ 20 := by decide
  refine mi_wp_p (pc' := 1) rfl rfl rfl ?_
  refine mi_wp_p (pc' := 2) rfl rfl rfl ?_
  refine mi_wp_p (pc' := 3) rfl rfl rfl ?_
  refine mi_wp_p (pc' := 4) rfl rfl rfl ?_
  refine mi_wp_cx rfl rfl rfl rfl rfl rfl (mi_cal_v (np := 1) rfl rfl rfl rfl (Nat.le_of_ble_eq_true rfl) (Nat.le_of_ble_eq_true rfl) (mi_rc_of g0)) (Nat.le_of_ble_eq_true rfl) (mi_c_writeConstructor g0 f0) rfl rfl ?_
  refine mi_wp_p (pc' := 13) rfl rfl rfl ?_
  refine mi_wp_p (pc' := 14) rfl rfl rfl ?_
  exact mi_wp_r rfl rfl rfl rfl rfl
theorem mi_l_writeAt {X : mi_X} {h : mi_H} {a : Int32} (g0 : mi_fv h 0 10 5 = some (.ref 26)) (f0 : mi_fv h 26 6 7 = some (.int 0)) : mi_wp X 20 mi_M85 0 [(0, .ref 0), (1, .int a), (2, .ref 98)] [] h 0 0 (fun z => z = (.inl (some (.int (Int32.ofInt 1))), h, 1, 6)) := by
  have hd : 8 ≤ 20 := by decide
  refine mi_wp_p (pc' := 1) rfl rfl rfl ?_
  refine mi_wp_p (pc' := 2) rfl rfl rfl ?_
  refine mi_wp_p (pc' := 3) rfl rfl rfl ?_
  refine mi_wp_p (pc' := 4) rfl rfl rfl ?_
  refine mi_wp_cx rfl rfl rfl rfl rfl rfl (mi_cal_v (np := 1) rfl rfl rfl rfl (Nat.le_of_ble_eq_true rfl) (Nat.le_of_ble_eq_true rfl) (mi_rc_of g0)) (Nat.le_of_ble_eq_true rfl) (mi_c_writeAt g0 f0) rfl rfl ?_
  refine mi_wp_p (pc' := 13) rfl rfl rfl ?_
  refine mi_wp_p (pc' := 14) rfl rfl rfl ?_
  exact mi_wp_r rfl rfl rfl rfl rfl
theorem mi_l_byteAt {X : mi_X} {h : mi_H} {a : Int32} (g0 : mi_fv h 0 10 9 = some (.ref 52)) (f0 : mi_fv h 52 9 5 = some (.int 0)) : mi_wp X 20 mi_M76 0 [(0, .ref 0), (1, .int a), (2, .ref 98)] [] h 0 0 (fun z => z = (.inl (some (.int (Int32.ofInt 1))), h, 1, 6)) := by
  have hd : 8 ≤ 20 := by decide
  refine mi_wp_p (pc' := 1) rfl rfl rfl ?_
  refine mi_wp_p (pc' := 2) rfl rfl rfl ?_
  refine mi_wp_p (pc' := 3) rfl rfl rfl ?_
  refine mi_wp_p (pc' := 4) rfl rfl rfl ?_
  refine mi_wp_cx rfl rfl rfl rfl rfl rfl (mi_cal_v (np := 1) rfl rfl rfl rfl (Nat.le_of_ble_eq_true rfl) (Nat.le_of_ble_eq_true rfl) (mi_rc_of g0)) (Nat.le_of_ble_eq_true rfl) (mi_c_byteAt g0 f0) rfl rfl ?_
  refine mi_wp_p (pc' := 13) rfl rfl rfl ?_
  refine mi_wp_p (pc' := 14) rfl rfl rfl ?_
  exact mi_wp_r rfl rfl rfl rfl rfl
theorem mi_l_measure {X : mi_X} {h : mi_H} {a b : Int32} (g0 : mi_fv h 0 10 4 = some (.ref 17)) (f0 : mi_fv h 17 3 14 = some (.int 0)) : mi_wp X 20 mi_M80 0 [(0, .ref 0), (1, .int a), (2, .int b), (3, .ref 98)] [] h 0 0 (fun z => z = (.inl (some (.int (Int32.ofInt 1))), h, 1, 6)) := by
  have hd : 8 ≤ 20 := by decide
  refine mi_wp_p (pc' := 1) rfl rfl rfl ?_
  refine mi_wp_p (pc' := 2) rfl rfl rfl ?_
  refine mi_wp_p (pc' := 3) rfl rfl rfl ?_
  refine mi_wp_p (pc' := 4) rfl rfl rfl ?_
  refine mi_wp_p (pc' := 5) rfl rfl rfl ?_
  refine mi_wp_cx rfl rfl rfl rfl rfl rfl (mi_cal_v (np := 2) rfl rfl rfl rfl (Nat.le_of_ble_eq_true rfl) (Nat.le_of_ble_eq_true rfl) (mi_rc_of g0)) (Nat.le_of_ble_eq_true rfl) (mi_c_measure g0 f0) rfl rfl ?_
  refine mi_wp_p (pc' := 15) rfl rfl rfl ?_
  refine mi_wp_p (pc' := 16) rfl rfl rfl ?_
  exact mi_wp_r rfl rfl rfl rfl rfl
theorem mi_l_uses {X : mi_X} {h : mi_H} {a b : Int32} (g0 : mi_fv h 0 10 4 = some (.ref 17)) (f0 : mi_fv h 17 3 14 = some (.int 0)) : mi_wp X 20 mi_M83 0 [(0, .ref 0), (1, .int a), (2, .int b), (3, .ref 98)] [] h 0 0 (fun z => z = (.inl (some (.int (Int32.ofInt 1))), h, 1, 6)) := by
  have hd : 8 ≤ 20 := by decide
  refine mi_wp_p (pc' := 1) rfl rfl rfl ?_
  refine mi_wp_p (pc' := 2) rfl rfl rfl ?_
  refine mi_wp_p (pc' := 3) rfl rfl rfl ?_
  refine mi_wp_p (pc' := 4) rfl rfl rfl ?_
  refine mi_wp_p (pc' := 5) rfl rfl rfl ?_
  refine mi_wp_cx rfl rfl rfl rfl rfl rfl (mi_cal_v (np := 2) rfl rfl rfl rfl (Nat.le_of_ble_eq_true rfl) (Nat.le_of_ble_eq_true rfl) (mi_rc_of g0)) (Nat.le_of_ble_eq_true rfl) (mi_c_uses g0 f0) rfl rfl ?_
  refine mi_wp_p (pc' := 15) rfl rfl rfl ?_
  refine mi_wp_p (pc' := 16) rfl rfl rfl ?_
  exact mi_wp_r rfl rfl rfl rfl rfl
theorem mi_l_covers {X : mi_X} {h : mi_H} {a b : Int32} (g0 : mi_fv h 0 10 4 = some (.ref 17)) (f0 : mi_fv h 17 3 14 = some (.int 0)) : mi_wp X 20 mi_M78 0 [(0, .ref 0), (1, .int a), (2, .int b), (3, .ref 98)] [] h 0 0 (fun z => z = (.inl (some (.int (Int32.ofInt 1))), h, 1, 6)) := by
  have hd : 8 ≤ 20 := by decide
  refine mi_wp_p (pc' := 1) rfl rfl rfl ?_
  refine mi_wp_p (pc' := 2) rfl rfl rfl ?_
  refine mi_wp_p (pc' := 3) rfl rfl rfl ?_
  refine mi_wp_p (pc' := 4) rfl rfl rfl ?_
  refine mi_wp_p (pc' := 5) rfl rfl rfl ?_
  refine mi_wp_cx rfl rfl rfl rfl rfl rfl (mi_cal_v (np := 2) rfl rfl rfl rfl (Nat.le_of_ble_eq_true rfl) (Nat.le_of_ble_eq_true rfl) (mi_rc_of g0)) (Nat.le_of_ble_eq_true rfl) (mi_c_covers g0 f0) rfl rfl ?_
  refine mi_wp_p (pc' := 22) rfl rfl rfl ?_
  refine mi_wp_p (pc' := 23) rfl rfl rfl ?_
  exact mi_wp_r rfl rfl rfl rfl rfl
theorem mi_l_meet {X : mi_X} {h : mi_H} {a b : Int32} (g0 : mi_fv h 0 10 4 = some (.ref 17)) (f0 : mi_fv h 17 3 14 = some (.int 0)) : mi_wp X 20 mi_M81 0 [(0, .ref 0), (1, .int a), (2, .int b), (3, .ref 98)] [] h 0 0 (fun z => z = (.inl (some (.int (Int32.ofInt 1))), h, 1, 6)) := by
  have hd : 8 ≤ 20 := by decide
  refine mi_wp_p (pc' := 1) rfl rfl rfl ?_
  refine mi_wp_p (pc' := 2) rfl rfl rfl ?_
  refine mi_wp_p (pc' := 3) rfl rfl rfl ?_
  refine mi_wp_p (pc' := 4) rfl rfl rfl ?_
  refine mi_wp_p (pc' := 5) rfl rfl rfl ?_
  refine mi_wp_cx rfl rfl rfl rfl rfl rfl (mi_cal_v (np := 2) rfl rfl rfl rfl (Nat.le_of_ble_eq_true rfl) (Nat.le_of_ble_eq_true rfl) (mi_rc_of g0)) (Nat.le_of_ble_eq_true rfl) (mi_c_meet g0 f0) rfl rfl ?_
  refine mi_wp_p (pc' := 15) rfl rfl rfl ?_
  refine mi_wp_p (pc' := 16) rfl rfl rfl ?_
  exact mi_wp_r rfl rfl rfl rfl rfl
theorem mi_l_trim {X : mi_X} {h : mi_H} {a : Int32} (f0 : mi_fv h 0 10 10 = some (.int 0)) (hne : a ≠ 0) : mi_wp X 20 mi_M82 0 [(0, .ref 0), (1, .int a), (2, .ref 98)] [] h 0 0 (fun z => z = (.inl (some (.int (Int32.ofInt 1))), h, 1, 6)) := by
  have hd : 8 ≤ 20 := by decide
  refine mi_wp_p (pc' := 1) rfl rfl rfl ?_
  refine mi_wp_p (pc' := 2) rfl rfl rfl ?_
  refine mi_wp_p (pc' := 3) rfl rfl rfl ?_
  refine mi_wp_p (pc' := 4) rfl rfl rfl ?_
  refine mi_wp_cx rfl rfl rfl rfl rfl rfl (mi_cal_v (np := 1) rfl rfl rfl rfl (Nat.le_of_ble_eq_true rfl) (Nat.le_of_ble_eq_true rfl) (mi_rc_of f0)) (Nat.le_of_ble_eq_true rfl) (mi_c_trimx f0 hne) rfl rfl ?_
  refine mi_wp_p (pc' := 13) rfl rfl rfl ?_
  refine mi_wp_p (pc' := 14) rfl rfl rfl ?_
  exact mi_wp_r rfl rfl rfl rfl rfl
theorem mi_l_count {X : mi_X} {h : mi_H} {a : Int32} (f0 : mi_fv h 0 10 10 = some (.int 0)) (hx : a < 0 ∨ Int32.ofInt 5 ≤ a) : mi_wp X 20 mi_M77 0 [(0, .ref 0), (1, .int a), (2, .ref 98)] [] h 0 0 (fun z => z = (.inl (some (.int (Int32.ofInt 1))), h, 1, 6)) := by
  have hd : 8 ≤ 20 := by decide
  refine mi_wp_p (pc' := 1) rfl rfl rfl ?_
  refine mi_wp_p (pc' := 2) rfl rfl rfl ?_
  refine mi_wp_p (pc' := 3) rfl rfl rfl ?_
  refine mi_wp_p (pc' := 4) rfl rfl rfl ?_
  refine mi_wp_cx rfl rfl rfl rfl rfl rfl (mi_cal_v (np := 1) rfl rfl rfl rfl (Nat.le_of_ble_eq_true rfl) (Nat.le_of_ble_eq_true rfl) (mi_rc_of f0)) (Nat.le_of_ble_eq_true rfl) (mi_c_countx hx) rfl rfl ?_
  refine mi_wp_p (pc' := 13) rfl rfl rfl ?_
  refine mi_wp_p (pc' := 14) rfl rfl rfl ?_
  exact mi_wp_r rfl rfl rfl rfl rfl
theorem mi_l_trim0 {X : mi_X} {h : mi_H} {f : Nat → Int64} (f0 : mi_fv h 0 10 10 = some (.int 0)) (r0 : mi_fv h 55 11 0 = some (.int 0)) (r1 : mi_fv h 55 11 2 = some (.int 0)) (a1 : mi_al h 98 = some (1, f)) : mi_wp X 20 mi_M82 0 [(0, .ref 0), (1, .int 0), (2, .ref 98)] [] h 0 0 (fun z => ∃ h', z = (.inl (some (.int (Int32.ofInt 0))), h', 0, 0) ∧ mi_fv h' 55 11 0 = some (.int 0) ∧ mi_fv h' 55 11 2 = some (.int 0) ∧ (∃ f1 : Nat → Int64, mi_al h' 98 = some (1, f1) ∧ f1 0 = 0)) := by
  have hd : 8 ≤ 20 := by decide
  refine mi_wp_p (pc' := 1) rfl rfl rfl ?_
  refine mi_wp_p (pc' := 2) rfl rfl rfl ?_
  refine mi_wp_p (pc' := 3) rfl rfl rfl ?_
  refine mi_wp_p (pc' := 4) rfl rfl rfl ?_
  refine mi_wp_ce rfl rfl rfl rfl rfl rfl (mi_cal_v (np := 1) rfl rfl rfl rfl (Nat.le_of_ble_eq_true rfl) (Nat.le_of_ble_eq_true rfl) (mi_rc_of f0)) (Nat.le_of_ble_eq_true rfl) (mi_c_trim0 f0 r0 r1 a1) ?_
  intro h1 q1
  obtain ⟨r0, r1, a1⟩ := q1
  refine mi_wp_p (pc' := 8) rfl rfl rfl ?_
  refine mi_wp_lask rfl rfl a1 (by decide +kernel) ?_
  intro h1 e1 e2 e3 e4 e5
  replace r0 := (e2 _ _ _).trans r0
  replace r1 := (e2 _ _ _).trans r1
  replace a1 := e1
  clear e1 e2 e3 e4 e5
  refine mi_wp_p (pc' := 15) rfl rfl rfl ?_
  refine mi_wp_p (pc' := 16) rfl rfl rfl ?_
  exact mi_wp_r rfl rfl rfl rfl ⟨_, rfl, r0, r1, _, a1, mi_o0 (by decide +kernel) (by decide +kernel)⟩
theorem mi_l_count0 {X : mi_X} {h : mi_H} {f : Nat → Int64} (g0 : mi_fv h 0 10 4 = some (.ref 17)) (f0 : mi_fv h 17 3 12 = some (.int 3)) (r0 : mi_fv h 55 11 0 = some (.int 0)) (r1 : mi_fv h 55 11 27 = some (.int 1)) (a1 : mi_al h 98 = some (1, f)) : mi_wp X 20 mi_M77 0 [(0, .ref 0), (1, .int 0), (2, .ref 98)] [] h 0 0 (fun z => ∃ h', z = (.inl (some (.int (Int32.ofInt 0))), h', 0, 0) ∧ mi_fv h' 55 11 0 = some (.int 0) ∧ mi_fv h' 55 11 27 = some (.int 1) ∧ (∃ f1 : Nat → Int64, mi_al h' 98 = some (1, f1) ∧ f1 0 = 0)) := by
  have hd : 8 ≤ 20 := by decide
  refine mi_wp_p (pc' := 1) rfl rfl rfl ?_
  refine mi_wp_p (pc' := 2) rfl rfl rfl ?_
  refine mi_wp_p (pc' := 3) rfl rfl rfl ?_
  refine mi_wp_p (pc' := 4) rfl rfl rfl ?_
  refine mi_wp_c1 rfl rfl rfl rfl rfl rfl (mi_cal_v (np := 1) rfl rfl rfl rfl (Nat.le_of_ble_eq_true rfl) (Nat.le_of_ble_eq_true rfl) (mi_rc_of g0)) (Nat.le_of_ble_eq_true rfl) (mi_c_count0 g0 f0) ?_
  refine mi_wp_p (pc' := 8) rfl rfl rfl ?_
  refine mi_wp_lask rfl rfl a1 (by decide +kernel) ?_
  intro h1 e1 e2 e3 e4 e5
  replace g0 := (e2 _ _ _).trans g0
  replace f0 := (e2 _ _ _).trans f0
  replace r0 := (e2 _ _ _).trans r0
  replace r1 := (e2 _ _ _).trans r1
  replace a1 := e1
  clear e1 e2 e3 e4 e5
  refine mi_wp_p (pc' := 15) rfl rfl rfl ?_
  refine mi_wp_p (pc' := 16) rfl rfl rfl ?_
  exact mi_wp_r rfl rfl rfl rfl ⟨_, rfl, r0, r1, _, a1, mi_o0 (by decide +kernel) (by decide +kernel)⟩
theorem mi_l_count1 {X : mi_X} {h : mi_H} {f : Nat → Int64} (g0 : mi_fv h 0 10 4 = some (.ref 17)) (f0 : mi_fv h 17 3 13 = some (.int 2)) (r0 : mi_fv h 55 11 0 = some (.int 0)) (r1 : mi_fv h 55 11 30 = some (.int 2)) (a1 : mi_al h 98 = some (1, f)) : mi_wp X 20 mi_M77 0 [(0, .ref 0), (1, .int 1), (2, .ref 98)] [] h 0 0 (fun z => ∃ h', z = (.inl (some (.int (Int32.ofInt 0))), h', 0, 0) ∧ mi_fv h' 55 11 0 = some (.int 0) ∧ mi_fv h' 55 11 30 = some (.int 2) ∧ (∃ f1 : Nat → Int64, mi_al h' 98 = some (1, f1) ∧ f1 0 = 0)) := by
  have hd : 8 ≤ 20 := by decide
  refine mi_wp_p (pc' := 1) rfl rfl rfl ?_
  refine mi_wp_p (pc' := 2) rfl rfl rfl ?_
  refine mi_wp_p (pc' := 3) rfl rfl rfl ?_
  refine mi_wp_p (pc' := 4) rfl rfl rfl ?_
  refine mi_wp_c1 rfl rfl rfl rfl rfl rfl (mi_cal_v (np := 1) rfl rfl rfl rfl (Nat.le_of_ble_eq_true rfl) (Nat.le_of_ble_eq_true rfl) (mi_rc_of g0)) (Nat.le_of_ble_eq_true rfl) (mi_c_count1 g0 f0) ?_
  refine mi_wp_p (pc' := 8) rfl rfl rfl ?_
  refine mi_wp_lask rfl rfl a1 (by decide +kernel) ?_
  intro h1 e1 e2 e3 e4 e5
  replace g0 := (e2 _ _ _).trans g0
  replace f0 := (e2 _ _ _).trans f0
  replace r0 := (e2 _ _ _).trans r0
  replace r1 := (e2 _ _ _).trans r1
  replace a1 := e1
  clear e1 e2 e3 e4 e5
  refine mi_wp_p (pc' := 15) rfl rfl rfl ?_
  refine mi_wp_p (pc' := 16) rfl rfl rfl ?_
  exact mi_wp_r rfl rfl rfl rfl ⟨_, rfl, r0, r1, _, a1, mi_o0 (by decide +kernel) (by decide +kernel)⟩
theorem mi_l_count2 {X : mi_X} {h : mi_H} {f : Nat → Int64} (g0 : mi_fv h 0 10 4 = some (.ref 17)) (f0 : mi_fv h 17 3 14 = some (.int 0)) (r0 : mi_fv h 55 11 0 = some (.int 0)) (r1 : mi_fv h 55 11 34 = some (.int 0)) (a1 : mi_al h 98 = some (1, f)) : mi_wp X 20 mi_M77 0 [(0, .ref 0), (1, .int 2), (2, .ref 98)] [] h 0 0 (fun z => ∃ h', z = (.inl (some (.int (Int32.ofInt 0))), h', 0, 0) ∧ mi_fv h' 55 11 0 = some (.int 0) ∧ mi_fv h' 55 11 34 = some (.int 0) ∧ (∃ f1 : Nat → Int64, mi_al h' 98 = some (1, f1) ∧ f1 0 = 0)) := by
  have hd : 8 ≤ 20 := by decide
  refine mi_wp_p (pc' := 1) rfl rfl rfl ?_
  refine mi_wp_p (pc' := 2) rfl rfl rfl ?_
  refine mi_wp_p (pc' := 3) rfl rfl rfl ?_
  refine mi_wp_p (pc' := 4) rfl rfl rfl ?_
  refine mi_wp_c1 rfl rfl rfl rfl rfl rfl (mi_cal_v (np := 1) rfl rfl rfl rfl (Nat.le_of_ble_eq_true rfl) (Nat.le_of_ble_eq_true rfl) (mi_rc_of g0)) (Nat.le_of_ble_eq_true rfl) (mi_c_count2 g0 f0) ?_
  refine mi_wp_p (pc' := 8) rfl rfl rfl ?_
  refine mi_wp_lask rfl rfl a1 (by decide +kernel) ?_
  intro h1 e1 e2 e3 e4 e5
  replace g0 := (e2 _ _ _).trans g0
  replace f0 := (e2 _ _ _).trans f0
  replace r0 := (e2 _ _ _).trans r0
  replace r1 := (e2 _ _ _).trans r1
  replace a1 := e1
  clear e1 e2 e3 e4 e5
  refine mi_wp_p (pc' := 15) rfl rfl rfl ?_
  refine mi_wp_p (pc' := 16) rfl rfl rfl ?_
  exact mi_wp_r rfl rfl rfl rfl ⟨_, rfl, r0, r1, _, a1, mi_o0 (by decide +kernel) (by decide +kernel)⟩
theorem mi_l_count3 {X : mi_X} {h : mi_H} {f : Nat → Int64} (f0 : mi_fv h 0 10 10 = some (.int 0)) (r0 : mi_fv h 55 11 0 = some (.int 0)) (r1 : mi_fv h 55 11 2 = some (.int 0)) (a1 : mi_al h 98 = some (1, f)) : mi_wp X 20 mi_M77 0 [(0, .ref 0), (1, .int 3), (2, .ref 98)] [] h 0 0 (fun z => ∃ h', z = (.inl (some (.int (Int32.ofInt 0))), h', 0, 0) ∧ mi_fv h' 55 11 0 = some (.int 0) ∧ mi_fv h' 55 11 2 = some (.int 0) ∧ (∃ f1 : Nat → Int64, mi_al h' 98 = some (1, f1) ∧ f1 0 = 0)) := by
  have hd : 8 ≤ 20 := by decide
  refine mi_wp_p (pc' := 1) rfl rfl rfl ?_
  refine mi_wp_p (pc' := 2) rfl rfl rfl ?_
  refine mi_wp_p (pc' := 3) rfl rfl rfl ?_
  refine mi_wp_p (pc' := 4) rfl rfl rfl ?_
  refine mi_wp_c1 rfl rfl rfl rfl rfl rfl (mi_cal_v (np := 1) rfl rfl rfl rfl (Nat.le_of_ble_eq_true rfl) (Nat.le_of_ble_eq_true rfl) (mi_rc_of f0)) (Nat.le_of_ble_eq_true rfl) (mi_c_count3 f0) ?_
  refine mi_wp_p (pc' := 8) rfl rfl rfl ?_
  refine mi_wp_lask rfl rfl a1 (by decide +kernel) ?_
  intro h1 e1 e2 e3 e4 e5
  replace f0 := (e2 _ _ _).trans f0
  replace r0 := (e2 _ _ _).trans r0
  replace r1 := (e2 _ _ _).trans r1
  replace a1 := e1
  clear e1 e2 e3 e4 e5
  refine mi_wp_p (pc' := 15) rfl rfl rfl ?_
  refine mi_wp_p (pc' := 16) rfl rfl rfl ?_
  exact mi_wp_r rfl rfl rfl rfl ⟨_, rfl, r0, r1, _, a1, mi_o0 (by decide +kernel) (by decide +kernel)⟩
theorem mi_l_count4 {X : mi_X} {h : mi_H} {f : Nat → Int64} (g0 : mi_fv h 0 10 9 = some (.ref 52)) (f0 : mi_fv h 52 9 5 = some (.int 0)) (r0 : mi_fv h 55 11 0 = some (.int 0)) (r1 : mi_fv h 55 11 9 = some (.int 0)) (a1 : mi_al h 98 = some (1, f)) : mi_wp X 20 mi_M77 0 [(0, .ref 0), (1, .int 4), (2, .ref 98)] [] h 0 0 (fun z => ∃ h', z = (.inl (some (.int (Int32.ofInt 0))), h', 0, 0) ∧ mi_fv h' 55 11 0 = some (.int 0) ∧ mi_fv h' 55 11 9 = some (.int 0) ∧ (∃ f1 : Nat → Int64, mi_al h' 98 = some (1, f1) ∧ f1 0 = 0)) := by
  have hd : 8 ≤ 20 := by decide
  refine mi_wp_p (pc' := 1) rfl rfl rfl ?_
  refine mi_wp_p (pc' := 2) rfl rfl rfl ?_
  refine mi_wp_p (pc' := 3) rfl rfl rfl ?_
  refine mi_wp_p (pc' := 4) rfl rfl rfl ?_
  refine mi_wp_c1 rfl rfl rfl rfl rfl rfl (mi_cal_v (np := 1) rfl rfl rfl rfl (Nat.le_of_ble_eq_true rfl) (Nat.le_of_ble_eq_true rfl) (mi_rc_of g0)) (Nat.le_of_ble_eq_true rfl) (mi_c_count4 g0 f0) ?_
  refine mi_wp_p (pc' := 8) rfl rfl rfl ?_
  refine mi_wp_lask rfl rfl a1 (by decide +kernel) ?_
  intro h1 e1 e2 e3 e4 e5
  replace g0 := (e2 _ _ _).trans g0
  replace f0 := (e2 _ _ _).trans f0
  replace r0 := (e2 _ _ _).trans r0
  replace r1 := (e2 _ _ _).trans r1
  replace a1 := e1
  clear e1 e2 e3 e4 e5
  refine mi_wp_p (pc' := 15) rfl rfl rfl ?_
  refine mi_wp_p (pc' := 16) rfl rfl rfl ?_
  exact mi_wp_r rfl rfl rfl rfl ⟨_, rfl, r0, r1, _, a1, mi_o0 (by decide +kernel) (by decide +kernel)⟩
theorem mi_r_in0 {X : mi_X} {d : Nat} {h : mi_H} {a lo hi : Int32} (hx : a < lo ∨ hi < a) : mi_wp X d mi_M107 0 [(0, .int a), (1, .int lo), (2, .int hi)] [] h 0 0 (fun z => z = (.inl (some (.int (Int32.ofInt 0))), h, 0, 0)) := by
  by_cases ha : a < lo
  · refine mi_wp_p (pc' := 1) rfl rfl rfl ?_
    refine mi_wp_p (pc' := 2) rfl rfl rfl ?_
    refine mi_wp_p (pc' := 14) rfl rfl (mi_br2 (b := true) (t := 14) (decide_eq_true ha) rfl) ?_
    refine mi_wp_p (pc' := 15) rfl rfl rfl ?_
    exact mi_wp_r rfl rfl rfl rfl rfl
  · refine mi_wp_p (pc' := 1) rfl rfl rfl ?_
    refine mi_wp_p (pc' := 2) rfl rfl rfl ?_
    refine mi_wp_p (pc' := 5) rfl rfl (mi_br2 (b := false) (t := 14) (decide_eq_false ha) rfl) ?_
    refine mi_wp_p (pc' := 6) rfl rfl rfl ?_
    refine mi_wp_p (pc' := 7) rfl rfl rfl ?_
    refine mi_wp_p (pc' := 14) rfl rfl (mi_br2 (b := true) (t := 14) (decide_eq_true (hx.resolve_left ha)) rfl) ?_
    refine mi_wp_p (pc' := 15) rfl rfl rfl ?_
    exact mi_wp_r rfl rfl rfl rfl rfl
theorem mi_r_in1 {X : mi_X} {d : Nat} {h : mi_H} {a lo hi : Int32} (h1 : ¬ a < lo) (h2 : ¬ hi < a) : mi_wp X d mi_M107 0 [(0, .int a), (1, .int lo), (2, .int hi)] [] h 0 0 (fun z => z = (.inl (some (.int (Int32.ofInt 1))), h, 0, 0)) := by
  refine mi_wp_p (pc' := 1) rfl rfl rfl ?_
  refine mi_wp_p (pc' := 2) rfl rfl rfl ?_
  refine mi_wp_p (pc' := 5) rfl rfl (mi_br2 (b := false) (t := 14) (decide_eq_false h1) rfl) ?_
  refine mi_wp_p (pc' := 6) rfl rfl rfl ?_
  refine mi_wp_p (pc' := 7) rfl rfl rfl ?_
  refine mi_wp_p (pc' := 10) rfl rfl (mi_br2 (b := false) (t := 14) (decide_eq_false h2) rfl) ?_
  refine mi_wp_p (pc' := 11) rfl rfl rfl ?_
  refine mi_wp_p (pc' := 15) rfl rfl rfl ?_
  exact mi_wp_r rfl rfl rfl rfl rfl
theorem mi_r_no {X : mi_X} {d : Nat} {h : mi_H} {a w : Int32} (r0 : mi_fv h 55 11 0 = some (.int w)) : mi_wp X d mi_M117 0 [(0, .ref 55), (1, .int a)] [] h 0 0 (fun z => ∃ h', z = (.inl (some (.int (Int32.ofInt 0))), h', 0, 0) ∧ mi_fv h' 55 11 0 = some (.int a)) := by
  refine mi_wp_p (pc' := 1) rfl rfl rfl ?_
  refine mi_wp_p (pc' := 2) rfl rfl rfl ?_
  refine mi_wp_pfk rfl rfl rfl r0 mi_fit_int (Or.inl rfl) ?_
  intro h1 e1 e2 e3 e4 e5
  replace r0 := e1
  clear e1 e2 e3 e4 e5
  refine mi_wp_p (pc' := 6) rfl rfl rfl ?_
  exact mi_wp_r rfl rfl rfl rfl ⟨_, rfl, r0⟩
theorem mi_r_thrown {X : mi_X} {d : Nat} {h : mi_H} {w : Int32} (r0 : mi_fv h 55 11 0 = some (.int w)) : mi_wp X d mi_M126 0 [(0, .ref 55)] [] h 0 0 (fun z => z = (.inl (some (.int w)), h, 0, 0)) := by
  refine mi_wp_p (pc' := 1) rfl rfl rfl ?_
  refine mi_wp_gf rfl rfl rfl r0 ?_
  exact mi_wp_r rfl rfl rfl (mi_ret_i rfl) rfl
theorem mi_r_isDef {X : mi_X} {h : mi_H} {a : Int32} (r1 : mi_fv h 55 11 34 = some (.int 0)) : mi_wp X 19 mi_M104 0 [(0, .ref 55), (1, .int a)] [] h 0 0 (fun z => z = (.inl (some (.int (Int32.ofInt 0))), h, 0, 0)) := by
  have hd : 8 ≤ 19 := by decide
  refine mi_wp_p (pc' := 1) rfl rfl rfl ?_
  refine mi_wp_p (pc' := 2) rfl rfl rfl ?_
  refine mi_wp_p (pc' := 3) rfl rfl rfl ?_
  refine mi_wp_gf rfl rfl rfl r1 ?_
  refine mi_wp_p (pc' := 7) rfl rfl rfl ?_
  refine mi_wp_p (pc' := 8) rfl rfl rfl ?_
  refine mi_wp_c1 rfl rfl rfl rfl rfl rfl (mi_cal_s (np := 3) rfl rfl (Or.inl rfl) rfl (Nat.le_of_ble_eq_true rfl) (Nat.le_of_ble_eq_true rfl)) (Nat.le_of_ble_eq_true rfl) (mi_r_in0 (mi_ix (by decide))) ?_
  exact mi_wp_r rfl rfl rfl rfl rfl
theorem mi_r_write {X : mi_X} {h : mi_H} {a : Int32} (r0 : mi_fv h 55 11 0 = some (.int 0)) (r1 : mi_fv h 55 11 34 = some (.int 0)) : mi_wp X 20 mi_M130 0 [(0, .ref 55), (1, .int a)] [] h 0 0 (fun z => ∃ h', z = (.inl (some (.int (Int32.ofInt 0))), h', 0, 0) ∧ ∃ w : Int32, mi_fv h' 55 11 0 = some (.int w) ∧ w = 1) := by
  have hd : 8 ≤ 20 := by decide
  refine mi_wp_p (pc' := 1) rfl rfl rfl ?_
  refine mi_wp_p (pc' := 2) rfl rfl rfl ?_
  refine mi_wp_pfk rfl rfl rfl r0 mi_fit_int (Or.inl rfl) ?_
  intro h1 e1 e2 e3 e4 e5
  replace r0 := mi_eqi (y := 0) e1 (by decide +kernel)
  replace r1 := e2 _ _ _ _ r1 (by decide)
  clear e1 e2 e3 e4 e5
  refine mi_wp_p (pc' := 6) rfl rfl rfl ?_
  refine mi_wp_p (pc' := 7) rfl rfl rfl ?_
  refine mi_wp_c1 rfl rfl rfl rfl rfl rfl (mi_cal_v (np := 1) rfl rfl rfl rfl (Nat.le_of_ble_eq_true rfl) (Nat.le_of_ble_eq_true rfl) (mi_rc_of r1)) (Nat.le_of_ble_eq_true rfl) (mi_r_isDef r1) ?_
  refine mi_wp_p (pc' := 26) rfl rfl (mi_br1 (b := true) (t := 26) (by decide +kernel) rfl) ?_
  refine mi_wp_p (pc' := 27) rfl rfl rfl ?_
  refine mi_wp_p (pc' := 28) rfl rfl rfl ?_
  refine mi_wp_ce rfl rfl rfl rfl rfl rfl (mi_cal_v (np := 1) rfl rfl rfl rfl (Nat.le_of_ble_eq_true rfl) (Nat.le_of_ble_eq_true rfl) (mi_rc_of r0)) (Nat.le_of_ble_eq_true rfl) (mi_r_no r0) ?_
  intro h9 r0
  exact mi_wp_r rfl rfl rfl rfl ⟨_, rfl, _, r0, by decide +kernel⟩
theorem mi_r_writeConstructor {X : mi_X} {h : mi_H} {a : Int32} (r0 : mi_fv h 55 11 0 = some (.int 0)) (r1 : mi_fv h 55 11 30 = some (.int 2)) : mi_wp X 20 mi_M132 0 [(0, .ref 55), (1, .int a)] [] h 0 0 (fun z => ∃ h', z = (.inl (some (.int (Int32.ofInt 0))), h', 0, 0) ∧ ∃ w : Int32, mi_fv h' 55 11 0 = some (.int w) ∧ w = 1) := by
  have hd : 8 ≤ 20 := by decide
  refine mi_wp_p (pc' := 1) rfl rfl rfl ?_
  refine mi_wp_p (pc' := 2) rfl rfl rfl ?_
  refine mi_wp_pfk rfl rfl rfl r0 mi_fit_int (Or.inl rfl) ?_
  intro h1 e1 e2 e3 e4 e5
  replace r0 := mi_eqi (y := 0) e1 (by decide +kernel)
  replace r1 := e2 _ _ _ _ r1 (by decide)
  clear e1 e2 e3 e4 e5
  refine mi_wp_p (pc' := 6) rfl rfl rfl ?_
  refine mi_wp_p (pc' := 7) rfl rfl rfl ?_
  refine mi_wp_p (pc' := 8) rfl rfl rfl ?_
  refine mi_wp_gf rfl rfl rfl r1 ?_
  refine mi_wp_p (pc' := 12) rfl rfl rfl ?_
  refine mi_wp_p (pc' := 13) rfl rfl rfl ?_
  refine mi_wp_c1 rfl rfl rfl rfl rfl rfl (mi_cal_s (np := 3) rfl rfl (Or.inl rfl) rfl (Nat.le_of_ble_eq_true rfl) (Nat.le_of_ble_eq_true rfl)) (Nat.le_of_ble_eq_true rfl) (mi_r_in0 (mi_ix (by decide))) ?_
  refine mi_wp_p (pc' := 34) rfl rfl (mi_br1 (b := true) (t := 34) (by decide +kernel) rfl) ?_
  refine mi_wp_p (pc' := 35) rfl rfl rfl ?_
  refine mi_wp_p (pc' := 36) rfl rfl rfl ?_
  refine mi_wp_ce rfl rfl rfl rfl rfl rfl (mi_cal_v (np := 1) rfl rfl rfl rfl (Nat.le_of_ble_eq_true rfl) (Nat.le_of_ble_eq_true rfl) (mi_rc_of r0)) (Nat.le_of_ble_eq_true rfl) (mi_r_no r0) ?_
  intro h9 r0
  exact mi_wp_r rfl rfl rfl rfl ⟨_, rfl, _, r0, by decide +kernel⟩
theorem mi_r_writeAt {X : mi_X} {h : mi_H} {a : Int32} (r0 : mi_fv h 55 11 0 = some (.int 0)) (r1 : mi_fv h 55 11 52 = some (.int 0)) : mi_wp X 20 mi_M131 0 [(0, .ref 55), (1, .int a)] [] h 0 0 (fun z => ∃ h', z = (.inl (some (.int (Int32.ofInt 0))), h', 0, 0) ∧ ∃ w : Int32, mi_fv h' 55 11 0 = some (.int w) ∧ w = 1) := by
  have hd : 8 ≤ 20 := by decide
  refine mi_wp_p (pc' := 1) rfl rfl rfl ?_
  refine mi_wp_p (pc' := 2) rfl rfl rfl ?_
  refine mi_wp_pfk rfl rfl rfl r0 mi_fit_int (Or.inl rfl) ?_
  intro h1 e1 e2 e3 e4 e5
  replace r0 := mi_eqi (y := 0) e1 (by decide +kernel)
  replace r1 := e2 _ _ _ _ r1 (by decide)
  clear e1 e2 e3 e4 e5
  refine mi_wp_p (pc' := 6) rfl rfl rfl ?_
  refine mi_wp_p (pc' := 7) rfl rfl rfl ?_
  refine mi_wp_p (pc' := 8) rfl rfl rfl ?_
  refine mi_wp_p (pc' := 9) rfl rfl rfl ?_
  refine mi_wp_p (pc' := 10) rfl rfl rfl ?_
  refine mi_wp_p (pc' := 11) rfl rfl rfl ?_
  refine mi_wp_gf rfl rfl rfl r1 ?_
  refine mi_wp_p (pc' := 92) rfl rfl (mi_br2 (b := true) (t := 92) (by decide +kernel) rfl) ?_
  refine mi_wp_p (pc' := 93) rfl rfl rfl ?_
  refine mi_wp_p (pc' := 94) rfl rfl rfl ?_
  refine mi_wp_p (pc' := 97) rfl rfl (mi_br2 (b := false) (t := 105) (by decide +kernel) rfl) ?_
  refine mi_wp_p (pc' := 98) rfl rfl rfl ?_
  refine mi_wp_p (pc' := 99) rfl rfl rfl ?_
  refine mi_wp_ce rfl rfl rfl rfl rfl rfl (mi_cal_v (np := 1) rfl rfl rfl rfl (Nat.le_of_ble_eq_true rfl) (Nat.le_of_ble_eq_true rfl) (mi_rc_of r0)) (Nat.le_of_ble_eq_true rfl) (mi_r_no r0) ?_
  intro h9 r0
  refine mi_wp_p (pc' := 115) rfl rfl rfl ?_
  exact mi_wp_r rfl rfl rfl rfl ⟨_, rfl, _, r0, by decide +kernel⟩
theorem mi_r_byteAt {X : mi_X} {h : mi_H} {a : Int32} (r0 : mi_fv h 55 11 0 = some (.int 0)) (r1 : mi_fv h 55 11 9 = some (.int 0)) : mi_wp X 20 mi_M90 0 [(0, .ref 55), (1, .int a)] [] h 0 0 (fun z => ∃ h', z = (.inl (some (.int (Int32.ofInt 0))), h', 0, 0) ∧ ∃ w : Int32, mi_fv h' 55 11 0 = some (.int w) ∧ w = 1) := by
  have hd : 8 ≤ 20 := by decide
  refine mi_wp_p (pc' := 1) rfl rfl rfl ?_
  refine mi_wp_p (pc' := 2) rfl rfl rfl ?_
  refine mi_wp_pfk rfl rfl rfl r0 mi_fit_int (Or.inl rfl) ?_
  intro h1 e1 e2 e3 e4 e5
  replace r0 := mi_eqi (y := 0) e1 (by decide +kernel)
  replace r1 := e2 _ _ _ _ r1 (by decide)
  clear e1 e2 e3 e4 e5
  refine mi_wp_p (pc' := 6) rfl rfl rfl ?_
  refine mi_wp_p (pc' := 7) rfl rfl rfl ?_
  refine mi_wp_p (pc' := 8) rfl rfl rfl ?_
  refine mi_wp_gf rfl rfl rfl r1 ?_
  refine mi_wp_p (pc' := 12) rfl rfl rfl ?_
  refine mi_wp_p (pc' := 13) rfl rfl rfl ?_
  refine mi_wp_c1 rfl rfl rfl rfl rfl rfl (mi_cal_s (np := 3) rfl rfl (Or.inl rfl) rfl (Nat.le_of_ble_eq_true rfl) (Nat.le_of_ble_eq_true rfl)) (Nat.le_of_ble_eq_true rfl) (mi_r_in0 (mi_ix (by decide))) ?_
  refine mi_wp_p (pc' := 28) rfl rfl (mi_br1 (b := true) (t := 28) (by decide +kernel) rfl) ?_
  refine mi_wp_p (pc' := 29) rfl rfl rfl ?_
  refine mi_wp_p (pc' := 30) rfl rfl rfl ?_
  refine mi_wp_ce rfl rfl rfl rfl rfl rfl (mi_cal_v (np := 1) rfl rfl rfl rfl (Nat.le_of_ble_eq_true rfl) (Nat.le_of_ble_eq_true rfl) (mi_rc_of r0)) (Nat.le_of_ble_eq_true rfl) (mi_r_no r0) ?_
  intro h9 r0
  exact mi_wp_r rfl rfl rfl rfl ⟨_, rfl, _, r0, by decide +kernel⟩
theorem mi_r_measure {X : mi_X} {h : mi_H} {a b : Int32} (r0 : mi_fv h 55 11 0 = some (.int 0)) (r1 : mi_fv h 55 11 34 = some (.int 0)) : mi_wp X 20 mi_M114 0 [(0, .ref 55), (1, .int a), (2, .int b)] [] h 0 0 (fun z => ∃ h', z = (.inl (some (.int (Int32.ofInt 0))), h', 0, 0) ∧ ∃ w : Int32, mi_fv h' 55 11 0 = some (.int w) ∧ w = 1) := by
  have hd : 8 ≤ 20 := by decide
  refine mi_wp_p (pc' := 1) rfl rfl rfl ?_
  refine mi_wp_p (pc' := 2) rfl rfl rfl ?_
  refine mi_wp_pfk rfl rfl rfl r0 mi_fit_int (Or.inl rfl) ?_
  intro h1 e1 e2 e3 e4 e5
  replace r0 := mi_eqi (y := 0) e1 (by decide +kernel)
  replace r1 := e2 _ _ _ _ r1 (by decide)
  clear e1 e2 e3 e4 e5
  refine mi_wp_p (pc' := 6) rfl rfl rfl ?_
  refine mi_wp_p (pc' := 7) rfl rfl rfl ?_
  refine mi_wp_c1 rfl rfl rfl rfl rfl rfl (mi_cal_v (np := 1) rfl rfl rfl rfl (Nat.le_of_ble_eq_true rfl) (Nat.le_of_ble_eq_true rfl) (mi_rc_of r1)) (Nat.le_of_ble_eq_true rfl) (mi_r_isDef r1) ?_
  refine mi_wp_p (pc' := 31) rfl rfl (mi_br1 (b := true) (t := 31) (by decide +kernel) rfl) ?_
  refine mi_wp_p (pc' := 32) rfl rfl rfl ?_
  refine mi_wp_p (pc' := 33) rfl rfl rfl ?_
  refine mi_wp_ce rfl rfl rfl rfl rfl rfl (mi_cal_v (np := 1) rfl rfl rfl rfl (Nat.le_of_ble_eq_true rfl) (Nat.le_of_ble_eq_true rfl) (mi_rc_of r0)) (Nat.le_of_ble_eq_true rfl) (mi_r_no r0) ?_
  intro h9 r0
  exact mi_wp_r rfl rfl rfl rfl ⟨_, rfl, _, r0, by decide +kernel⟩
theorem mi_r_uses {X : mi_X} {h : mi_H} {a b : Int32} (r0 : mi_fv h 55 11 0 = some (.int 0)) (r1 : mi_fv h 55 11 34 = some (.int 0)) : mi_wp X 20 mi_M129 0 [(0, .ref 55), (1, .int a), (2, .int b)] [] h 0 0 (fun z => ∃ h', z = (.inl (some (.int (Int32.ofInt 0))), h', 0, 0) ∧ ∃ w : Int32, mi_fv h' 55 11 0 = some (.int w) ∧ w = 1) := by
  have hd : 8 ≤ 20 := by decide
  refine mi_wp_p (pc' := 1) rfl rfl rfl ?_
  refine mi_wp_p (pc' := 2) rfl rfl rfl ?_
  refine mi_wp_pfk rfl rfl rfl r0 mi_fit_int (Or.inl rfl) ?_
  intro h1 e1 e2 e3 e4 e5
  replace r0 := mi_eqi (y := 0) e1 (by decide +kernel)
  replace r1 := e2 _ _ _ _ r1 (by decide)
  clear e1 e2 e3 e4 e5
  refine mi_wp_p (pc' := 6) rfl rfl rfl ?_
  refine mi_wp_p (pc' := 7) rfl rfl rfl ?_
  refine mi_wp_c1 rfl rfl rfl rfl rfl rfl (mi_cal_v (np := 1) rfl rfl rfl rfl (Nat.le_of_ble_eq_true rfl) (Nat.le_of_ble_eq_true rfl) (mi_rc_of r1)) (Nat.le_of_ble_eq_true rfl) (mi_r_isDef r1) ?_
  refine mi_wp_p (pc' := 35) rfl rfl (mi_br1 (b := true) (t := 35) (by decide +kernel) rfl) ?_
  refine mi_wp_p (pc' := 36) rfl rfl rfl ?_
  refine mi_wp_p (pc' := 37) rfl rfl rfl ?_
  refine mi_wp_ce rfl rfl rfl rfl rfl rfl (mi_cal_v (np := 1) rfl rfl rfl rfl (Nat.le_of_ble_eq_true rfl) (Nat.le_of_ble_eq_true rfl) (mi_rc_of r0)) (Nat.le_of_ble_eq_true rfl) (mi_r_no r0) ?_
  intro h9 r0
  exact mi_wp_r rfl rfl rfl rfl ⟨_, rfl, _, r0, by decide +kernel⟩
theorem mi_r_covers {X : mi_X} {h : mi_H} {a b : Int32} (r0 : mi_fv h 55 11 0 = some (.int 0)) (r1 : mi_fv h 55 11 34 = some (.int 0)) : mi_wp X 20 mi_M95 0 [(0, .ref 55), (1, .int a), (2, .int b)] [] h 0 0 (fun z => ∃ h', z = (.inl (some (.int (Int32.ofInt 0))), h', 0, 0) ∧ ∃ w : Int32, mi_fv h' 55 11 0 = some (.int w) ∧ w = 1) := by
  have hd : 8 ≤ 20 := by decide
  refine mi_wp_p (pc' := 1) rfl rfl rfl ?_
  refine mi_wp_p (pc' := 2) rfl rfl rfl ?_
  refine mi_wp_p (pc' := 3) rfl rfl rfl ?_
  refine mi_wp_c1 rfl rfl rfl rfl rfl rfl (mi_cal_v (np := 1) rfl rfl rfl rfl (Nat.le_of_ble_eq_true rfl) (Nat.le_of_ble_eq_true rfl) (mi_rc_of r1)) (Nat.le_of_ble_eq_true rfl) (mi_r_isDef r1) ?_
  refine mi_wp_p (pc' := 21) rfl rfl (mi_br1 (b := true) (t := 21) (by decide +kernel) rfl) ?_
  refine mi_wp_p (pc' := 22) rfl rfl rfl ?_
  refine mi_wp_pfk rfl rfl rfl r0 mi_fit_int (Or.inl rfl) ?_
  intro h1 e1 e2 e3 e4 e5
  replace r0 := mi_eqi (y := 1) e1 (by decide +kernel)
  replace r1 := e2 _ _ _ _ r1 (by decide)
  clear e1 e2 e3 e4 e5
  refine mi_wp_p (pc' := 26) rfl rfl rfl ?_
  refine mi_wp_gf rfl rfl rfl r0 ?_
  refine mi_wp_p (pc' := 32) rfl rfl (mi_br1 (b := false) (t := 34) (by decide +kernel) rfl) ?_
  refine mi_wp_p (pc' := 33) rfl rfl rfl ?_
  exact mi_wp_r rfl rfl rfl rfl ⟨_, rfl, _, r0, by decide +kernel⟩
theorem mi_r_meet {X : mi_X} {h : mi_H} {a b : Int32} (r0 : mi_fv h 55 11 0 = some (.int 0)) (r1 : mi_fv h 55 11 34 = some (.int 0)) : mi_wp X 20 mi_M115 0 [(0, .ref 55), (1, .int a), (2, .int b)] [] h 0 0 (fun z => ∃ h', z = (.inl (some (.int (Int32.ofInt 0))), h', 0, 0) ∧ ∃ w : Int32, mi_fv h' 55 11 0 = some (.int w) ∧ w = 1) := by
  have hd : 8 ≤ 20 := by decide
  refine mi_wp_p (pc' := 1) rfl rfl rfl ?_
  refine mi_wp_p (pc' := 2) rfl rfl rfl ?_
  refine mi_wp_pfk rfl rfl rfl r0 mi_fit_int (Or.inl rfl) ?_
  intro h1 e1 e2 e3 e4 e5
  replace r0 := mi_eqi (y := 0) e1 (by decide +kernel)
  replace r1 := e2 _ _ _ _ r1 (by decide)
  clear e1 e2 e3 e4 e5
  refine mi_wp_p (pc' := 6) rfl rfl rfl ?_
  refine mi_wp_p (pc' := 7) rfl rfl rfl ?_
  refine mi_wp_c1 rfl rfl rfl rfl rfl rfl (mi_cal_v (np := 1) rfl rfl rfl rfl (Nat.le_of_ble_eq_true rfl) (Nat.le_of_ble_eq_true rfl) (mi_rc_of r1)) (Nat.le_of_ble_eq_true rfl) (mi_r_isDef r1) ?_
  refine mi_wp_p (pc' := 21) rfl rfl (mi_br1 (b := true) (t := 21) (by decide +kernel) rfl) ?_
  refine mi_wp_p (pc' := 22) rfl rfl rfl ?_
  refine mi_wp_p (pc' := 23) rfl rfl rfl ?_
  refine mi_wp_ce rfl rfl rfl rfl rfl rfl (mi_cal_v (np := 1) rfl rfl rfl rfl (Nat.le_of_ble_eq_true rfl) (Nat.le_of_ble_eq_true rfl) (mi_rc_of r0)) (Nat.le_of_ble_eq_true rfl) (mi_r_no r0) ?_
  intro h9 r0
  exact mi_wp_r rfl rfl rfl rfl ⟨_, rfl, _, r0, by decide +kernel⟩
theorem mi_r_trim {X : mi_X} {h : mi_H} {a : Int32} (r0 : mi_fv h 55 11 0 = some (.int 0)) (r1 : mi_fv h 55 11 2 = some (.int 0)) (hne : a ≠ 0) : mi_wp X 20 mi_M127 0 [(0, .ref 55), (1, .int a)] [] h 0 0 (fun z => ∃ h', z = (.inl (some (.int (Int32.ofInt 0))), h', 0, 0) ∧ ∃ w : Int32, mi_fv h' 55 11 0 = some (.int w) ∧ w = 1) := by
  have hd : 8 ≤ 20 := by decide
  refine mi_wp_p (pc' := 1) rfl rfl rfl ?_
  refine mi_wp_p (pc' := 2) rfl rfl rfl ?_
  refine mi_wp_pfk rfl rfl rfl r0 mi_fit_int (Or.inl rfl) ?_
  intro h1 e1 e2 e3 e4 e5
  replace r0 := mi_eqi (y := 0) e1 (by decide +kernel)
  replace r1 := e2 _ _ _ _ r1 (by decide)
  clear e1 e2 e3 e4 e5
  refine mi_wp_p (pc' := 6) rfl rfl rfl ?_
  refine mi_wp_p (pc' := 7) rfl rfl rfl ?_
  refine mi_wp_p (pc' := 8) rfl rfl rfl ?_
  refine mi_wp_gf rfl rfl rfl r1 ?_
  refine mi_wp_c1 rfl rfl rfl rfl rfl rfl (mi_cal_s (np := 3) rfl rfl (Or.inl rfl) rfl (Nat.le_of_ble_eq_true rfl) (Nat.le_of_ble_eq_true rfl)) (Nat.le_of_ble_eq_true rfl) (mi_r_in0 (mi_i0 hne)) ?_
  refine mi_wp_p (pc' := 17) rfl rfl (mi_br1 (b := false) (t := 23) (by decide +kernel) rfl) ?_
  refine mi_wp_p (pc' := 18) rfl rfl rfl ?_
  refine mi_wp_p (pc' := 19) rfl rfl rfl ?_
  refine mi_wp_ce rfl rfl rfl rfl rfl rfl (mi_cal_v (np := 1) rfl rfl rfl rfl (Nat.le_of_ble_eq_true rfl) (Nat.le_of_ble_eq_true rfl) (mi_rc_of r0)) (Nat.le_of_ble_eq_true rfl) (mi_r_no r0) ?_
  intro h9 r0
  exact mi_wp_r rfl rfl rfl rfl ⟨_, rfl, _, r0, by decide +kernel⟩
theorem mi_r_trim0 {X : mi_X} {h : mi_H} {f : Nat → Int64} (r0 : mi_fv h 55 11 0 = some (.int 0)) (r1 : mi_fv h 55 11 2 = some (.int 0)) (a1 : mi_al h 98 = some (1, f)) : mi_wp X 20 mi_M127 0 [(0, .ref 55), (1, .int 0)] [] h 0 0 (fun z => ∃ h', z = (.inl (some (.int 0)), h', 0, 0) ∧ mi_fv h' 55 11 0 = some (.int 0) ∧ mi_al h' 98 = some (1, f)) := by
  have hd : 8 ≤ 20 := by decide
  refine mi_wp_p (pc' := 1) rfl rfl rfl ?_
  refine mi_wp_p (pc' := 2) rfl rfl rfl ?_
  refine mi_wp_pfk rfl rfl rfl r0 mi_fit_int (Or.inl rfl) ?_
  intro h1 e1 e2 e3 e4 e5
  replace r0 := mi_eqi (y := 0) e1 (by decide +kernel)
  replace r1 := e2 _ _ _ _ r1 (by decide)
  replace a1 := (e4 _).trans a1
  clear e1 e2 e3 e4 e5
  refine mi_wp_p (pc' := 6) rfl rfl rfl ?_
  refine mi_wp_p (pc' := 7) rfl rfl rfl ?_
  refine mi_wp_p (pc' := 8) rfl rfl rfl ?_
  refine mi_wp_gf rfl rfl rfl r1 ?_
  refine mi_wp_c1 rfl rfl rfl rfl rfl rfl (mi_cal_s (np := 3) rfl rfl (Or.inl rfl) rfl (Nat.le_of_ble_eq_true rfl) (Nat.le_of_ble_eq_true rfl)) (Nat.le_of_ble_eq_true rfl) (mi_r_in1 (by decide) (by decide)) ?_
  refine mi_wp_p (pc' := 23) rfl rfl (mi_br1 (b := true) (t := 23) (by decide +kernel) rfl) ?_
  refine mi_wp_p (pc' := 24) rfl rfl rfl ?_
  refine mi_wp_p (pc' := 25) rfl rfl rfl ?_
  refine mi_wp_pfk rfl rfl rfl r1 mi_fit_int (Or.inl rfl) ?_
  intro h2 e1 e2 e3 e4 e5
  replace r0 := e2 _ _ _ _ r0 (by decide)
  replace r1 := mi_eqi (y := 0) e1 (by decide +kernel)
  replace a1 := (e4 _).trans a1
  clear e1 e2 e3 e4 e5
  refine mi_wp_p (pc' := 29) rfl rfl rfl ?_
  exact mi_wp_r rfl rfl rfl rfl ⟨_, rfl, r0, a1⟩
theorem mi_r_count {X : mi_X} {h : mi_H} {a : Int32} (r0 : mi_fv h 55 11 0 = some (.int 0)) (hx : a < Int32.ofInt 0 ∨ Int32.ofInt 4 < a) : mi_wp X 20 mi_M93 0 [(0, .ref 55), (1, .int a)] [] h 0 0 (fun z => ∃ h', z = (.inl (some (.int (Int32.ofInt 0))), h', 0, 0) ∧ ∃ w : Int32, mi_fv h' 55 11 0 = some (.int w) ∧ w = 1) := by
  have hd : 8 ≤ 20 := by decide
  refine mi_wp_p (pc' := 1) rfl rfl rfl ?_
  refine mi_wp_p (pc' := 2) rfl rfl rfl ?_
  refine mi_wp_pfk rfl rfl rfl r0 mi_fit_int (Or.inl rfl) ?_
  intro h1 e1 e2 e3 e4 e5
  replace r0 := mi_eqi (y := 0) e1 (by decide +kernel)
  clear e1 e2 e3 e4 e5
  refine mi_wp_p (pc' := 6) rfl rfl rfl ?_
  refine mi_wp_p (pc' := 7) rfl rfl rfl ?_
  refine mi_wp_p (pc' := 8) rfl rfl rfl ?_
  refine mi_wp_c1 rfl rfl rfl rfl rfl rfl (mi_cal_s (np := 3) rfl rfl (Or.inl rfl) rfl (Nat.le_of_ble_eq_true rfl) (Nat.le_of_ble_eq_true rfl)) (Nat.le_of_ble_eq_true rfl) (mi_r_in0 hx) ?_
  refine mi_wp_p (pc' := 22) rfl rfl (mi_br1 (b := true) (t := 22) (by decide +kernel) rfl) ?_
  refine mi_wp_p (pc' := 23) rfl rfl rfl ?_
  refine mi_wp_p (pc' := 24) rfl rfl rfl ?_
  refine mi_wp_ce rfl rfl rfl rfl rfl rfl (mi_cal_v (np := 1) rfl rfl rfl rfl (Nat.le_of_ble_eq_true rfl) (Nat.le_of_ble_eq_true rfl) (mi_rc_of r0)) (Nat.le_of_ble_eq_true rfl) (mi_r_no r0) ?_
  intro h9 r0
  exact mi_wp_r rfl rfl rfl rfl ⟨_, rfl, _, r0, by decide +kernel⟩
theorem mi_r_counted0 {X : mi_X} {d : Nat} {h : mi_H} (r1 : mi_fv h 55 11 27 = some (.int 1)) : mi_wp X d mi_M94 0 [(0, .ref 55), (1, .int 0)] [] h 0 0 (fun z => z = (.inl (some (.int 0)), h, 0, 0)) := by
  refine mi_wp_p (pc' := 1) rfl rfl rfl ?_
  refine mi_wp_p (pc' := 4) rfl rfl (mi_br1 (b := false) (t := 13) (by decide +kernel) rfl) ?_
  refine mi_wp_p (pc' := 5) rfl rfl rfl ?_
  refine mi_wp_gf rfl rfl rfl r1 ?_
  refine mi_wp_p (pc' := 9) rfl rfl rfl ?_
  refine mi_wp_p (pc' := 10) rfl rfl rfl ?_
  refine mi_wp_p (pc' := 55) rfl rfl rfl ?_
  exact mi_wp_r rfl rfl rfl rfl (mi_zi (by decide +kernel))
theorem mi_r_count0 {X : mi_X} {h : mi_H} {f : Nat → Int64} (r0 : mi_fv h 55 11 0 = some (.int 0)) (r1 : mi_fv h 55 11 27 = some (.int 1)) (a1 : mi_al h 98 = some (1, f)) : mi_wp X 20 mi_M93 0 [(0, .ref 55), (1, .int 0)] [] h 0 0 (fun z => ∃ h', z = (.inl (some (.int 0)), h', 0, 0) ∧ mi_fv h' 55 11 0 = some (.int 0) ∧ mi_al h' 98 = some (1, f)) := by
  have hd : 8 ≤ 20 := by decide
  refine mi_wp_p (pc' := 1) rfl rfl rfl ?_
  refine mi_wp_p (pc' := 2) rfl rfl rfl ?_
  refine mi_wp_pfk rfl rfl rfl r0 mi_fit_int (Or.inl rfl) ?_
  intro h1 e1 e2 e3 e4 e5
  replace r0 := mi_eqi (y := 0) e1 (by decide +kernel)
  replace r1 := e2 _ _ _ _ r1 (by decide)
  replace a1 := (e4 _).trans a1
  clear e1 e2 e3 e4 e5
  refine mi_wp_p (pc' := 6) rfl rfl rfl ?_
  refine mi_wp_p (pc' := 7) rfl rfl rfl ?_
  refine mi_wp_p (pc' := 8) rfl rfl rfl ?_
  refine mi_wp_c1 rfl rfl rfl rfl rfl rfl (mi_cal_s (np := 3) rfl rfl (Or.inl rfl) rfl (Nat.le_of_ble_eq_true rfl) (Nat.le_of_ble_eq_true rfl)) (Nat.le_of_ble_eq_true rfl) (mi_r_in1 (by decide) (by decide)) ?_
  refine mi_wp_p (pc' := 14) rfl rfl (mi_br1 (b := false) (t := 22) (by decide +kernel) rfl) ?_
  refine mi_wp_p (pc' := 15) rfl rfl rfl ?_
  refine mi_wp_p (pc' := 16) rfl rfl rfl ?_
  refine mi_wp_c1 rfl rfl rfl rfl rfl rfl (mi_cal_v (np := 1) rfl rfl rfl rfl (Nat.le_of_ble_eq_true rfl) (Nat.le_of_ble_eq_true rfl) (mi_rc_of r0)) (Nat.le_of_ble_eq_true rfl) (mi_r_counted0 r1) ?_
  refine mi_wp_p (pc' := 27) rfl rfl rfl ?_
  exact mi_wp_r rfl rfl rfl rfl ⟨_, rfl, r0, a1⟩
theorem mi_r_counted1 {X : mi_X} {d : Nat} {h : mi_H} (r1 : mi_fv h 55 11 30 = some (.int 2)) : mi_wp X d mi_M94 0 [(0, .ref 55), (1, .int 1)] [] h 0 0 (fun z => z = (.inl (some (.int 0)), h, 0, 0)) := by
  refine mi_wp_p (pc' := 1) rfl rfl rfl ?_
  refine mi_wp_p (pc' := 13) rfl rfl (mi_br1 (b := true) (t := 13) (by decide +kernel) rfl) ?_
  refine mi_wp_p (pc' := 14) rfl rfl rfl ?_
  refine mi_wp_p (pc' := 15) rfl rfl rfl ?_
  refine mi_wp_p (pc' := 18) rfl rfl (mi_br2 (b := false) (t := 27) (by decide +kernel) rfl) ?_
  refine mi_wp_p (pc' := 19) rfl rfl rfl ?_
  refine mi_wp_gf rfl rfl rfl r1 ?_
  refine mi_wp_p (pc' := 23) rfl rfl rfl ?_
  refine mi_wp_p (pc' := 24) rfl rfl rfl ?_
  refine mi_wp_p (pc' := 55) rfl rfl rfl ?_
  exact mi_wp_r rfl rfl rfl rfl (mi_zi (by decide +kernel))
theorem mi_r_count1 {X : mi_X} {h : mi_H} {f : Nat → Int64} (r0 : mi_fv h 55 11 0 = some (.int 0)) (r1 : mi_fv h 55 11 30 = some (.int 2)) (a1 : mi_al h 98 = some (1, f)) : mi_wp X 20 mi_M93 0 [(0, .ref 55), (1, .int 1)] [] h 0 0 (fun z => ∃ h', z = (.inl (some (.int 0)), h', 0, 0) ∧ mi_fv h' 55 11 0 = some (.int 0) ∧ mi_al h' 98 = some (1, f)) := by
  have hd : 8 ≤ 20 := by decide
  refine mi_wp_p (pc' := 1) rfl rfl rfl ?_
  refine mi_wp_p (pc' := 2) rfl rfl rfl ?_
  refine mi_wp_pfk rfl rfl rfl r0 mi_fit_int (Or.inl rfl) ?_
  intro h1 e1 e2 e3 e4 e5
  replace r0 := mi_eqi (y := 0) e1 (by decide +kernel)
  replace r1 := e2 _ _ _ _ r1 (by decide)
  replace a1 := (e4 _).trans a1
  clear e1 e2 e3 e4 e5
  refine mi_wp_p (pc' := 6) rfl rfl rfl ?_
  refine mi_wp_p (pc' := 7) rfl rfl rfl ?_
  refine mi_wp_p (pc' := 8) rfl rfl rfl ?_
  refine mi_wp_c1 rfl rfl rfl rfl rfl rfl (mi_cal_s (np := 3) rfl rfl (Or.inl rfl) rfl (Nat.le_of_ble_eq_true rfl) (Nat.le_of_ble_eq_true rfl)) (Nat.le_of_ble_eq_true rfl) (mi_r_in1 (by decide) (by decide)) ?_
  refine mi_wp_p (pc' := 14) rfl rfl (mi_br1 (b := false) (t := 22) (by decide +kernel) rfl) ?_
  refine mi_wp_p (pc' := 15) rfl rfl rfl ?_
  refine mi_wp_p (pc' := 16) rfl rfl rfl ?_
  refine mi_wp_c1 rfl rfl rfl rfl rfl rfl (mi_cal_v (np := 1) rfl rfl rfl rfl (Nat.le_of_ble_eq_true rfl) (Nat.le_of_ble_eq_true rfl) (mi_rc_of r0)) (Nat.le_of_ble_eq_true rfl) (mi_r_counted1 r1) ?_
  refine mi_wp_p (pc' := 27) rfl rfl rfl ?_
  exact mi_wp_r rfl rfl rfl rfl ⟨_, rfl, r0, a1⟩
theorem mi_r_counted2 {X : mi_X} {d : Nat} {h : mi_H} (r1 : mi_fv h 55 11 34 = some (.int 0)) : mi_wp X d mi_M94 0 [(0, .ref 55), (1, .int 2)] [] h 0 0 (fun z => z = (.inl (some (.int 0)), h, 0, 0)) := by
  refine mi_wp_p (pc' := 1) rfl rfl rfl ?_
  refine mi_wp_p (pc' := 13) rfl rfl (mi_br1 (b := true) (t := 13) (by decide +kernel) rfl) ?_
  refine mi_wp_p (pc' := 14) rfl rfl rfl ?_
  refine mi_wp_p (pc' := 15) rfl rfl rfl ?_
  refine mi_wp_p (pc' := 27) rfl rfl (mi_br2 (b := true) (t := 27) (by decide +kernel) rfl) ?_
  refine mi_wp_p (pc' := 28) rfl rfl rfl ?_
  refine mi_wp_p (pc' := 29) rfl rfl rfl ?_
  refine mi_wp_p (pc' := 32) rfl rfl (mi_br2 (b := false) (t := 39) (by decide +kernel) rfl) ?_
  refine mi_wp_p (pc' := 33) rfl rfl rfl ?_
  refine mi_wp_gf rfl rfl rfl r1 ?_
  refine mi_wp_p (pc' := 55) rfl rfl rfl ?_
  exact mi_wp_r rfl rfl rfl rfl rfl
theorem mi_r_count2 {X : mi_X} {h : mi_H} {f : Nat → Int64} (r0 : mi_fv h 55 11 0 = some (.int 0)) (r1 : mi_fv h 55 11 34 = some (.int 0)) (a1 : mi_al h 98 = some (1, f)) : mi_wp X 20 mi_M93 0 [(0, .ref 55), (1, .int 2)] [] h 0 0 (fun z => ∃ h', z = (.inl (some (.int 0)), h', 0, 0) ∧ mi_fv h' 55 11 0 = some (.int 0) ∧ mi_al h' 98 = some (1, f)) := by
  have hd : 8 ≤ 20 := by decide
  refine mi_wp_p (pc' := 1) rfl rfl rfl ?_
  refine mi_wp_p (pc' := 2) rfl rfl rfl ?_
  refine mi_wp_pfk rfl rfl rfl r0 mi_fit_int (Or.inl rfl) ?_
  intro h1 e1 e2 e3 e4 e5
  replace r0 := mi_eqi (y := 0) e1 (by decide +kernel)
  replace r1 := e2 _ _ _ _ r1 (by decide)
  replace a1 := (e4 _).trans a1
  clear e1 e2 e3 e4 e5
  refine mi_wp_p (pc' := 6) rfl rfl rfl ?_
  refine mi_wp_p (pc' := 7) rfl rfl rfl ?_
  refine mi_wp_p (pc' := 8) rfl rfl rfl ?_
  refine mi_wp_c1 rfl rfl rfl rfl rfl rfl (mi_cal_s (np := 3) rfl rfl (Or.inl rfl) rfl (Nat.le_of_ble_eq_true rfl) (Nat.le_of_ble_eq_true rfl)) (Nat.le_of_ble_eq_true rfl) (mi_r_in1 (by decide) (by decide)) ?_
  refine mi_wp_p (pc' := 14) rfl rfl (mi_br1 (b := false) (t := 22) (by decide +kernel) rfl) ?_
  refine mi_wp_p (pc' := 15) rfl rfl rfl ?_
  refine mi_wp_p (pc' := 16) rfl rfl rfl ?_
  refine mi_wp_c1 rfl rfl rfl rfl rfl rfl (mi_cal_v (np := 1) rfl rfl rfl rfl (Nat.le_of_ble_eq_true rfl) (Nat.le_of_ble_eq_true rfl) (mi_rc_of r0)) (Nat.le_of_ble_eq_true rfl) (mi_r_counted2 r1) ?_
  refine mi_wp_p (pc' := 27) rfl rfl rfl ?_
  exact mi_wp_r rfl rfl rfl rfl ⟨_, rfl, r0, a1⟩
theorem mi_r_counted3 {X : mi_X} {d : Nat} {h : mi_H} (r1 : mi_fv h 55 11 2 = some (.int 0)) : mi_wp X d mi_M94 0 [(0, .ref 55), (1, .int 3)] [] h 0 0 (fun z => z = (.inl (some (.int 0)), h, 0, 0)) := by
  refine mi_wp_p (pc' := 1) rfl rfl rfl ?_
  refine mi_wp_p (pc' := 13) rfl rfl (mi_br1 (b := true) (t := 13) (by decide +kernel) rfl) ?_
  refine mi_wp_p (pc' := 14) rfl rfl rfl ?_
  refine mi_wp_p (pc' := 15) rfl rfl rfl ?_
  refine mi_wp_p (pc' := 27) rfl rfl (mi_br2 (b := true) (t := 27) (by decide +kernel) rfl) ?_
  refine mi_wp_p (pc' := 28) rfl rfl rfl ?_
  refine mi_wp_p (pc' := 29) rfl rfl rfl ?_
  refine mi_wp_p (pc' := 39) rfl rfl (mi_br2 (b := true) (t := 39) (by decide +kernel) rfl) ?_
  refine mi_wp_p (pc' := 40) rfl rfl rfl ?_
  refine mi_wp_p (pc' := 41) rfl rfl rfl ?_
  refine mi_wp_p (pc' := 44) rfl rfl (mi_br2 (b := false) (t := 51) (by decide +kernel) rfl) ?_
  refine mi_wp_p (pc' := 45) rfl rfl rfl ?_
  refine mi_wp_gf rfl rfl rfl r1 ?_
  refine mi_wp_p (pc' := 55) rfl rfl rfl ?_
  exact mi_wp_r rfl rfl rfl rfl rfl
theorem mi_r_count3 {X : mi_X} {h : mi_H} {f : Nat → Int64} (r0 : mi_fv h 55 11 0 = some (.int 0)) (r1 : mi_fv h 55 11 2 = some (.int 0)) (a1 : mi_al h 98 = some (1, f)) : mi_wp X 20 mi_M93 0 [(0, .ref 55), (1, .int 3)] [] h 0 0 (fun z => ∃ h', z = (.inl (some (.int 0)), h', 0, 0) ∧ mi_fv h' 55 11 0 = some (.int 0) ∧ mi_al h' 98 = some (1, f)) := by
  have hd : 8 ≤ 20 := by decide
  refine mi_wp_p (pc' := 1) rfl rfl rfl ?_
  refine mi_wp_p (pc' := 2) rfl rfl rfl ?_
  refine mi_wp_pfk rfl rfl rfl r0 mi_fit_int (Or.inl rfl) ?_
  intro h1 e1 e2 e3 e4 e5
  replace r0 := mi_eqi (y := 0) e1 (by decide +kernel)
  replace r1 := e2 _ _ _ _ r1 (by decide)
  replace a1 := (e4 _).trans a1
  clear e1 e2 e3 e4 e5
  refine mi_wp_p (pc' := 6) rfl rfl rfl ?_
  refine mi_wp_p (pc' := 7) rfl rfl rfl ?_
  refine mi_wp_p (pc' := 8) rfl rfl rfl ?_
  refine mi_wp_c1 rfl rfl rfl rfl rfl rfl (mi_cal_s (np := 3) rfl rfl (Or.inl rfl) rfl (Nat.le_of_ble_eq_true rfl) (Nat.le_of_ble_eq_true rfl)) (Nat.le_of_ble_eq_true rfl) (mi_r_in1 (by decide) (by decide)) ?_
  refine mi_wp_p (pc' := 14) rfl rfl (mi_br1 (b := false) (t := 22) (by decide +kernel) rfl) ?_
  refine mi_wp_p (pc' := 15) rfl rfl rfl ?_
  refine mi_wp_p (pc' := 16) rfl rfl rfl ?_
  refine mi_wp_c1 rfl rfl rfl rfl rfl rfl (mi_cal_v (np := 1) rfl rfl rfl rfl (Nat.le_of_ble_eq_true rfl) (Nat.le_of_ble_eq_true rfl) (mi_rc_of r0)) (Nat.le_of_ble_eq_true rfl) (mi_r_counted3 r1) ?_
  refine mi_wp_p (pc' := 27) rfl rfl rfl ?_
  exact mi_wp_r rfl rfl rfl rfl ⟨_, rfl, r0, a1⟩
theorem mi_r_counted4 {X : mi_X} {d : Nat} {h : mi_H} (r1 : mi_fv h 55 11 9 = some (.int 0)) : mi_wp X d mi_M94 0 [(0, .ref 55), (1, .int 4)] [] h 0 0 (fun z => z = (.inl (some (.int 0)), h, 0, 0)) := by
  refine mi_wp_p (pc' := 1) rfl rfl rfl ?_
  refine mi_wp_p (pc' := 13) rfl rfl (mi_br1 (b := true) (t := 13) (by decide +kernel) rfl) ?_
  refine mi_wp_p (pc' := 14) rfl rfl rfl ?_
  refine mi_wp_p (pc' := 15) rfl rfl rfl ?_
  refine mi_wp_p (pc' := 27) rfl rfl (mi_br2 (b := true) (t := 27) (by decide +kernel) rfl) ?_
  refine mi_wp_p (pc' := 28) rfl rfl rfl ?_
  refine mi_wp_p (pc' := 29) rfl rfl rfl ?_
  refine mi_wp_p (pc' := 39) rfl rfl (mi_br2 (b := true) (t := 39) (by decide +kernel) rfl) ?_
  refine mi_wp_p (pc' := 40) rfl rfl rfl ?_
  refine mi_wp_p (pc' := 41) rfl rfl rfl ?_
  refine mi_wp_p (pc' := 51) rfl rfl (mi_br2 (b := true) (t := 51) (by decide +kernel) rfl) ?_
  refine mi_wp_p (pc' := 52) rfl rfl rfl ?_
  refine mi_wp_gf rfl rfl rfl r1 ?_
  exact mi_wp_r rfl rfl rfl rfl rfl
theorem mi_r_count4 {X : mi_X} {h : mi_H} {f : Nat → Int64} (r0 : mi_fv h 55 11 0 = some (.int 0)) (r1 : mi_fv h 55 11 9 = some (.int 0)) (a1 : mi_al h 98 = some (1, f)) : mi_wp X 20 mi_M93 0 [(0, .ref 55), (1, .int 4)] [] h 0 0 (fun z => ∃ h', z = (.inl (some (.int 0)), h', 0, 0) ∧ mi_fv h' 55 11 0 = some (.int 0) ∧ mi_al h' 98 = some (1, f)) := by
  have hd : 8 ≤ 20 := by decide
  refine mi_wp_p (pc' := 1) rfl rfl rfl ?_
  refine mi_wp_p (pc' := 2) rfl rfl rfl ?_
  refine mi_wp_pfk rfl rfl rfl r0 mi_fit_int (Or.inl rfl) ?_
  intro h1 e1 e2 e3 e4 e5
  replace r0 := mi_eqi (y := 0) e1 (by decide +kernel)
  replace r1 := e2 _ _ _ _ r1 (by decide)
  replace a1 := (e4 _).trans a1
  clear e1 e2 e3 e4 e5
  refine mi_wp_p (pc' := 6) rfl rfl rfl ?_
  refine mi_wp_p (pc' := 7) rfl rfl rfl ?_
  refine mi_wp_p (pc' := 8) rfl rfl rfl ?_
  refine mi_wp_c1 rfl rfl rfl rfl rfl rfl (mi_cal_s (np := 3) rfl rfl (Or.inl rfl) rfl (Nat.le_of_ble_eq_true rfl) (Nat.le_of_ble_eq_true rfl)) (Nat.le_of_ble_eq_true rfl) (mi_r_in1 (by decide) (by decide)) ?_
  refine mi_wp_p (pc' := 14) rfl rfl (mi_br1 (b := false) (t := 22) (by decide +kernel) rfl) ?_
  refine mi_wp_p (pc' := 15) rfl rfl rfl ?_
  refine mi_wp_p (pc' := 16) rfl rfl rfl ?_
  refine mi_wp_c1 rfl rfl rfl rfl rfl rfl (mi_cal_v (np := 1) rfl rfl rfl rfl (Nat.le_of_ble_eq_true rfl) (Nat.le_of_ble_eq_true rfl) (mi_rc_of r0)) (Nat.le_of_ble_eq_true rfl) (mi_r_counted4 r1) ?_
  refine mi_wp_p (pc' := 27) rfl rfl rfl ?_
  exact mi_wp_r rfl rfl rfl rfl ⟨_, rfl, r0, a1⟩
end
section
/-! ===== feed (printed by wip/gen/p1walk.py) ===== -/
theorem mi_c_append0 {X : mi_X} {d : Nat} {h : mi_H} {a : Int32} {f : Nat → Int64} {g g2 : Nat → Int32} (f0 : mi_fv h 0 10 10 = some (.int 0)) (g1 : mi_fv h 0 10 0 = some (.ref 1)) (r0 : mi_fv h 55 11 0 = some (.int 0)) (r1 : mi_fv h 55 11 2 = some (.int 0)) (r2 : mi_fv h 55 11 1 = some (.ref 56)) (a0 : mi_ai h 1 = some (2, 1200, g)) (a2 : mi_ai h 56 = some (0, 1200, g2)) (a1 : mi_al h 98 = some (1, f)) (hl : h.length = 99) : mi_wp X d mi_M2 0 [(0, .ref 0), (1, .int a)] [] h 0 0 (fun z => ∃ h', z = (.inl none, h', 0, 0) ∧ mi_fv h' 0 10 10 = some (.int 4) ∧ mi_fv h' 0 10 0 = some (.ref 1) ∧ mi_fv h' 55 11 0 = some (.int 0) ∧ mi_fv h' 55 11 2 = some (.int 0) ∧ mi_fv h' 55 11 1 = some (.ref 56) ∧ mi_ai h' 56 = some (0, 1200, g2) ∧ mi_al h' 98 = some (1, f) ∧ h'.length = 99 ∧ ∃ g', mi_ai h' 1 = some (2, 1200, g')) := by
  refine mi_wp_p (pc' := 2) rfl rfl rfl ?_
  refine mi_wp_p (pc' := 3) rfl rfl rfl ?_
  refine mi_wp_l (l' := [(2, _), (0, _), (1, _)]) rfl ?_
  refine mi_wp_p (pc' := 4) rfl rfl rfl ?_
  refine mi_wp_p (pc' := 7) rfl rfl (mi_br1 (b := false) (t := 46) (by decide +kernel) rfl) ?_
  refine mi_wp_p (pc' := 8) rfl rfl rfl ?_
  refine mi_wp_gf rfl rfl rfl f0 ?_
  refine mi_wp_p (pc' := 14) rfl rfl rfl ?_
  refine mi_wp_p (pc' := 17) rfl rfl (mi_br2 (b := false) (t := 40) (by decide +kernel) rfl) ?_
  refine mi_wp_p (pc' := 18) rfl rfl rfl ?_
  refine mi_wp_gf rfl rfl rfl g1 ?_
  refine mi_wp_p (pc' := 22) rfl rfl rfl ?_
  refine mi_wp_gf rfl rfl rfl f0 ?_
  refine mi_wp_p (pc' := 26) rfl rfl rfl ?_
  refine mi_wp_p (pc' := 27) rfl rfl rfl ?_
  refine mi_wp_p (pc' := 28) rfl rfl rfl ?_
  refine mi_wp_p (pc' := 29) rfl rfl rfl ?_
  refine mi_wp_bask rfl rfl a0 (by decide +kernel) ?_
  intro h1 e1 e2 e3 e4 e5
  replace f0 := (e2 _ _ _).trans f0
  replace g1 := (e2 _ _ _).trans g1
  replace r0 := (e2 _ _ _).trans r0
  replace r1 := (e2 _ _ _).trans r1
  replace r2 := (e2 _ _ _).trans r2
  replace a0 := e1
  replace a2 := (e3 _ (by decide)).trans a2
  replace a1 := (e4 _).trans a1
  replace hl := e5.trans hl
  clear e1 e2 e3 e4 e5
  refine mi_wp_p (pc' := 31) rfl rfl rfl ?_
  refine mi_wp_p (pc' := 32) rfl rfl rfl ?_
  refine mi_wp_gf rfl rfl rfl f0 ?_
  refine mi_wp_p (pc' := 36) rfl rfl rfl ?_
  refine mi_wp_p (pc' := 37) rfl rfl rfl ?_
  refine mi_wp_pfk rfl rfl rfl f0 mi_fit_int (Or.inl rfl) ?_
  intro h2 e1 e2 e3 e4 e5
  replace f0 := mi_eqi (y := 1) e1 (by decide +kernel)
  replace g1 := e2 _ _ _ _ g1 (by decide)
  replace r0 := e2 _ _ _ _ r0 (by decide)
  replace r1 := e2 _ _ _ _ r1 (by decide)
  replace r2 := e2 _ _ _ _ r2 (by decide)
  replace a0 := (e3 _).trans a0
  replace a2 := (e3 _).trans a2
  replace a1 := (e4 _).trans a1
  replace hl := e5.trans hl
  clear e1 e2 e3 e4 e5
  refine mi_wp_p (pc' := 43) rfl rfl rfl ?_
  refine mi_wp_p (pc' := 3) rfl rfl rfl ?_
  refine mi_wp_l (l' := [(2, _), (0, _), (1, _)]) rfl ?_
  refine mi_wp_p (pc' := 4) rfl rfl rfl ?_
  refine mi_wp_p (pc' := 7) rfl rfl (mi_br1 (b := false) (t := 46) (by decide +kernel) rfl) ?_
  refine mi_wp_p (pc' := 8) rfl rfl rfl ?_
  refine mi_wp_gf rfl rfl rfl f0 ?_
  refine mi_wp_p (pc' := 14) rfl rfl rfl ?_
  refine mi_wp_p (pc' := 17) rfl rfl (mi_br2 (b := false) (t := 40) (by decide +kernel) rfl) ?_
  refine mi_wp_p (pc' := 18) rfl rfl rfl ?_
  refine mi_wp_gf rfl rfl rfl g1 ?_
  refine mi_wp_p (pc' := 22) rfl rfl rfl ?_
  refine mi_wp_gf rfl rfl rfl f0 ?_
  refine mi_wp_p (pc' := 26) rfl rfl rfl ?_
  refine mi_wp_p (pc' := 27) rfl rfl rfl ?_
  refine mi_wp_p (pc' := 28) rfl rfl rfl ?_
  refine mi_wp_p (pc' := 29) rfl rfl rfl ?_
  refine mi_wp_bask rfl rfl a0 (by decide +kernel) ?_
  intro h3 e1 e2 e3 e4 e5
  replace f0 := (e2 _ _ _).trans f0
  replace g1 := (e2 _ _ _).trans g1
  replace r0 := (e2 _ _ _).trans r0
  replace r1 := (e2 _ _ _).trans r1
  replace r2 := (e2 _ _ _).trans r2
  replace a0 := e1
  replace a2 := (e3 _ (by decide)).trans a2
  replace a1 := (e4 _).trans a1
  replace hl := e5.trans hl
  clear e1 e2 e3 e4 e5
  refine mi_wp_p (pc' := 31) rfl rfl rfl ?_
  refine mi_wp_p (pc' := 32) rfl rfl rfl ?_
  refine mi_wp_gf rfl rfl rfl f0 ?_
  refine mi_wp_p (pc' := 36) rfl rfl rfl ?_
  refine mi_wp_p (pc' := 37) rfl rfl rfl ?_
  refine mi_wp_pfk rfl rfl rfl f0 mi_fit_int (Or.inl rfl) ?_
  intro h4 e1 e2 e3 e4 e5
  replace f0 := mi_eqi (y := 2) e1 (by decide +kernel)
  replace g1 := e2 _ _ _ _ g1 (by decide)
  replace r0 := e2 _ _ _ _ r0 (by decide)
  replace r1 := e2 _ _ _ _ r1 (by decide)
  replace r2 := e2 _ _ _ _ r2 (by decide)
  replace a0 := (e3 _).trans a0
  replace a2 := (e3 _).trans a2
  replace a1 := (e4 _).trans a1
  replace hl := e5.trans hl
  clear e1 e2 e3 e4 e5
  refine mi_wp_p (pc' := 43) rfl rfl rfl ?_
  refine mi_wp_p (pc' := 3) rfl rfl rfl ?_
  refine mi_wp_l (l' := [(2, _), (0, _), (1, _)]) rfl ?_
  refine mi_wp_p (pc' := 4) rfl rfl rfl ?_
  refine mi_wp_p (pc' := 7) rfl rfl (mi_br1 (b := false) (t := 46) (by decide +kernel) rfl) ?_
  refine mi_wp_p (pc' := 8) rfl rfl rfl ?_
  refine mi_wp_gf rfl rfl rfl f0 ?_
  refine mi_wp_p (pc' := 14) rfl rfl rfl ?_
  refine mi_wp_p (pc' := 17) rfl rfl (mi_br2 (b := false) (t := 40) (by decide +kernel) rfl) ?_
  refine mi_wp_p (pc' := 18) rfl rfl rfl ?_
  refine mi_wp_gf rfl rfl rfl g1 ?_
  refine mi_wp_p (pc' := 22) rfl rfl rfl ?_
  refine mi_wp_gf rfl rfl rfl f0 ?_
  refine mi_wp_p (pc' := 26) rfl rfl rfl ?_
  refine mi_wp_p (pc' := 27) rfl rfl rfl ?_
  refine mi_wp_p (pc' := 28) rfl rfl rfl ?_
  refine mi_wp_p (pc' := 29) rfl rfl rfl ?_
  refine mi_wp_bask rfl rfl a0 (by decide +kernel) ?_
  intro h5 e1 e2 e3 e4 e5
  replace f0 := (e2 _ _ _).trans f0
  replace g1 := (e2 _ _ _).trans g1
  replace r0 := (e2 _ _ _).trans r0
  replace r1 := (e2 _ _ _).trans r1
  replace r2 := (e2 _ _ _).trans r2
  replace a0 := e1
  replace a2 := (e3 _ (by decide)).trans a2
  replace a1 := (e4 _).trans a1
  replace hl := e5.trans hl
  clear e1 e2 e3 e4 e5
  refine mi_wp_p (pc' := 31) rfl rfl rfl ?_
  refine mi_wp_p (pc' := 32) rfl rfl rfl ?_
  refine mi_wp_gf rfl rfl rfl f0 ?_
  refine mi_wp_p (pc' := 36) rfl rfl rfl ?_
  refine mi_wp_p (pc' := 37) rfl rfl rfl ?_
  refine mi_wp_pfk rfl rfl rfl f0 mi_fit_int (Or.inl rfl) ?_
  intro h6 e1 e2 e3 e4 e5
  replace f0 := mi_eqi (y := 3) e1 (by decide +kernel)
  replace g1 := e2 _ _ _ _ g1 (by decide)
  replace r0 := e2 _ _ _ _ r0 (by decide)
  replace r1 := e2 _ _ _ _ r1 (by decide)
  replace r2 := e2 _ _ _ _ r2 (by decide)
  replace a0 := (e3 _).trans a0
  replace a2 := (e3 _).trans a2
  replace a1 := (e4 _).trans a1
  replace hl := e5.trans hl
  clear e1 e2 e3 e4 e5
  refine mi_wp_p (pc' := 43) rfl rfl rfl ?_
  refine mi_wp_p (pc' := 3) rfl rfl rfl ?_
  refine mi_wp_l (l' := [(2, _), (0, _), (1, _)]) rfl ?_
  refine mi_wp_p (pc' := 4) rfl rfl rfl ?_
  refine mi_wp_p (pc' := 7) rfl rfl (mi_br1 (b := false) (t := 46) (by decide +kernel) rfl) ?_
  refine mi_wp_p (pc' := 8) rfl rfl rfl ?_
  refine mi_wp_gf rfl rfl rfl f0 ?_
  refine mi_wp_p (pc' := 14) rfl rfl rfl ?_
  refine mi_wp_p (pc' := 17) rfl rfl (mi_br2 (b := false) (t := 40) (by decide +kernel) rfl) ?_
  refine mi_wp_p (pc' := 18) rfl rfl rfl ?_
  refine mi_wp_gf rfl rfl rfl g1 ?_
  refine mi_wp_p (pc' := 22) rfl rfl rfl ?_
  refine mi_wp_gf rfl rfl rfl f0 ?_
  refine mi_wp_p (pc' := 26) rfl rfl rfl ?_
  refine mi_wp_p (pc' := 27) rfl rfl rfl ?_
  refine mi_wp_p (pc' := 28) rfl rfl rfl ?_
  refine mi_wp_p (pc' := 29) rfl rfl rfl ?_
  refine mi_wp_bask rfl rfl a0 (by decide +kernel) ?_
  intro h7 e1 e2 e3 e4 e5
  replace f0 := (e2 _ _ _).trans f0
  replace g1 := (e2 _ _ _).trans g1
  replace r0 := (e2 _ _ _).trans r0
  replace r1 := (e2 _ _ _).trans r1
  replace r2 := (e2 _ _ _).trans r2
  replace a0 := e1
  replace a2 := (e3 _ (by decide)).trans a2
  replace a1 := (e4 _).trans a1
  replace hl := e5.trans hl
  clear e1 e2 e3 e4 e5
  refine mi_wp_p (pc' := 31) rfl rfl rfl ?_
  refine mi_wp_p (pc' := 32) rfl rfl rfl ?_
  refine mi_wp_gf rfl rfl rfl f0 ?_
  refine mi_wp_p (pc' := 36) rfl rfl rfl ?_
  refine mi_wp_p (pc' := 37) rfl rfl rfl ?_
  refine mi_wp_pfk rfl rfl rfl f0 mi_fit_int (Or.inl rfl) ?_
  intro h8 e1 e2 e3 e4 e5
  replace f0 := mi_eqi (y := 4) e1 (by decide +kernel)
  replace g1 := e2 _ _ _ _ g1 (by decide)
  replace r0 := e2 _ _ _ _ r0 (by decide)
  replace r1 := e2 _ _ _ _ r1 (by decide)
  replace r2 := e2 _ _ _ _ r2 (by decide)
  replace a0 := (e3 _).trans a0
  replace a2 := (e3 _).trans a2
  replace a1 := (e4 _).trans a1
  replace hl := e5.trans hl
  clear e1 e2 e3 e4 e5
  refine mi_wp_p (pc' := 43) rfl rfl rfl ?_
  refine mi_wp_p (pc' := 3) rfl rfl rfl ?_
  refine mi_wp_l (l' := [(2, _), (0, _), (1, _)]) rfl ?_
  refine mi_wp_p (pc' := 4) rfl rfl rfl ?_
  refine mi_wp_p (pc' := 46) rfl rfl (mi_br1 (b := true) (t := 46) (by decide +kernel) rfl) ?_
  exact mi_wp_r rfl rfl rfl rfl ⟨_, rfl, f0, g1, r0, r1, r2, a2, a1, hl, _, a0⟩
theorem mi_c_append4 {X : mi_X} {d : Nat} {h : mi_H} {a : Int32} {f : Nat → Int64} {g g2 : Nat → Int32} (f0 : mi_fv h 0 10 10 = some (.int 4)) (g1 : mi_fv h 0 10 0 = some (.ref 1)) (r0 : mi_fv h 55 11 0 = some (.int 0)) (r1 : mi_fv h 55 11 2 = some (.int 0)) (r2 : mi_fv h 55 11 1 = some (.ref 56)) (a0 : mi_ai h 1 = some (2, 1200, g)) (a2 : mi_ai h 56 = some (0, 1200, g2)) (a1 : mi_al h 98 = some (1, f)) (hl : h.length = 99) : mi_wp X d mi_M2 0 [(0, .ref 0), (1, .int a)] [] h 0 0 (fun z => ∃ h', z = (.inl none, h', 0, 0) ∧ mi_fv h' 0 10 10 = some (.int 8) ∧ mi_fv h' 0 10 0 = some (.ref 1) ∧ mi_fv h' 55 11 0 = some (.int 0) ∧ mi_fv h' 55 11 2 = some (.int 0) ∧ mi_fv h' 55 11 1 = some (.ref 56) ∧ mi_ai h' 56 = some (0, 1200, g2) ∧ mi_al h' 98 = some (1, f) ∧ h'.length = 99 ∧ ∃ g', mi_ai h' 1 = some (2, 1200, g')) := by
  refine mi_wp_p (pc' := 2) rfl rfl rfl ?_
  refine mi_wp_p (pc' := 3) rfl rfl rfl ?_
  refine mi_wp_l (l' := [(2, _), (0, _), (1, _)]) rfl ?_
  refine mi_wp_p (pc' := 4) rfl rfl rfl ?_
  refine mi_wp_p (pc' := 7) rfl rfl (mi_br1 (b := false) (t := 46) (by decide +kernel) rfl) ?_
  refine mi_wp_p (pc' := 8) rfl rfl rfl ?_
  refine mi_wp_gf rfl rfl rfl f0 ?_
  refine mi_wp_p (pc' := 14) rfl rfl rfl ?_
  refine mi_wp_p (pc' := 17) rfl rfl (mi_br2 (b := false) (t := 40) (by decide +kernel) rfl) ?_
  refine mi_wp_p (pc' := 18) rfl rfl rfl ?_
  refine mi_wp_gf rfl rfl rfl g1 ?_
  refine mi_wp_p (pc' := 22) rfl rfl rfl ?_
  refine mi_wp_gf rfl rfl rfl f0 ?_
  refine mi_wp_p (pc' := 26) rfl rfl rfl ?_
  refine mi_wp_p (pc' := 27) rfl rfl rfl ?_
  refine mi_wp_p (pc' := 28) rfl rfl rfl ?_
  refine mi_wp_p (pc' := 29) rfl rfl rfl ?_
  refine mi_wp_bask rfl rfl a0 (by decide +kernel) ?_
  intro h1 e1 e2 e3 e4 e5
  replace f0 := (e2 _ _ _).trans f0
  replace g1 := (e2 _ _ _).trans g1
  replace r0 := (e2 _ _ _).trans r0
  replace r1 := (e2 _ _ _).trans r1
  replace r2 := (e2 _ _ _).trans r2
  replace a0 := e1
  replace a2 := (e3 _ (by decide)).trans a2
  replace a1 := (e4 _).trans a1
  replace hl := e5.trans hl
  clear e1 e2 e3 e4 e5
  refine mi_wp_p (pc' := 31) rfl rfl rfl ?_
  refine mi_wp_p (pc' := 32) rfl rfl rfl ?_
  refine mi_wp_gf rfl rfl rfl f0 ?_
  refine mi_wp_p (pc' := 36) rfl rfl rfl ?_
  refine mi_wp_p (pc' := 37) rfl rfl rfl ?_
  refine mi_wp_pfk rfl rfl rfl f0 mi_fit_int (Or.inl rfl) ?_
  intro h2 e1 e2 e3 e4 e5
  replace f0 := mi_eqi (y := 5) e1 (by decide +kernel)
  replace g1 := e2 _ _ _ _ g1 (by decide)
  replace r0 := e2 _ _ _ _ r0 (by decide)
  replace r1 := e2 _ _ _ _ r1 (by decide)
  replace r2 := e2 _ _ _ _ r2 (by decide)
  replace a0 := (e3 _).trans a0
  replace a2 := (e3 _).trans a2
  replace a1 := (e4 _).trans a1
  replace hl := e5.trans hl
  clear e1 e2 e3 e4 e5
  refine mi_wp_p (pc' := 43) rfl rfl rfl ?_
  refine mi_wp_p (pc' := 3) rfl rfl rfl ?_
  refine mi_wp_l (l' := [(2, _), (0, _), (1, _)]) rfl ?_
  refine mi_wp_p (pc' := 4) rfl rfl rfl ?_
  refine mi_wp_p (pc' := 7) rfl rfl (mi_br1 (b := false) (t := 46) (by decide +kernel) rfl) ?_
  refine mi_wp_p (pc' := 8) rfl rfl rfl ?_
  refine mi_wp_gf rfl rfl rfl f0 ?_
  refine mi_wp_p (pc' := 14) rfl rfl rfl ?_
  refine mi_wp_p (pc' := 17) rfl rfl (mi_br2 (b := false) (t := 40) (by decide +kernel) rfl) ?_
  refine mi_wp_p (pc' := 18) rfl rfl rfl ?_
  refine mi_wp_gf rfl rfl rfl g1 ?_
  refine mi_wp_p (pc' := 22) rfl rfl rfl ?_
  refine mi_wp_gf rfl rfl rfl f0 ?_
  refine mi_wp_p (pc' := 26) rfl rfl rfl ?_
  refine mi_wp_p (pc' := 27) rfl rfl rfl ?_
  refine mi_wp_p (pc' := 28) rfl rfl rfl ?_
  refine mi_wp_p (pc' := 29) rfl rfl rfl ?_
  refine mi_wp_bask rfl rfl a0 (by decide +kernel) ?_
  intro h3 e1 e2 e3 e4 e5
  replace f0 := (e2 _ _ _).trans f0
  replace g1 := (e2 _ _ _).trans g1
  replace r0 := (e2 _ _ _).trans r0
  replace r1 := (e2 _ _ _).trans r1
  replace r2 := (e2 _ _ _).trans r2
  replace a0 := e1
  replace a2 := (e3 _ (by decide)).trans a2
  replace a1 := (e4 _).trans a1
  replace hl := e5.trans hl
  clear e1 e2 e3 e4 e5
  refine mi_wp_p (pc' := 31) rfl rfl rfl ?_
  refine mi_wp_p (pc' := 32) rfl rfl rfl ?_
  refine mi_wp_gf rfl rfl rfl f0 ?_
  refine mi_wp_p (pc' := 36) rfl rfl rfl ?_
  refine mi_wp_p (pc' := 37) rfl rfl rfl ?_
  refine mi_wp_pfk rfl rfl rfl f0 mi_fit_int (Or.inl rfl) ?_
  intro h4 e1 e2 e3 e4 e5
  replace f0 := mi_eqi (y := 6) e1 (by decide +kernel)
  replace g1 := e2 _ _ _ _ g1 (by decide)
  replace r0 := e2 _ _ _ _ r0 (by decide)
  replace r1 := e2 _ _ _ _ r1 (by decide)
  replace r2 := e2 _ _ _ _ r2 (by decide)
  replace a0 := (e3 _).trans a0
  replace a2 := (e3 _).trans a2
  replace a1 := (e4 _).trans a1
  replace hl := e5.trans hl
  clear e1 e2 e3 e4 e5
  refine mi_wp_p (pc' := 43) rfl rfl rfl ?_
  refine mi_wp_p (pc' := 3) rfl rfl rfl ?_
  refine mi_wp_l (l' := [(2, _), (0, _), (1, _)]) rfl ?_
  refine mi_wp_p (pc' := 4) rfl rfl rfl ?_
  refine mi_wp_p (pc' := 7) rfl rfl (mi_br1 (b := false) (t := 46) (by decide +kernel) rfl) ?_
  refine mi_wp_p (pc' := 8) rfl rfl rfl ?_
  refine mi_wp_gf rfl rfl rfl f0 ?_
  refine mi_wp_p (pc' := 14) rfl rfl rfl ?_
  refine mi_wp_p (pc' := 17) rfl rfl (mi_br2 (b := false) (t := 40) (by decide +kernel) rfl) ?_
  refine mi_wp_p (pc' := 18) rfl rfl rfl ?_
  refine mi_wp_gf rfl rfl rfl g1 ?_
  refine mi_wp_p (pc' := 22) rfl rfl rfl ?_
  refine mi_wp_gf rfl rfl rfl f0 ?_
  refine mi_wp_p (pc' := 26) rfl rfl rfl ?_
  refine mi_wp_p (pc' := 27) rfl rfl rfl ?_
  refine mi_wp_p (pc' := 28) rfl rfl rfl ?_
  refine mi_wp_p (pc' := 29) rfl rfl rfl ?_
  refine mi_wp_bask rfl rfl a0 (by decide +kernel) ?_
  intro h5 e1 e2 e3 e4 e5
  replace f0 := (e2 _ _ _).trans f0
  replace g1 := (e2 _ _ _).trans g1
  replace r0 := (e2 _ _ _).trans r0
  replace r1 := (e2 _ _ _).trans r1
  replace r2 := (e2 _ _ _).trans r2
  replace a0 := e1
  replace a2 := (e3 _ (by decide)).trans a2
  replace a1 := (e4 _).trans a1
  replace hl := e5.trans hl
  clear e1 e2 e3 e4 e5
  refine mi_wp_p (pc' := 31) rfl rfl rfl ?_
  refine mi_wp_p (pc' := 32) rfl rfl rfl ?_
  refine mi_wp_gf rfl rfl rfl f0 ?_
  refine mi_wp_p (pc' := 36) rfl rfl rfl ?_
  refine mi_wp_p (pc' := 37) rfl rfl rfl ?_
  refine mi_wp_pfk rfl rfl rfl f0 mi_fit_int (Or.inl rfl) ?_
  intro h6 e1 e2 e3 e4 e5
  replace f0 := mi_eqi (y := 7) e1 (by decide +kernel)
  replace g1 := e2 _ _ _ _ g1 (by decide)
  replace r0 := e2 _ _ _ _ r0 (by decide)
  replace r1 := e2 _ _ _ _ r1 (by decide)
  replace r2 := e2 _ _ _ _ r2 (by decide)
  replace a0 := (e3 _).trans a0
  replace a2 := (e3 _).trans a2
  replace a1 := (e4 _).trans a1
  replace hl := e5.trans hl
  clear e1 e2 e3 e4 e5
  refine mi_wp_p (pc' := 43) rfl rfl rfl ?_
  refine mi_wp_p (pc' := 3) rfl rfl rfl ?_
  refine mi_wp_l (l' := [(2, _), (0, _), (1, _)]) rfl ?_
  refine mi_wp_p (pc' := 4) rfl rfl rfl ?_
  refine mi_wp_p (pc' := 7) rfl rfl (mi_br1 (b := false) (t := 46) (by decide +kernel) rfl) ?_
  refine mi_wp_p (pc' := 8) rfl rfl rfl ?_
  refine mi_wp_gf rfl rfl rfl f0 ?_
  refine mi_wp_p (pc' := 14) rfl rfl rfl ?_
  refine mi_wp_p (pc' := 17) rfl rfl (mi_br2 (b := false) (t := 40) (by decide +kernel) rfl) ?_
  refine mi_wp_p (pc' := 18) rfl rfl rfl ?_
  refine mi_wp_gf rfl rfl rfl g1 ?_
  refine mi_wp_p (pc' := 22) rfl rfl rfl ?_
  refine mi_wp_gf rfl rfl rfl f0 ?_
  refine mi_wp_p (pc' := 26) rfl rfl rfl ?_
  refine mi_wp_p (pc' := 27) rfl rfl rfl ?_
  refine mi_wp_p (pc' := 28) rfl rfl rfl ?_
  refine mi_wp_p (pc' := 29) rfl rfl rfl ?_
  refine mi_wp_bask rfl rfl a0 (by decide +kernel) ?_
  intro h7 e1 e2 e3 e4 e5
  replace f0 := (e2 _ _ _).trans f0
  replace g1 := (e2 _ _ _).trans g1
  replace r0 := (e2 _ _ _).trans r0
  replace r1 := (e2 _ _ _).trans r1
  replace r2 := (e2 _ _ _).trans r2
  replace a0 := e1
  replace a2 := (e3 _ (by decide)).trans a2
  replace a1 := (e4 _).trans a1
  replace hl := e5.trans hl
  clear e1 e2 e3 e4 e5
  refine mi_wp_p (pc' := 31) rfl rfl rfl ?_
  refine mi_wp_p (pc' := 32) rfl rfl rfl ?_
  refine mi_wp_gf rfl rfl rfl f0 ?_
  refine mi_wp_p (pc' := 36) rfl rfl rfl ?_
  refine mi_wp_p (pc' := 37) rfl rfl rfl ?_
  refine mi_wp_pfk rfl rfl rfl f0 mi_fit_int (Or.inl rfl) ?_
  intro h8 e1 e2 e3 e4 e5
  replace f0 := mi_eqi (y := 8) e1 (by decide +kernel)
  replace g1 := e2 _ _ _ _ g1 (by decide)
  replace r0 := e2 _ _ _ _ r0 (by decide)
  replace r1 := e2 _ _ _ _ r1 (by decide)
  replace r2 := e2 _ _ _ _ r2 (by decide)
  replace a0 := (e3 _).trans a0
  replace a2 := (e3 _).trans a2
  replace a1 := (e4 _).trans a1
  replace hl := e5.trans hl
  clear e1 e2 e3 e4 e5
  refine mi_wp_p (pc' := 43) rfl rfl rfl ?_
  refine mi_wp_p (pc' := 3) rfl rfl rfl ?_
  refine mi_wp_l (l' := [(2, _), (0, _), (1, _)]) rfl ?_
  refine mi_wp_p (pc' := 4) rfl rfl rfl ?_
  refine mi_wp_p (pc' := 46) rfl rfl (mi_br1 (b := true) (t := 46) (by decide +kernel) rfl) ?_
  exact mi_wp_r rfl rfl rfl rfl ⟨_, rfl, f0, g1, r0, r1, r2, a2, a1, hl, _, a0⟩
theorem mi_c_append8 {X : mi_X} {d : Nat} {h : mi_H} {a : Int32} {f : Nat → Int64} {g g2 : Nat → Int32} (f0 : mi_fv h 0 10 10 = some (.int 8)) (g1 : mi_fv h 0 10 0 = some (.ref 1)) (r0 : mi_fv h 55 11 0 = some (.int 0)) (r1 : mi_fv h 55 11 2 = some (.int 0)) (r2 : mi_fv h 55 11 1 = some (.ref 56)) (a0 : mi_ai h 1 = some (2, 1200, g)) (a2 : mi_ai h 56 = some (0, 1200, g2)) (a1 : mi_al h 98 = some (1, f)) (hl : h.length = 99) : mi_wp X d mi_M2 0 [(0, .ref 0), (1, .int a)] [] h 0 0 (fun z => ∃ h', z = (.inl none, h', 0, 0) ∧ mi_fv h' 0 10 10 = some (.int 12) ∧ mi_fv h' 0 10 0 = some (.ref 1) ∧ mi_fv h' 55 11 0 = some (.int 0) ∧ mi_fv h' 55 11 2 = some (.int 0) ∧ mi_fv h' 55 11 1 = some (.ref 56) ∧ mi_ai h' 56 = some (0, 1200, g2) ∧ mi_al h' 98 = some (1, f) ∧ h'.length = 99 ∧ ∃ g', mi_ai h' 1 = some (2, 1200, g')) := by
  refine mi_wp_p (pc' := 2) rfl rfl rfl ?_
  refine mi_wp_p (pc' := 3) rfl rfl rfl ?_
  refine mi_wp_l (l' := [(2, _), (0, _), (1, _)]) rfl ?_
  refine mi_wp_p (pc' := 4) rfl rfl rfl ?_
  refine mi_wp_p (pc' := 7) rfl rfl (mi_br1 (b := false) (t := 46) (by decide +kernel) rfl) ?_
  refine mi_wp_p (pc' := 8) rfl rfl rfl ?_
  refine mi_wp_gf rfl rfl rfl f0 ?_
  refine mi_wp_p (pc' := 14) rfl rfl rfl ?_
  refine mi_wp_p (pc' := 17) rfl rfl (mi_br2 (b := false) (t := 40) (by decide +kernel) rfl) ?_
  refine mi_wp_p (pc' := 18) rfl rfl rfl ?_
  refine mi_wp_gf rfl rfl rfl g1 ?_
  refine mi_wp_p (pc' := 22) rfl rfl rfl ?_
  refine mi_wp_gf rfl rfl rfl f0 ?_
  refine mi_wp_p (pc' := 26) rfl rfl rfl ?_
  refine mi_wp_p (pc' := 27) rfl rfl rfl ?_
  refine mi_wp_p (pc' := 28) rfl rfl rfl ?_
  refine mi_wp_p (pc' := 29) rfl rfl rfl ?_
  refine mi_wp_bask rfl rfl a0 (by decide +kernel) ?_
  intro h1 e1 e2 e3 e4 e5
  replace f0 := (e2 _ _ _).trans f0
  replace g1 := (e2 _ _ _).trans g1
  replace r0 := (e2 _ _ _).trans r0
  replace r1 := (e2 _ _ _).trans r1
  replace r2 := (e2 _ _ _).trans r2
  replace a0 := e1
  replace a2 := (e3 _ (by decide)).trans a2
  replace a1 := (e4 _).trans a1
  replace hl := e5.trans hl
  clear e1 e2 e3 e4 e5
  refine mi_wp_p (pc' := 31) rfl rfl rfl ?_
  refine mi_wp_p (pc' := 32) rfl rfl rfl ?_
  refine mi_wp_gf rfl rfl rfl f0 ?_
  refine mi_wp_p (pc' := 36) rfl rfl rfl ?_
  refine mi_wp_p (pc' := 37) rfl rfl rfl ?_
  refine mi_wp_pfk rfl rfl rfl f0 mi_fit_int (Or.inl rfl) ?_
  intro h2 e1 e2 e3 e4 e5
  replace f0 := mi_eqi (y := 9) e1 (by decide +kernel)
  replace g1 := e2 _ _ _ _ g1 (by decide)
  replace r0 := e2 _ _ _ _ r0 (by decide)
  replace r1 := e2 _ _ _ _ r1 (by decide)
  replace r2 := e2 _ _ _ _ r2 (by decide)
  replace a0 := (e3 _).trans a0
  replace a2 := (e3 _).trans a2
  replace a1 := (e4 _).trans a1
  replace hl := e5.trans hl
  clear e1 e2 e3 e4 e5
  refine mi_wp_p (pc' := 43) rfl rfl rfl ?_
  refine mi_wp_p (pc' := 3) rfl rfl rfl ?_
  refine mi_wp_l (l' := [(2, _), (0, _), (1, _)]) rfl ?_
  refine mi_wp_p (pc' := 4) rfl rfl rfl ?_
  refine mi_wp_p (pc' := 7) rfl rfl (mi_br1 (b := false) (t := 46) (by decide +kernel) rfl) ?_
  refine mi_wp_p (pc' := 8) rfl rfl rfl ?_
  refine mi_wp_gf rfl rfl rfl f0 ?_
  refine mi_wp_p (pc' := 14) rfl rfl rfl ?_
  refine mi_wp_p (pc' := 17) rfl rfl (mi_br2 (b := false) (t := 40) (by decide +kernel) rfl) ?_
  refine mi_wp_p (pc' := 18) rfl rfl rfl ?_
  refine mi_wp_gf rfl rfl rfl g1 ?_
  refine mi_wp_p (pc' := 22) rfl rfl rfl ?_
  refine mi_wp_gf rfl rfl rfl f0 ?_
  refine mi_wp_p (pc' := 26) rfl rfl rfl ?_
  refine mi_wp_p (pc' := 27) rfl rfl rfl ?_
  refine mi_wp_p (pc' := 28) rfl rfl rfl ?_
  refine mi_wp_p (pc' := 29) rfl rfl rfl ?_
  refine mi_wp_bask rfl rfl a0 (by decide +kernel) ?_
  intro h3 e1 e2 e3 e4 e5
  replace f0 := (e2 _ _ _).trans f0
  replace g1 := (e2 _ _ _).trans g1
  replace r0 := (e2 _ _ _).trans r0
  replace r1 := (e2 _ _ _).trans r1
  replace r2 := (e2 _ _ _).trans r2
  replace a0 := e1
  replace a2 := (e3 _ (by decide)).trans a2
  replace a1 := (e4 _).trans a1
  replace hl := e5.trans hl
  clear e1 e2 e3 e4 e5
  refine mi_wp_p (pc' := 31) rfl rfl rfl ?_
  refine mi_wp_p (pc' := 32) rfl rfl rfl ?_
  refine mi_wp_gf rfl rfl rfl f0 ?_
  refine mi_wp_p (pc' := 36) rfl rfl rfl ?_
  refine mi_wp_p (pc' := 37) rfl rfl rfl ?_
  refine mi_wp_pfk rfl rfl rfl f0 mi_fit_int (Or.inl rfl) ?_
  intro h4 e1 e2 e3 e4 e5
  replace f0 := mi_eqi (y := 10) e1 (by decide +kernel)
  replace g1 := e2 _ _ _ _ g1 (by decide)
  replace r0 := e2 _ _ _ _ r0 (by decide)
  replace r1 := e2 _ _ _ _ r1 (by decide)
  replace r2 := e2 _ _ _ _ r2 (by decide)
  replace a0 := (e3 _).trans a0
  replace a2 := (e3 _).trans a2
  replace a1 := (e4 _).trans a1
  replace hl := e5.trans hl
  clear e1 e2 e3 e4 e5
  refine mi_wp_p (pc' := 43) rfl rfl rfl ?_
  refine mi_wp_p (pc' := 3) rfl rfl rfl ?_
  refine mi_wp_l (l' := [(2, _), (0, _), (1, _)]) rfl ?_
  refine mi_wp_p (pc' := 4) rfl rfl rfl ?_
  refine mi_wp_p (pc' := 7) rfl rfl (mi_br1 (b := false) (t := 46) (by decide +kernel) rfl) ?_
  refine mi_wp_p (pc' := 8) rfl rfl rfl ?_
  refine mi_wp_gf rfl rfl rfl f0 ?_
  refine mi_wp_p (pc' := 14) rfl rfl rfl ?_
  refine mi_wp_p (pc' := 17) rfl rfl (mi_br2 (b := false) (t := 40) (by decide +kernel) rfl) ?_
  refine mi_wp_p (pc' := 18) rfl rfl rfl ?_
  refine mi_wp_gf rfl rfl rfl g1 ?_
  refine mi_wp_p (pc' := 22) rfl rfl rfl ?_
  refine mi_wp_gf rfl rfl rfl f0 ?_
  refine mi_wp_p (pc' := 26) rfl rfl rfl ?_
  refine mi_wp_p (pc' := 27) rfl rfl rfl ?_
  refine mi_wp_p (pc' := 28) rfl rfl rfl ?_
  refine mi_wp_p (pc' := 29) rfl rfl rfl ?_
  refine mi_wp_bask rfl rfl a0 (by decide +kernel) ?_
  intro h5 e1 e2 e3 e4 e5
  replace f0 := (e2 _ _ _).trans f0
  replace g1 := (e2 _ _ _).trans g1
  replace r0 := (e2 _ _ _).trans r0
  replace r1 := (e2 _ _ _).trans r1
  replace r2 := (e2 _ _ _).trans r2
  replace a0 := e1
  replace a2 := (e3 _ (by decide)).trans a2
  replace a1 := (e4 _).trans a1
  replace hl := e5.trans hl
  clear e1 e2 e3 e4 e5
  refine mi_wp_p (pc' := 31) rfl rfl rfl ?_
  refine mi_wp_p (pc' := 32) rfl rfl rfl ?_
  refine mi_wp_gf rfl rfl rfl f0 ?_
  refine mi_wp_p (pc' := 36) rfl rfl rfl ?_
  refine mi_wp_p (pc' := 37) rfl rfl rfl ?_
  refine mi_wp_pfk rfl rfl rfl f0 mi_fit_int (Or.inl rfl) ?_
  intro h6 e1 e2 e3 e4 e5
  replace f0 := mi_eqi (y := 11) e1 (by decide +kernel)
  replace g1 := e2 _ _ _ _ g1 (by decide)
  replace r0 := e2 _ _ _ _ r0 (by decide)
  replace r1 := e2 _ _ _ _ r1 (by decide)
  replace r2 := e2 _ _ _ _ r2 (by decide)
  replace a0 := (e3 _).trans a0
  replace a2 := (e3 _).trans a2
  replace a1 := (e4 _).trans a1
  replace hl := e5.trans hl
  clear e1 e2 e3 e4 e5
  refine mi_wp_p (pc' := 43) rfl rfl rfl ?_
  refine mi_wp_p (pc' := 3) rfl rfl rfl ?_
  refine mi_wp_l (l' := [(2, _), (0, _), (1, _)]) rfl ?_
  refine mi_wp_p (pc' := 4) rfl rfl rfl ?_
  refine mi_wp_p (pc' := 7) rfl rfl (mi_br1 (b := false) (t := 46) (by decide +kernel) rfl) ?_
  refine mi_wp_p (pc' := 8) rfl rfl rfl ?_
  refine mi_wp_gf rfl rfl rfl f0 ?_
  refine mi_wp_p (pc' := 14) rfl rfl rfl ?_
  refine mi_wp_p (pc' := 17) rfl rfl (mi_br2 (b := false) (t := 40) (by decide +kernel) rfl) ?_
  refine mi_wp_p (pc' := 18) rfl rfl rfl ?_
  refine mi_wp_gf rfl rfl rfl g1 ?_
  refine mi_wp_p (pc' := 22) rfl rfl rfl ?_
  refine mi_wp_gf rfl rfl rfl f0 ?_
  refine mi_wp_p (pc' := 26) rfl rfl rfl ?_
  refine mi_wp_p (pc' := 27) rfl rfl rfl ?_
  refine mi_wp_p (pc' := 28) rfl rfl rfl ?_
  refine mi_wp_p (pc' := 29) rfl rfl rfl ?_
  refine mi_wp_bask rfl rfl a0 (by decide +kernel) ?_
  intro h7 e1 e2 e3 e4 e5
  replace f0 := (e2 _ _ _).trans f0
  replace g1 := (e2 _ _ _).trans g1
  replace r0 := (e2 _ _ _).trans r0
  replace r1 := (e2 _ _ _).trans r1
  replace r2 := (e2 _ _ _).trans r2
  replace a0 := e1
  replace a2 := (e3 _ (by decide)).trans a2
  replace a1 := (e4 _).trans a1
  replace hl := e5.trans hl
  clear e1 e2 e3 e4 e5
  refine mi_wp_p (pc' := 31) rfl rfl rfl ?_
  refine mi_wp_p (pc' := 32) rfl rfl rfl ?_
  refine mi_wp_gf rfl rfl rfl f0 ?_
  refine mi_wp_p (pc' := 36) rfl rfl rfl ?_
  refine mi_wp_p (pc' := 37) rfl rfl rfl ?_
  refine mi_wp_pfk rfl rfl rfl f0 mi_fit_int (Or.inl rfl) ?_
  intro h8 e1 e2 e3 e4 e5
  replace f0 := mi_eqi (y := 12) e1 (by decide +kernel)
  replace g1 := e2 _ _ _ _ g1 (by decide)
  replace r0 := e2 _ _ _ _ r0 (by decide)
  replace r1 := e2 _ _ _ _ r1 (by decide)
  replace r2 := e2 _ _ _ _ r2 (by decide)
  replace a0 := (e3 _).trans a0
  replace a2 := (e3 _).trans a2
  replace a1 := (e4 _).trans a1
  replace hl := e5.trans hl
  clear e1 e2 e3 e4 e5
  refine mi_wp_p (pc' := 43) rfl rfl rfl ?_
  refine mi_wp_p (pc' := 3) rfl rfl rfl ?_
  refine mi_wp_l (l' := [(2, _), (0, _), (1, _)]) rfl ?_
  refine mi_wp_p (pc' := 4) rfl rfl rfl ?_
  refine mi_wp_p (pc' := 46) rfl rfl (mi_br1 (b := true) (t := 46) (by decide +kernel) rfl) ?_
  exact mi_wp_r rfl rfl rfl rfl ⟨_, rfl, f0, g1, r0, r1, r2, a2, a1, hl, _, a0⟩
theorem mi_c_append12 {X : mi_X} {d : Nat} {h : mi_H} {a : Int32} {f : Nat → Int64} {g g2 : Nat → Int32} (f0 : mi_fv h 0 10 10 = some (.int 12)) (g1 : mi_fv h 0 10 0 = some (.ref 1)) (r0 : mi_fv h 55 11 0 = some (.int 0)) (r1 : mi_fv h 55 11 2 = some (.int 0)) (r2 : mi_fv h 55 11 1 = some (.ref 56)) (a0 : mi_ai h 1 = some (2, 1200, g)) (a2 : mi_ai h 56 = some (0, 1200, g2)) (a1 : mi_al h 98 = some (1, f)) (hl : h.length = 99) : mi_wp X d mi_M2 0 [(0, .ref 0), (1, .int a)] [] h 0 0 (fun z => ∃ h', z = (.inl none, h', 0, 0) ∧ mi_fv h' 0 10 10 = some (.int 16) ∧ mi_fv h' 0 10 0 = some (.ref 1) ∧ mi_fv h' 55 11 0 = some (.int 0) ∧ mi_fv h' 55 11 2 = some (.int 0) ∧ mi_fv h' 55 11 1 = some (.ref 56) ∧ mi_ai h' 56 = some (0, 1200, g2) ∧ mi_al h' 98 = some (1, f) ∧ h'.length = 99 ∧ ∃ g', mi_ai h' 1 = some (2, 1200, g')) := by
  refine mi_wp_p (pc' := 2) rfl rfl rfl ?_
  refine mi_wp_p (pc' := 3) rfl rfl rfl ?_
  refine mi_wp_l (l' := [(2, _), (0, _), (1, _)]) rfl ?_
  refine mi_wp_p (pc' := 4) rfl rfl rfl ?_
  refine mi_wp_p (pc' := 7) rfl rfl (mi_br1 (b := false) (t := 46) (by decide +kernel) rfl) ?_
  refine mi_wp_p (pc' := 8) rfl rfl rfl ?_
  refine mi_wp_gf rfl rfl rfl f0 ?_
  refine mi_wp_p (pc' := 14) rfl rfl rfl ?_
  refine mi_wp_p (pc' := 17) rfl rfl (mi_br2 (b := false) (t := 40) (by decide +kernel) rfl) ?_
  refine mi_wp_p (pc' := 18) rfl rfl rfl ?_
  refine mi_wp_gf rfl rfl rfl g1 ?_
  refine mi_wp_p (pc' := 22) rfl rfl rfl ?_
  refine mi_wp_gf rfl rfl rfl f0 ?_
  refine mi_wp_p (pc' := 26) rfl rfl rfl ?_
  refine mi_wp_p (pc' := 27) rfl rfl rfl ?_
  refine mi_wp_p (pc' := 28) rfl rfl rfl ?_
  refine mi_wp_p (pc' := 29) rfl rfl rfl ?_
  refine mi_wp_bask rfl rfl a0 (by decide +kernel) ?_
  intro h1 e1 e2 e3 e4 e5
  replace f0 := (e2 _ _ _).trans f0
  replace g1 := (e2 _ _ _).trans g1
  replace r0 := (e2 _ _ _).trans r0
  replace r1 := (e2 _ _ _).trans r1
  replace r2 := (e2 _ _ _).trans r2
  replace a0 := e1
  replace a2 := (e3 _ (by decide)).trans a2
  replace a1 := (e4 _).trans a1
  replace hl := e5.trans hl
  clear e1 e2 e3 e4 e5
  refine mi_wp_p (pc' := 31) rfl rfl rfl ?_
  refine mi_wp_p (pc' := 32) rfl rfl rfl ?_
  refine mi_wp_gf rfl rfl rfl f0 ?_
  refine mi_wp_p (pc' := 36) rfl rfl rfl ?_
  refine mi_wp_p (pc' := 37) rfl rfl rfl ?_
  refine mi_wp_pfk rfl rfl rfl f0 mi_fit_int (Or.inl rfl) ?_
  intro h2 e1 e2 e3 e4 e5
  replace f0 := mi_eqi (y := 13) e1 (by decide +kernel)
  replace g1 := e2 _ _ _ _ g1 (by decide)
  replace r0 := e2 _ _ _ _ r0 (by decide)
  replace r1 := e2 _ _ _ _ r1 (by decide)
  replace r2 := e2 _ _ _ _ r2 (by decide)
  replace a0 := (e3 _).trans a0
  replace a2 := (e3 _).trans a2
  replace a1 := (e4 _).trans a1
  replace hl := e5.trans hl
  clear e1 e2 e3 e4 e5
  refine mi_wp_p (pc' := 43) rfl rfl rfl ?_
  refine mi_wp_p (pc' := 3) rfl rfl rfl ?_
  refine mi_wp_l (l' := [(2, _), (0, _), (1, _)]) rfl ?_
  refine mi_wp_p (pc' := 4) rfl rfl rfl ?_
  refine mi_wp_p (pc' := 7) rfl rfl (mi_br1 (b := false) (t := 46) (by decide +kernel) rfl) ?_
  refine mi_wp_p (pc' := 8) rfl rfl rfl ?_
  refine mi_wp_gf rfl rfl rfl f0 ?_
  refine mi_wp_p (pc' := 14) rfl rfl rfl ?_
  refine mi_wp_p (pc' := 17) rfl rfl (mi_br2 (b := false) (t := 40) (by decide +kernel) rfl) ?_
  refine mi_wp_p (pc' := 18) rfl rfl rfl ?_
  refine mi_wp_gf rfl rfl rfl g1 ?_
  refine mi_wp_p (pc' := 22) rfl rfl rfl ?_
  refine mi_wp_gf rfl rfl rfl f0 ?_
  refine mi_wp_p (pc' := 26) rfl rfl rfl ?_
  refine mi_wp_p (pc' := 27) rfl rfl rfl ?_
  refine mi_wp_p (pc' := 28) rfl rfl rfl ?_
  refine mi_wp_p (pc' := 29) rfl rfl rfl ?_
  refine mi_wp_bask rfl rfl a0 (by decide +kernel) ?_
  intro h3 e1 e2 e3 e4 e5
  replace f0 := (e2 _ _ _).trans f0
  replace g1 := (e2 _ _ _).trans g1
  replace r0 := (e2 _ _ _).trans r0
  replace r1 := (e2 _ _ _).trans r1
  replace r2 := (e2 _ _ _).trans r2
  replace a0 := e1
  replace a2 := (e3 _ (by decide)).trans a2
  replace a1 := (e4 _).trans a1
  replace hl := e5.trans hl
  clear e1 e2 e3 e4 e5
  refine mi_wp_p (pc' := 31) rfl rfl rfl ?_
  refine mi_wp_p (pc' := 32) rfl rfl rfl ?_
  refine mi_wp_gf rfl rfl rfl f0 ?_
  refine mi_wp_p (pc' := 36) rfl rfl rfl ?_
  refine mi_wp_p (pc' := 37) rfl rfl rfl ?_
  refine mi_wp_pfk rfl rfl rfl f0 mi_fit_int (Or.inl rfl) ?_
  intro h4 e1 e2 e3 e4 e5
  replace f0 := mi_eqi (y := 14) e1 (by decide +kernel)
  replace g1 := e2 _ _ _ _ g1 (by decide)
  replace r0 := e2 _ _ _ _ r0 (by decide)
  replace r1 := e2 _ _ _ _ r1 (by decide)
  replace r2 := e2 _ _ _ _ r2 (by decide)
  replace a0 := (e3 _).trans a0
  replace a2 := (e3 _).trans a2
  replace a1 := (e4 _).trans a1
  replace hl := e5.trans hl
  clear e1 e2 e3 e4 e5
  refine mi_wp_p (pc' := 43) rfl rfl rfl ?_
  refine mi_wp_p (pc' := 3) rfl rfl rfl ?_
  refine mi_wp_l (l' := [(2, _), (0, _), (1, _)]) rfl ?_
  refine mi_wp_p (pc' := 4) rfl rfl rfl ?_
  refine mi_wp_p (pc' := 7) rfl rfl (mi_br1 (b := false) (t := 46) (by decide +kernel) rfl) ?_
  refine mi_wp_p (pc' := 8) rfl rfl rfl ?_
  refine mi_wp_gf rfl rfl rfl f0 ?_
  refine mi_wp_p (pc' := 14) rfl rfl rfl ?_
  refine mi_wp_p (pc' := 17) rfl rfl (mi_br2 (b := false) (t := 40) (by decide +kernel) rfl) ?_
  refine mi_wp_p (pc' := 18) rfl rfl rfl ?_
  refine mi_wp_gf rfl rfl rfl g1 ?_
  refine mi_wp_p (pc' := 22) rfl rfl rfl ?_
  refine mi_wp_gf rfl rfl rfl f0 ?_
  refine mi_wp_p (pc' := 26) rfl rfl rfl ?_
  refine mi_wp_p (pc' := 27) rfl rfl rfl ?_
  refine mi_wp_p (pc' := 28) rfl rfl rfl ?_
  refine mi_wp_p (pc' := 29) rfl rfl rfl ?_
  refine mi_wp_bask rfl rfl a0 (by decide +kernel) ?_
  intro h5 e1 e2 e3 e4 e5
  replace f0 := (e2 _ _ _).trans f0
  replace g1 := (e2 _ _ _).trans g1
  replace r0 := (e2 _ _ _).trans r0
  replace r1 := (e2 _ _ _).trans r1
  replace r2 := (e2 _ _ _).trans r2
  replace a0 := e1
  replace a2 := (e3 _ (by decide)).trans a2
  replace a1 := (e4 _).trans a1
  replace hl := e5.trans hl
  clear e1 e2 e3 e4 e5
  refine mi_wp_p (pc' := 31) rfl rfl rfl ?_
  refine mi_wp_p (pc' := 32) rfl rfl rfl ?_
  refine mi_wp_gf rfl rfl rfl f0 ?_
  refine mi_wp_p (pc' := 36) rfl rfl rfl ?_
  refine mi_wp_p (pc' := 37) rfl rfl rfl ?_
  refine mi_wp_pfk rfl rfl rfl f0 mi_fit_int (Or.inl rfl) ?_
  intro h6 e1 e2 e3 e4 e5
  replace f0 := mi_eqi (y := 15) e1 (by decide +kernel)
  replace g1 := e2 _ _ _ _ g1 (by decide)
  replace r0 := e2 _ _ _ _ r0 (by decide)
  replace r1 := e2 _ _ _ _ r1 (by decide)
  replace r2 := e2 _ _ _ _ r2 (by decide)
  replace a0 := (e3 _).trans a0
  replace a2 := (e3 _).trans a2
  replace a1 := (e4 _).trans a1
  replace hl := e5.trans hl
  clear e1 e2 e3 e4 e5
  refine mi_wp_p (pc' := 43) rfl rfl rfl ?_
  refine mi_wp_p (pc' := 3) rfl rfl rfl ?_
  refine mi_wp_l (l' := [(2, _), (0, _), (1, _)]) rfl ?_
  refine mi_wp_p (pc' := 4) rfl rfl rfl ?_
  refine mi_wp_p (pc' := 7) rfl rfl (mi_br1 (b := false) (t := 46) (by decide +kernel) rfl) ?_
  refine mi_wp_p (pc' := 8) rfl rfl rfl ?_
  refine mi_wp_gf rfl rfl rfl f0 ?_
  refine mi_wp_p (pc' := 14) rfl rfl rfl ?_
  refine mi_wp_p (pc' := 17) rfl rfl (mi_br2 (b := false) (t := 40) (by decide +kernel) rfl) ?_
  refine mi_wp_p (pc' := 18) rfl rfl rfl ?_
  refine mi_wp_gf rfl rfl rfl g1 ?_
  refine mi_wp_p (pc' := 22) rfl rfl rfl ?_
  refine mi_wp_gf rfl rfl rfl f0 ?_
  refine mi_wp_p (pc' := 26) rfl rfl rfl ?_
  refine mi_wp_p (pc' := 27) rfl rfl rfl ?_
  refine mi_wp_p (pc' := 28) rfl rfl rfl ?_
  refine mi_wp_p (pc' := 29) rfl rfl rfl ?_
  refine mi_wp_bask rfl rfl a0 (by decide +kernel) ?_
  intro h7 e1 e2 e3 e4 e5
  replace f0 := (e2 _ _ _).trans f0
  replace g1 := (e2 _ _ _).trans g1
  replace r0 := (e2 _ _ _).trans r0
  replace r1 := (e2 _ _ _).trans r1
  replace r2 := (e2 _ _ _).trans r2
  replace a0 := e1
  replace a2 := (e3 _ (by decide)).trans a2
  replace a1 := (e4 _).trans a1
  replace hl := e5.trans hl
  clear e1 e2 e3 e4 e5
  refine mi_wp_p (pc' := 31) rfl rfl rfl ?_
  refine mi_wp_p (pc' := 32) rfl rfl rfl ?_
  refine mi_wp_gf rfl rfl rfl f0 ?_
  refine mi_wp_p (pc' := 36) rfl rfl rfl ?_
  refine mi_wp_p (pc' := 37) rfl rfl rfl ?_
  refine mi_wp_pfk rfl rfl rfl f0 mi_fit_int (Or.inl rfl) ?_
  intro h8 e1 e2 e3 e4 e5
  replace f0 := mi_eqi (y := 16) e1 (by decide +kernel)
  replace g1 := e2 _ _ _ _ g1 (by decide)
  replace r0 := e2 _ _ _ _ r0 (by decide)
  replace r1 := e2 _ _ _ _ r1 (by decide)
  replace r2 := e2 _ _ _ _ r2 (by decide)
  replace a0 := (e3 _).trans a0
  replace a2 := (e3 _).trans a2
  replace a1 := (e4 _).trans a1
  replace hl := e5.trans hl
  clear e1 e2 e3 e4 e5
  refine mi_wp_p (pc' := 43) rfl rfl rfl ?_
  refine mi_wp_p (pc' := 3) rfl rfl rfl ?_
  refine mi_wp_l (l' := [(2, _), (0, _), (1, _)]) rfl ?_
  refine mi_wp_p (pc' := 4) rfl rfl rfl ?_
  refine mi_wp_p (pc' := 46) rfl rfl (mi_br1 (b := true) (t := 46) (by decide +kernel) rfl) ?_
  exact mi_wp_r rfl rfl rfl rfl ⟨_, rfl, f0, g1, r0, r1, r2, a2, a1, hl, _, a0⟩
theorem mi_c_append16 {X : mi_X} {d : Nat} {h : mi_H} {a : Int32} {f : Nat → Int64} {g g2 : Nat → Int32} (f0 : mi_fv h 0 10 10 = some (.int 16)) (g1 : mi_fv h 0 10 0 = some (.ref 1)) (r0 : mi_fv h 55 11 0 = some (.int 0)) (r1 : mi_fv h 55 11 2 = some (.int 0)) (r2 : mi_fv h 55 11 1 = some (.ref 56)) (a0 : mi_ai h 1 = some (2, 1200, g)) (a2 : mi_ai h 56 = some (0, 1200, g2)) (a1 : mi_al h 98 = some (1, f)) (hl : h.length = 99) : mi_wp X d mi_M2 0 [(0, .ref 0), (1, .int a)] [] h 0 0 (fun z => ∃ h', z = (.inl none, h', 0, 0) ∧ mi_fv h' 0 10 10 = some (.int 20) ∧ mi_fv h' 0 10 0 = some (.ref 1) ∧ mi_fv h' 55 11 0 = some (.int 0) ∧ mi_fv h' 55 11 2 = some (.int 0) ∧ mi_fv h' 55 11 1 = some (.ref 56) ∧ mi_ai h' 56 = some (0, 1200, g2) ∧ mi_al h' 98 = some (1, f) ∧ h'.length = 99 ∧ ∃ g', mi_ai h' 1 = some (2, 1200, g')) := by
  refine mi_wp_p (pc' := 2) rfl rfl rfl ?_
  refine mi_wp_p (pc' := 3) rfl rfl rfl ?_
  refine mi_wp_l (l' := [(2, _), (0, _), (1, _)]) rfl ?_
  refine mi_wp_p (pc' := 4) rfl rfl rfl ?_
  refine mi_wp_p (pc' := 7) rfl rfl (mi_br1 (b := false) (t := 46) (by decide +kernel) rfl) ?_
  refine mi_wp_p (pc' := 8) rfl rfl rfl ?_
  refine mi_wp_gf rfl rfl rfl f0 ?_
  refine mi_wp_p (pc' := 14) rfl rfl rfl ?_
  refine mi_wp_p (pc' := 17) rfl rfl (mi_br2 (b := false) (t := 40) (by decide +kernel) rfl) ?_
  refine mi_wp_p (pc' := 18) rfl rfl rfl ?_
  refine mi_wp_gf rfl rfl rfl g1 ?_
  refine mi_wp_p (pc' := 22) rfl rfl rfl ?_
  refine mi_wp_gf rfl rfl rfl f0 ?_
  refine mi_wp_p (pc' := 26) rfl rfl rfl ?_
  refine mi_wp_p (pc' := 27) rfl rfl rfl ?_
  refine mi_wp_p (pc' := 28) rfl rfl rfl ?_
  refine mi_wp_p (pc' := 29) rfl rfl rfl ?_
  refine mi_wp_bask rfl rfl a0 (by decide +kernel) ?_
  intro h1 e1 e2 e3 e4 e5
  replace f0 := (e2 _ _ _).trans f0
  replace g1 := (e2 _ _ _).trans g1
  replace r0 := (e2 _ _ _).trans r0
  replace r1 := (e2 _ _ _).trans r1
  replace r2 := (e2 _ _ _).trans r2
  replace a0 := e1
  replace a2 := (e3 _ (by decide)).trans a2
  replace a1 := (e4 _).trans a1
  replace hl := e5.trans hl
  clear e1 e2 e3 e4 e5
  refine mi_wp_p (pc' := 31) rfl rfl rfl ?_
  refine mi_wp_p (pc' := 32) rfl rfl rfl ?_
  refine mi_wp_gf rfl rfl rfl f0 ?_
  refine mi_wp_p (pc' := 36) rfl rfl rfl ?_
  refine mi_wp_p (pc' := 37) rfl rfl rfl ?_
  refine mi_wp_pfk rfl rfl rfl f0 mi_fit_int (Or.inl rfl) ?_
  intro h2 e1 e2 e3 e4 e5
  replace f0 := mi_eqi (y := 17) e1 (by decide +kernel)
  replace g1 := e2 _ _ _ _ g1 (by decide)
  replace r0 := e2 _ _ _ _ r0 (by decide)
  replace r1 := e2 _ _ _ _ r1 (by decide)
  replace r2 := e2 _ _ _ _ r2 (by decide)
  replace a0 := (e3 _).trans a0
  replace a2 := (e3 _).trans a2
  replace a1 := (e4 _).trans a1
  replace hl := e5.trans hl
  clear e1 e2 e3 e4 e5
  refine mi_wp_p (pc' := 43) rfl rfl rfl ?_
  refine mi_wp_p (pc' := 3) rfl rfl rfl ?_
  refine mi_wp_l (l' := [(2, _), (0, _), (1, _)]) rfl ?_
  refine mi_wp_p (pc' := 4) rfl rfl rfl ?_
  refine mi_wp_p (pc' := 7) rfl rfl (mi_br1 (b := false) (t := 46) (by decide +kernel) rfl) ?_
  refine mi_wp_p (pc' := 8) rfl rfl rfl ?_
  refine mi_wp_gf rfl rfl rfl f0 ?_
  refine mi_wp_p (pc' := 14) rfl rfl rfl ?_
  refine mi_wp_p (pc' := 17) rfl rfl (mi_br2 (b := false) (t := 40) (by decide +kernel) rfl) ?_
  refine mi_wp_p (pc' := 18) rfl rfl rfl ?_
  refine mi_wp_gf rfl rfl rfl g1 ?_
  refine mi_wp_p (pc' := 22) rfl rfl rfl ?_
  refine mi_wp_gf rfl rfl rfl f0 ?_
  refine mi_wp_p (pc' := 26) rfl rfl rfl ?_
  refine mi_wp_p (pc' := 27) rfl rfl rfl ?_
  refine mi_wp_p (pc' := 28) rfl rfl rfl ?_
  refine mi_wp_p (pc' := 29) rfl rfl rfl ?_
  refine mi_wp_bask rfl rfl a0 (by decide +kernel) ?_
  intro h3 e1 e2 e3 e4 e5
  replace f0 := (e2 _ _ _).trans f0
  replace g1 := (e2 _ _ _).trans g1
  replace r0 := (e2 _ _ _).trans r0
  replace r1 := (e2 _ _ _).trans r1
  replace r2 := (e2 _ _ _).trans r2
  replace a0 := e1
  replace a2 := (e3 _ (by decide)).trans a2
  replace a1 := (e4 _).trans a1
  replace hl := e5.trans hl
  clear e1 e2 e3 e4 e5
  refine mi_wp_p (pc' := 31) rfl rfl rfl ?_
  refine mi_wp_p (pc' := 32) rfl rfl rfl ?_
  refine mi_wp_gf rfl rfl rfl f0 ?_
  refine mi_wp_p (pc' := 36) rfl rfl rfl ?_
  refine mi_wp_p (pc' := 37) rfl rfl rfl ?_
  refine mi_wp_pfk rfl rfl rfl f0 mi_fit_int (Or.inl rfl) ?_
  intro h4 e1 e2 e3 e4 e5
  replace f0 := mi_eqi (y := 18) e1 (by decide +kernel)
  replace g1 := e2 _ _ _ _ g1 (by decide)
  replace r0 := e2 _ _ _ _ r0 (by decide)
  replace r1 := e2 _ _ _ _ r1 (by decide)
  replace r2 := e2 _ _ _ _ r2 (by decide)
  replace a0 := (e3 _).trans a0
  replace a2 := (e3 _).trans a2
  replace a1 := (e4 _).trans a1
  replace hl := e5.trans hl
  clear e1 e2 e3 e4 e5
  refine mi_wp_p (pc' := 43) rfl rfl rfl ?_
  refine mi_wp_p (pc' := 3) rfl rfl rfl ?_
  refine mi_wp_l (l' := [(2, _), (0, _), (1, _)]) rfl ?_
  refine mi_wp_p (pc' := 4) rfl rfl rfl ?_
  refine mi_wp_p (pc' := 7) rfl rfl (mi_br1 (b := false) (t := 46) (by decide +kernel) rfl) ?_
  refine mi_wp_p (pc' := 8) rfl rfl rfl ?_
  refine mi_wp_gf rfl rfl rfl f0 ?_
  refine mi_wp_p (pc' := 14) rfl rfl rfl ?_
  refine mi_wp_p (pc' := 17) rfl rfl (mi_br2 (b := false) (t := 40) (by decide +kernel) rfl) ?_
  refine mi_wp_p (pc' := 18) rfl rfl rfl ?_
  refine mi_wp_gf rfl rfl rfl g1 ?_
  refine mi_wp_p (pc' := 22) rfl rfl rfl ?_
  refine mi_wp_gf rfl rfl rfl f0 ?_
  refine mi_wp_p (pc' := 26) rfl rfl rfl ?_
  refine mi_wp_p (pc' := 27) rfl rfl rfl ?_
  refine mi_wp_p (pc' := 28) rfl rfl rfl ?_
  refine mi_wp_p (pc' := 29) rfl rfl rfl ?_
  refine mi_wp_bask rfl rfl a0 (by decide +kernel) ?_
  intro h5 e1 e2 e3 e4 e5
  replace f0 := (e2 _ _ _).trans f0
  replace g1 := (e2 _ _ _).trans g1
  replace r0 := (e2 _ _ _).trans r0
  replace r1 := (e2 _ _ _).trans r1
  replace r2 := (e2 _ _ _).trans r2
  replace a0 := e1
  replace a2 := (e3 _ (by decide)).trans a2
  replace a1 := (e4 _).trans a1
  replace hl := e5.trans hl
  clear e1 e2 e3 e4 e5
  refine mi_wp_p (pc' := 31) rfl rfl rfl ?_
  refine mi_wp_p (pc' := 32) rfl rfl rfl ?_
  refine mi_wp_gf rfl rfl rfl f0 ?_
  refine mi_wp_p (pc' := 36) rfl rfl rfl ?_
  refine mi_wp_p (pc' := 37) rfl rfl rfl ?_
  refine mi_wp_pfk rfl rfl rfl f0 mi_fit_int (Or.inl rfl) ?_
  intro h6 e1 e2 e3 e4 e5
  replace f0 := mi_eqi (y := 19) e1 (by decide +kernel)
  replace g1 := e2 _ _ _ _ g1 (by decide)
  replace r0 := e2 _ _ _ _ r0 (by decide)
  replace r1 := e2 _ _ _ _ r1 (by decide)
  replace r2 := e2 _ _ _ _ r2 (by decide)
  replace a0 := (e3 _).trans a0
  replace a2 := (e3 _).trans a2
  replace a1 := (e4 _).trans a1
  replace hl := e5.trans hl
  clear e1 e2 e3 e4 e5
  refine mi_wp_p (pc' := 43) rfl rfl rfl ?_
  refine mi_wp_p (pc' := 3) rfl rfl rfl ?_
  refine mi_wp_l (l' := [(2, _), (0, _), (1, _)]) rfl ?_
  refine mi_wp_p (pc' := 4) rfl rfl rfl ?_
  refine mi_wp_p (pc' := 7) rfl rfl (mi_br1 (b := false) (t := 46) (by decide +kernel) rfl) ?_
  refine mi_wp_p (pc' := 8) rfl rfl rfl ?_
  refine mi_wp_gf rfl rfl rfl f0 ?_
  refine mi_wp_p (pc' := 14) rfl rfl rfl ?_
  refine mi_wp_p (pc' := 17) rfl rfl (mi_br2 (b := false) (t := 40) (by decide +kernel) rfl) ?_
  refine mi_wp_p (pc' := 18) rfl rfl rfl ?_
  refine mi_wp_gf rfl rfl rfl g1 ?_
  refine mi_wp_p (pc' := 22) rfl rfl rfl ?_
  refine mi_wp_gf rfl rfl rfl f0 ?_
  refine mi_wp_p (pc' := 26) rfl rfl rfl ?_
  refine mi_wp_p (pc' := 27) rfl rfl rfl ?_
  refine mi_wp_p (pc' := 28) rfl rfl rfl ?_
  refine mi_wp_p (pc' := 29) rfl rfl rfl ?_
  refine mi_wp_bask rfl rfl a0 (by decide +kernel) ?_
  intro h7 e1 e2 e3 e4 e5
  replace f0 := (e2 _ _ _).trans f0
  replace g1 := (e2 _ _ _).trans g1
  replace r0 := (e2 _ _ _).trans r0
  replace r1 := (e2 _ _ _).trans r1
  replace r2 := (e2 _ _ _).trans r2
  replace a0 := e1
  replace a2 := (e3 _ (by decide)).trans a2
  replace a1 := (e4 _).trans a1
  replace hl := e5.trans hl
  clear e1 e2 e3 e4 e5
  refine mi_wp_p (pc' := 31) rfl rfl rfl ?_
  refine mi_wp_p (pc' := 32) rfl rfl rfl ?_
  refine mi_wp_gf rfl rfl rfl f0 ?_
  refine mi_wp_p (pc' := 36) rfl rfl rfl ?_
  refine mi_wp_p (pc' := 37) rfl rfl rfl ?_
  refine mi_wp_pfk rfl rfl rfl f0 mi_fit_int (Or.inl rfl) ?_
  intro h8 e1 e2 e3 e4 e5
  replace f0 := mi_eqi (y := 20) e1 (by decide +kernel)
  replace g1 := e2 _ _ _ _ g1 (by decide)
  replace r0 := e2 _ _ _ _ r0 (by decide)
  replace r1 := e2 _ _ _ _ r1 (by decide)
  replace r2 := e2 _ _ _ _ r2 (by decide)
  replace a0 := (e3 _).trans a0
  replace a2 := (e3 _).trans a2
  replace a1 := (e4 _).trans a1
  replace hl := e5.trans hl
  clear e1 e2 e3 e4 e5
  refine mi_wp_p (pc' := 43) rfl rfl rfl ?_
  refine mi_wp_p (pc' := 3) rfl rfl rfl ?_
  refine mi_wp_l (l' := [(2, _), (0, _), (1, _)]) rfl ?_
  refine mi_wp_p (pc' := 4) rfl rfl rfl ?_
  refine mi_wp_p (pc' := 46) rfl rfl (mi_br1 (b := true) (t := 46) (by decide +kernel) rfl) ?_
  exact mi_wp_r rfl rfl rfl rfl ⟨_, rfl, f0, g1, r0, r1, r2, a2, a1, hl, _, a0⟩
theorem mi_c_feed {X : mi_X} {h : mi_H} {x1 x2 x3 x4 x5 : Int32} {f : Nat → Int64} {g g2 : Nat → Int32} (f0 : mi_fv h 0 10 10 = some (.int 0)) (g1 : mi_fv h 0 10 0 = some (.ref 1)) (r0 : mi_fv h 55 11 0 = some (.int 0)) (r1 : mi_fv h 55 11 2 = some (.int 0)) (r2 : mi_fv h 55 11 1 = some (.ref 56)) (a0 : mi_ai h 1 = some (2, 1200, g)) (a2 : mi_ai h 56 = some (0, 1200, g2)) (a1 : mi_al h 98 = some (1, f)) (hl : h.length = 99) : mi_wp X 19 mi_M10 0 [(0, .ref 0), (1, .int x1), (2, .int x2), (3, .int x3), (4, .int x4), (5, .int x5)] [] h 0 0 (fun z => ∃ h', z = (.inl (some (.int 20)), h', 0, 0) ∧ mi_fv h' 55 11 0 = some (.int 0) ∧ mi_fv h' 55 11 2 = some (.int 0) ∧ mi_fv h' 55 11 1 = some (.ref 56) ∧ mi_ai h' 56 = some (0, 1200, g2) ∧ mi_al h' 98 = some (1, f) ∧ h'.length = 99) := by
  have hd : 8 ≤ 19 := by decide
  refine mi_wp_p (pc' := 1) rfl rfl rfl ?_
  refine mi_wp_gf rfl rfl rfl f0 ?_
  refine mi_wp_p (pc' := 6) rfl rfl rfl ?_
  refine mi_wp_p (pc' := 7) rfl rfl rfl ?_
  refine mi_wp_p (pc' := 10) rfl rfl rfl ?_
  refine mi_wp_p (pc' := 23) rfl rfl (mi_br2 (b := true) (t := 23) (by decide +kernel) rfl) ?_
  refine mi_wp_p (pc' := 24) rfl rfl rfl ?_
  refine mi_wp_p (pc' := 25) rfl rfl rfl ?_
  refine mi_wp_ce rfl rfl rfl rfl rfl rfl (mi_cal_v (np := 1) rfl rfl rfl rfl (Nat.le_of_ble_eq_true rfl) (Nat.le_of_ble_eq_true rfl) (mi_rc_of f0)) (Nat.le_of_ble_eq_true rfl) (mi_c_append0 f0 g1 r0 r1 r2 a0 a2 a1 hl) ?_
  intro h90 q9
  obtain ⟨f0, g1, r0, r1, r2, a2, a1, hl, g90, a0⟩ := q9
  refine mi_wp_p (pc' := 29) rfl rfl rfl ?_
  refine mi_wp_p (pc' := 30) rfl rfl rfl ?_
  refine mi_wp_ce rfl rfl rfl rfl rfl rfl (mi_cal_v (np := 1) rfl rfl rfl rfl (Nat.le_of_ble_eq_true rfl) (Nat.le_of_ble_eq_true rfl) (mi_rc_of f0)) (Nat.le_of_ble_eq_true rfl) (mi_c_append4 f0 g1 r0 r1 r2 a0 a2 a1 hl) ?_
  intro h94 q9
  obtain ⟨f0, g1, r0, r1, r2, a2, a1, hl, g94, a0⟩ := q9
  refine mi_wp_p (pc' := 34) rfl rfl rfl ?_
  refine mi_wp_p (pc' := 35) rfl rfl rfl ?_
  refine mi_wp_ce rfl rfl rfl rfl rfl rfl (mi_cal_v (np := 1) rfl rfl rfl rfl (Nat.le_of_ble_eq_true rfl) (Nat.le_of_ble_eq_true rfl) (mi_rc_of f0)) (Nat.le_of_ble_eq_true rfl) (mi_c_append8 f0 g1 r0 r1 r2 a0 a2 a1 hl) ?_
  intro h98 q9
  obtain ⟨f0, g1, r0, r1, r2, a2, a1, hl, g98, a0⟩ := q9
  refine mi_wp_p (pc' := 39) rfl rfl rfl ?_
  refine mi_wp_p (pc' := 41) rfl rfl rfl ?_
  refine mi_wp_ce rfl rfl rfl rfl rfl rfl (mi_cal_v (np := 1) rfl rfl rfl rfl (Nat.le_of_ble_eq_true rfl) (Nat.le_of_ble_eq_true rfl) (mi_rc_of f0)) (Nat.le_of_ble_eq_true rfl) (mi_c_append12 f0 g1 r0 r1 r2 a0 a2 a1 hl) ?_
  intro h102 q9
  obtain ⟨f0, g1, r0, r1, r2, a2, a1, hl, g102, a0⟩ := q9
  refine mi_wp_p (pc' := 45) rfl rfl rfl ?_
  refine mi_wp_p (pc' := 47) rfl rfl rfl ?_
  refine mi_wp_ce rfl rfl rfl rfl rfl rfl (mi_cal_v (np := 1) rfl rfl rfl rfl (Nat.le_of_ble_eq_true rfl) (Nat.le_of_ble_eq_true rfl) (mi_rc_of f0)) (Nat.le_of_ble_eq_true rfl) (mi_c_append16 f0 g1 r0 r1 r2 a0 a2 a1 hl) ?_
  intro h106 q9
  obtain ⟨f0, g1, r0, r1, r2, a2, a1, hl, g106, a0⟩ := q9
  refine mi_wp_p (pc' := 51) rfl rfl rfl ?_
  refine mi_wp_gf rfl rfl rfl f0 ?_
  exact mi_wp_r rfl rfl rfl rfl ⟨_, rfl, r0, r1, r2, a2, a1, hl⟩
theorem mi_l_feed {X : mi_X} {h : mi_H} {x1 x2 x3 x4 x5 : Int32} {f : Nat → Int64} {g g2 : Nat → Int32} (f0 : mi_fv h 0 10 10 = some (.int 0)) (g1 : mi_fv h 0 10 0 = some (.ref 1)) (r0 : mi_fv h 55 11 0 = some (.int 0)) (r1 : mi_fv h 55 11 2 = some (.int 0)) (r2 : mi_fv h 55 11 1 = some (.ref 56)) (a0 : mi_ai h 1 = some (2, 1200, g)) (a2 : mi_ai h 56 = some (0, 1200, g2)) (a1 : mi_al h 98 = some (1, f)) (hl : h.length = 99) : mi_wp X 20 mi_M79 0 [(0, .ref 0), (1, .int x1), (2, .int x2), (3, .int x3), (4, .int x4), (5, .int x5), (6, .ref 98)] [] h 0 0 (fun z => ∃ h', z = (.inl (some (.int (Int32.ofInt 0))), h', 0, 0) ∧ mi_fv h' 55 11 0 = some (.int 0) ∧ mi_fv h' 55 11 2 = some (.int 0) ∧ mi_fv h' 55 11 1 = some (.ref 56) ∧ mi_ai h' 56 = some (0, 1200, g2) ∧ h'.length = 99 ∧ ∃ f1 : Nat → Int64, mi_al h' 98 = some (1, f1) ∧ f1 0 = 20) := by
  have hd : 8 ≤ 20 := by decide
  refine mi_wp_p (pc' := 2) rfl rfl rfl ?_
  refine mi_wp_p (pc' := 3) rfl rfl rfl ?_
  refine mi_wp_p (pc' := 4) rfl rfl rfl ?_
  refine mi_wp_p (pc' := 5) rfl rfl rfl ?_
  refine mi_wp_p (pc' := 6) rfl rfl rfl ?_
  refine mi_wp_p (pc' := 7) rfl rfl rfl ?_
  refine mi_wp_p (pc' := 9) rfl rfl rfl ?_
  refine mi_wp_p (pc' := 11) rfl rfl rfl ?_
  refine mi_wp_ce rfl rfl rfl rfl rfl rfl (mi_cal_v (np := 5) rfl rfl rfl rfl (Nat.le_of_ble_eq_true rfl) (Nat.le_of_ble_eq_true rfl) (mi_rc_of f0)) (Nat.le_of_ble_eq_true rfl) (mi_c_feed f0 g1 r0 r1 r2 a0 a2 a1 hl) ?_
  intro h91 q9
  obtain ⟨r0, r1, r2, a2, a1, hl⟩ := q9
  refine mi_wp_p (pc' := 15) rfl rfl rfl ?_
  refine mi_wp_lask rfl rfl a1 (by decide +kernel) ?_
  intro h1 e1 e2 e3 e4 e5
  replace r0 := (e2 _ _ _).trans r0
  replace r1 := (e2 _ _ _).trans r1
  replace r2 := (e2 _ _ _).trans r2
  replace a2 := (e3 _).trans a2
  replace a1 := e1
  replace hl := e5.trans hl
  clear e1 e2 e3 e4 e5
  refine mi_wp_p (pc' := 23) rfl rfl rfl ?_
  refine mi_wp_p (pc' := 24) rfl rfl rfl ?_
  exact mi_wp_r rfl rfl rfl rfl ⟨_, rfl, r0, r1, r2, a2, hl, _, a1, mi_o0 (by decide +kernel) (by decide +kernel)⟩
set_option maxHeartbeats 4000000 in
theorem mi_r_feed {X : mi_X} {d : Nat} {h : mi_H} {x1 x2 x3 x4 x5 : Int32} {f : Nat → Int64} {g2 : Nat → Int32} (r0 : mi_fv h 55 11 0 = some (.int 0)) (r1 : mi_fv h 55 11 2 = some (.int 0)) (r2 : mi_fv h 55 11 1 = some (.ref 56)) (a2 : mi_ai h 56 = some (0, 1200, g2)) (a1 : mi_al h 98 = some (1, f)) (hl : h.length = 99) : mi_wp X d mi_M99 0 [(0, .ref 55), (1, .int x1), (2, .int x2), (3, .int x3), (4, .int x4), (5, .int x5)] [] h 0 0 (fun z => ∃ h', z = (.inl (some (.int 20)), h', 0 + 1, 0 + (Int32.ofInt 5).toNatClampNeg) ∧ mi_fv h' 55 11 0 = some (.int 0) ∧ mi_al h' 98 = some (1, f)) := by
  refine mi_wp_p (pc' := 1) rfl rfl rfl ?_
  refine mi_wp_p (pc' := 2) rfl rfl rfl ?_
  refine mi_wp_pfk rfl rfl rfl r0 mi_fit_int (Or.inl rfl) ?_
  intro h1 e1 e2 e3 e4 e5
  replace r0 := mi_eqi (y := 0) e1 (by decide +kernel)
  replace r1 := e2 _ _ _ _ r1 (by decide)
  replace r2 := e2 _ _ _ _ r2 (by decide)
  replace a2 := (e3 _).trans a2
  replace a1 := (e4 _).trans a1
  replace hl := e5.trans hl
  clear e1 e2 e3 e4 e5
  refine mi_wp_p (pc' := 6) rfl rfl rfl ?_
  refine mi_wp_gf rfl rfl rfl r1 ?_
  refine mi_wp_p (pc' := 11) rfl rfl rfl ?_
  refine mi_wp_p (pc' := 12) rfl rfl rfl ?_
  refine mi_wp_p (pc' := 15) rfl rfl rfl ?_
  refine mi_wp_p (pc' := 24) rfl rfl (mi_br2 (b := true) (t := 24) (by decide +kernel) rfl) ?_
  refine mi_wp_p (pc' := 25) rfl rfl rfl ?_
  refine mi_wp_nai rfl rfl hl (by decide +kernel) ?_
  intro h2 n99 e2 e3 e4 _
  replace r0 := e2 _ _ _ _ r0
  replace r1 := e2 _ _ _ _ r1
  replace r2 := e2 _ _ _ _ r2
  replace a2 := e3 _ _ _ _ a2
  replace a1 := e4 _ _ _ a1
  clear e2 e3 e4
  refine mi_wp_p (pc' := 28) rfl rfl rfl ?_
  refine mi_wp_p (pc' := 29) rfl rfl rfl ?_
  refine mi_wp_p (pc' := 30) rfl rfl rfl ?_
  refine mi_wp_iask rfl rfl n99 (by decide +kernel) ?_
  intro h3 e1 e2 e3 e4 e5
  replace r0 := (e2 _ _ _).trans r0
  replace r1 := (e2 _ _ _).trans r1
  replace r2 := (e2 _ _ _).trans r2
  replace a2 := (e3 _ (by decide)).trans a2
  replace a1 := (e4 _).trans a1
  replace n99 := e1
  clear e1 e2 e3 e4 e5
  refine mi_wp_p (pc' := 32) rfl rfl rfl ?_
  refine mi_wp_p (pc' := 33) rfl rfl rfl ?_
  refine mi_wp_p (pc' := 34) rfl rfl rfl ?_
  refine mi_wp_iask rfl rfl n99 (by decide +kernel) ?_
  intro h4 e1 e2 e3 e4 e5
  replace r0 := (e2 _ _ _).trans r0
  replace r1 := (e2 _ _ _).trans r1
  replace r2 := (e2 _ _ _).trans r2
  replace a2 := (e3 _ (by decide)).trans a2
  replace a1 := (e4 _).trans a1
  replace n99 := e1
  clear e1 e2 e3 e4 e5
  refine mi_wp_p (pc' := 36) rfl rfl rfl ?_
  refine mi_wp_p (pc' := 37) rfl rfl rfl ?_
  refine mi_wp_p (pc' := 38) rfl rfl rfl ?_
  refine mi_wp_iask rfl rfl n99 (by decide +kernel) ?_
  intro h5 e1 e2 e3 e4 e5
  replace r0 := (e2 _ _ _).trans r0
  replace r1 := (e2 _ _ _).trans r1
  replace r2 := (e2 _ _ _).trans r2
  replace a2 := (e3 _ (by decide)).trans a2
  replace a1 := (e4 _).trans a1
  replace n99 := e1
  clear e1 e2 e3 e4 e5
  refine mi_wp_p (pc' := 40) rfl rfl rfl ?_
  refine mi_wp_p (pc' := 41) rfl rfl rfl ?_
  refine mi_wp_p (pc' := 43) rfl rfl rfl ?_
  refine mi_wp_iask rfl rfl n99 (by decide +kernel) ?_
  intro h6 e1 e2 e3 e4 e5
  replace r0 := (e2 _ _ _).trans r0
  replace r1 := (e2 _ _ _).trans r1
  replace r2 := (e2 _ _ _).trans r2
  replace a2 := (e3 _ (by decide)).trans a2
  replace a1 := (e4 _).trans a1
  replace n99 := e1
  clear e1 e2 e3 e4 e5
  refine mi_wp_p (pc' := 45) rfl rfl rfl ?_
  refine mi_wp_p (pc' := 46) rfl rfl rfl ?_
  refine mi_wp_p (pc' := 48) rfl rfl rfl ?_
  refine mi_wp_iask rfl rfl n99 (by decide +kernel) ?_
  intro h7 e1 e2 e3 e4 e5
  replace r0 := (e2 _ _ _).trans r0
  replace r1 := (e2 _ _ _).trans r1
  replace r2 := (e2 _ _ _).trans r2
  replace a2 := (e3 _ (by decide)).trans a2
  replace a1 := (e4 _).trans a1
  replace n99 := e1
  clear e1 e2 e3 e4 e5
  refine mi_wp_p (pc' := 51) rfl rfl rfl ?_
  refine mi_wp_p (pc' := 53) rfl rfl rfl ?_
  refine mi_wp_p (pc' := 55) rfl rfl rfl ?_
  refine mi_wp_p (pc' := 57) rfl rfl rfl ?_
  refine mi_wp_aln rfl rfl n99 (by decide) ?_
  refine mi_wp_p (pc' := 60) rfl rfl rfl ?_
  refine mi_wp_p (pc' := 61) rfl rfl rfl ?_
  refine mi_wp_p (pc' := 63) rfl rfl rfl ?_
  refine mi_wp_l (l' := [(9, _), (8, _), (7, _), (6, _), (0, _), (1, _), (2, _), (3, _), (4, _), (5, _)]) rfl ?_
  refine mi_wp_p (pc' := 65) rfl rfl rfl ?_
  refine mi_wp_p (pc' := 67) rfl rfl rfl ?_
  refine mi_wp_p (pc' := 70) rfl rfl (mi_br2 (b := false) (t := 128) (by decide +kernel) rfl) ?_
  refine mi_wp_p (pc' := 72) rfl rfl rfl ?_
  refine mi_wp_p (pc' := 74) rfl rfl rfl ?_
  refine mi_wp_ials rfl rfl n99 (by decide +kernel) ?_
  refine mi_wp_p (pc' := 77) rfl rfl rfl ?_
  refine mi_wp_p (pc' := 78) rfl rfl rfl ?_
  refine mi_wp_p (pc' := 80) rfl rfl rfl ?_
  refine mi_wp_l (l' := [(11, _), (10, _), (9, _), (8, _), (7, _), (6, _), (0, _), (1, _), (2, _), (3, _), (4, _), (5, _)]) rfl ?_
  refine mi_wp_p (pc' := 82) rfl rfl rfl ?_
  refine mi_wp_p (pc' := 85) rfl rfl (mi_br1 (b := false) (t := 122) (by decide +kernel) rfl) ?_
  refine mi_wp_p (pc' := 86) rfl rfl rfl ?_
  refine mi_wp_gf rfl rfl rfl r2 ?_
  refine mi_wp_p (pc' := 90) rfl rfl rfl ?_
  refine mi_wp_gf rfl rfl rfl r1 ?_
  refine mi_wp_p (pc' := 95) rfl rfl rfl ?_
  refine mi_wp_p (pc' := 97) rfl rfl rfl ?_
  refine mi_wp_p (pc' := 99) rfl rfl rfl ?_
  refine mi_wp_p (pc' := 100) rfl rfl rfl ?_
  refine mi_wp_p (pc' := 101) rfl rfl rfl ?_
  refine mi_wp_p (pc' := 104) rfl rfl rfl ?_
  refine mi_wp_p (pc' := 105) rfl rfl rfl ?_
  refine mi_wp_iask rfl rfl a2 (by decide +kernel) ?_
  intro h8 e1 e2 e3 e4 e5
  replace r0 := (e2 _ _ _).trans r0
  replace r1 := (e2 _ _ _).trans r1
  replace r2 := (e2 _ _ _).trans r2
  replace a2 := e1
  replace a1 := (e4 _).trans a1
  replace n99 := (e3 _ (by decide)).trans n99
  clear e1 e2 e3 e4 e5
  refine mi_wp_p (pc' := 107) rfl rfl rfl ?_
  refine mi_wp_p (pc' := 108) rfl rfl rfl ?_
  refine mi_wp_gf rfl rfl rfl r1 ?_
  refine mi_wp_p (pc' := 112) rfl rfl rfl ?_
  refine mi_wp_p (pc' := 113) rfl rfl rfl ?_
  refine mi_wp_pfk rfl rfl rfl r1 mi_fit_int (Or.inl rfl) ?_
  intro h9 e1 e2 e3 e4 e5
  replace r0 := e2 _ _ _ _ r0 (by decide)
  replace r1 := mi_eqi (y := 1) e1 (by decide +kernel)
  replace r2 := e2 _ _ _ _ r2 (by decide)
  replace a2 := (e3 _).trans a2
  replace a1 := (e4 _).trans a1
  replace n99 := (e3 _).trans n99
  clear e1 e2 e3 e4 e5
  refine mi_wp_p (pc' := 119) rfl rfl rfl ?_
  refine mi_wp_p (pc' := 80) rfl rfl rfl ?_
  refine mi_wp_l (l' := [(11, _), (10, _), (9, _), (8, _), (7, _), (6, _), (0, _), (1, _), (2, _), (3, _), (4, _), (5, _)]) rfl ?_
  refine mi_wp_p (pc' := 82) rfl rfl rfl ?_
  refine mi_wp_p (pc' := 85) rfl rfl (mi_br1 (b := false) (t := 122) (by decide +kernel) rfl) ?_
  refine mi_wp_p (pc' := 86) rfl rfl rfl ?_
  refine mi_wp_gf rfl rfl rfl r2 ?_
  refine mi_wp_p (pc' := 90) rfl rfl rfl ?_
  refine mi_wp_gf rfl rfl rfl r1 ?_
  refine mi_wp_p (pc' := 95) rfl rfl rfl ?_
  refine mi_wp_p (pc' := 97) rfl rfl rfl ?_
  refine mi_wp_p (pc' := 99) rfl rfl rfl ?_
  refine mi_wp_p (pc' := 100) rfl rfl rfl ?_
  refine mi_wp_p (pc' := 101) rfl rfl rfl ?_
  refine mi_wp_p (pc' := 104) rfl rfl rfl ?_
  refine mi_wp_p (pc' := 105) rfl rfl rfl ?_
  refine mi_wp_iask rfl rfl a2 (by decide +kernel) ?_
  intro h10 e1 e2 e3 e4 e5
  replace r0 := (e2 _ _ _).trans r0
  replace r1 := (e2 _ _ _).trans r1
  replace r2 := (e2 _ _ _).trans r2
  replace a2 := e1
  replace a1 := (e4 _).trans a1
  replace n99 := (e3 _ (by decide)).trans n99
  clear e1 e2 e3 e4 e5
  refine mi_wp_p (pc' := 107) rfl rfl rfl ?_
  refine mi_wp_p (pc' := 108) rfl rfl rfl ?_
  refine mi_wp_gf rfl rfl rfl r1 ?_
  refine mi_wp_p (pc' := 112) rfl rfl rfl ?_
  refine mi_wp_p (pc' := 113) rfl rfl rfl ?_
  refine mi_wp_pfk rfl rfl rfl r1 mi_fit_int (Or.inl rfl) ?_
  intro h11 e1 e2 e3 e4 e5
  replace r0 := e2 _ _ _ _ r0 (by decide)
  replace r1 := mi_eqi (y := 2) e1 (by decide +kernel)
  replace r2 := e2 _ _ _ _ r2 (by decide)
  replace a2 := (e3 _).trans a2
  replace a1 := (e4 _).trans a1
  replace n99 := (e3 _).trans n99
  clear e1 e2 e3 e4 e5
  refine mi_wp_p (pc' := 119) rfl rfl rfl ?_
  refine mi_wp_p (pc' := 80) rfl rfl rfl ?_
  refine mi_wp_l (l' := [(11, _), (10, _), (9, _), (8, _), (7, _), (6, _), (0, _), (1, _), (2, _), (3, _), (4, _), (5, _)]) rfl ?_
  refine mi_wp_p (pc' := 82) rfl rfl rfl ?_
  refine mi_wp_p (pc' := 85) rfl rfl (mi_br1 (b := false) (t := 122) (by decide +kernel) rfl) ?_
  refine mi_wp_p (pc' := 86) rfl rfl rfl ?_
  refine mi_wp_gf rfl rfl rfl r2 ?_
  refine mi_wp_p (pc' := 90) rfl rfl rfl ?_
  refine mi_wp_gf rfl rfl rfl r1 ?_
  refine mi_wp_p (pc' := 95) rfl rfl rfl ?_
  refine mi_wp_p (pc' := 97) rfl rfl rfl ?_
  refine mi_wp_p (pc' := 99) rfl rfl rfl ?_
  refine mi_wp_p (pc' := 100) rfl rfl rfl ?_
  refine mi_wp_p (pc' := 101) rfl rfl rfl ?_
  refine mi_wp_p (pc' := 104) rfl rfl rfl ?_
  refine mi_wp_p (pc' := 105) rfl rfl rfl ?_
  refine mi_wp_iask rfl rfl a2 (by decide +kernel) ?_
  intro h12 e1 e2 e3 e4 e5
  replace r0 := (e2 _ _ _).trans r0
  replace r1 := (e2 _ _ _).trans r1
  replace r2 := (e2 _ _ _).trans r2
  replace a2 := e1
  replace a1 := (e4 _).trans a1
  replace n99 := (e3 _ (by decide)).trans n99
  clear e1 e2 e3 e4 e5
  refine mi_wp_p (pc' := 107) rfl rfl rfl ?_
  refine mi_wp_p (pc' := 108) rfl rfl rfl ?_
  refine mi_wp_gf rfl rfl rfl r1 ?_
  refine mi_wp_p (pc' := 112) rfl rfl rfl ?_
  refine mi_wp_p (pc' := 113) rfl rfl rfl ?_
  refine mi_wp_pfk rfl rfl rfl r1 mi_fit_int (Or.inl rfl) ?_
  intro h13 e1 e2 e3 e4 e5
  replace r0 := e2 _ _ _ _ r0 (by decide)
  replace r1 := mi_eqi (y := 3) e1 (by decide +kernel)
  replace r2 := e2 _ _ _ _ r2 (by decide)
  replace a2 := (e3 _).trans a2
  replace a1 := (e4 _).trans a1
  replace n99 := (e3 _).trans n99
  clear e1 e2 e3 e4 e5
  refine mi_wp_p (pc' := 119) rfl rfl rfl ?_
  refine mi_wp_p (pc' := 80) rfl rfl rfl ?_
  refine mi_wp_l (l' := [(11, _), (10, _), (9, _), (8, _), (7, _), (6, _), (0, _), (1, _), (2, _), (3, _), (4, _), (5, _)]) rfl ?_
  refine mi_wp_p (pc' := 82) rfl rfl rfl ?_
  refine mi_wp_p (pc' := 85) rfl rfl (mi_br1 (b := false) (t := 122) (by decide +kernel) rfl) ?_
  refine mi_wp_p (pc' := 86) rfl rfl rfl ?_
  refine mi_wp_gf rfl rfl rfl r2 ?_
  refine mi_wp_p (pc' := 90) rfl rfl rfl ?_
  refine mi_wp_gf rfl rfl rfl r1 ?_
  refine mi_wp_p (pc' := 95) rfl rfl rfl ?_
  refine mi_wp_p (pc' := 97) rfl rfl rfl ?_
  refine mi_wp_p (pc' := 99) rfl rfl rfl ?_
  refine mi_wp_p (pc' := 100) rfl rfl rfl ?_
  refine mi_wp_p (pc' := 101) rfl rfl rfl ?_
  refine mi_wp_p (pc' := 104) rfl rfl rfl ?_
  refine mi_wp_p (pc' := 105) rfl rfl rfl ?_
  refine mi_wp_iask rfl rfl a2 (by decide +kernel) ?_
  intro h14 e1 e2 e3 e4 e5
  replace r0 := (e2 _ _ _).trans r0
  replace r1 := (e2 _ _ _).trans r1
  replace r2 := (e2 _ _ _).trans r2
  replace a2 := e1
  replace a1 := (e4 _).trans a1
  replace n99 := (e3 _ (by decide)).trans n99
  clear e1 e2 e3 e4 e5
  refine mi_wp_p (pc' := 107) rfl rfl rfl ?_
  refine mi_wp_p (pc' := 108) rfl rfl rfl ?_
  refine mi_wp_gf rfl rfl rfl r1 ?_
  refine mi_wp_p (pc' := 112) rfl rfl rfl ?_
  refine mi_wp_p (pc' := 113) rfl rfl rfl ?_
  refine mi_wp_pfk rfl rfl rfl r1 mi_fit_int (Or.inl rfl) ?_
  intro h15 e1 e2 e3 e4 e5
  replace r0 := e2 _ _ _ _ r0 (by decide)
  replace r1 := mi_eqi (y := 4) e1 (by decide +kernel)
  replace r2 := e2 _ _ _ _ r2 (by decide)
  replace a2 := (e3 _).trans a2
  replace a1 := (e4 _).trans a1
  replace n99 := (e3 _).trans n99
  clear e1 e2 e3 e4 e5
  refine mi_wp_p (pc' := 119) rfl rfl rfl ?_
  refine mi_wp_p (pc' := 80) rfl rfl rfl ?_
  refine mi_wp_l (l' := [(11, _), (10, _), (9, _), (8, _), (7, _), (6, _), (0, _), (1, _), (2, _), (3, _), (4, _), (5, _)]) rfl ?_
  refine mi_wp_p (pc' := 82) rfl rfl rfl ?_
  refine mi_wp_p (pc' := 122) rfl rfl (mi_br1 (b := true) (t := 122) (by decide +kernel) rfl) ?_
  refine mi_wp_p (pc' := 125) rfl rfl rfl ?_
  refine mi_wp_p (pc' := 63) rfl rfl rfl ?_
  refine mi_wp_l (l' := [(9, _), (11, _), (10, _), (8, _), (7, _), (6, _), (0, _), (1, _), (2, _), (3, _), (4, _), (5, _)]) rfl ?_
  refine mi_wp_p (pc' := 65) rfl rfl rfl ?_
  refine mi_wp_p (pc' := 67) rfl rfl rfl ?_
  refine mi_wp_p (pc' := 70) rfl rfl (mi_br2 (b := false) (t := 128) (by decide +kernel) rfl) ?_
  refine mi_wp_p (pc' := 72) rfl rfl rfl ?_
  refine mi_wp_p (pc' := 74) rfl rfl rfl ?_
  refine mi_wp_ials rfl rfl n99 (by decide +kernel) ?_
  refine mi_wp_p (pc' := 77) rfl rfl rfl ?_
  refine mi_wp_p (pc' := 78) rfl rfl rfl ?_
  refine mi_wp_p (pc' := 80) rfl rfl rfl ?_
  refine mi_wp_l (l' := [(11, _), (10, _), (9, _), (8, _), (7, _), (6, _), (0, _), (1, _), (2, _), (3, _), (4, _), (5, _)]) rfl ?_
  refine mi_wp_p (pc' := 82) rfl rfl rfl ?_
  refine mi_wp_p (pc' := 85) rfl rfl (mi_br1 (b := false) (t := 122) (by decide +kernel) rfl) ?_
  refine mi_wp_p (pc' := 86) rfl rfl rfl ?_
  refine mi_wp_gf rfl rfl rfl r2 ?_
  refine mi_wp_p (pc' := 90) rfl rfl rfl ?_
  refine mi_wp_gf rfl rfl rfl r1 ?_
  refine mi_wp_p (pc' := 95) rfl rfl rfl ?_
  refine mi_wp_p (pc' := 97) rfl rfl rfl ?_
  refine mi_wp_p (pc' := 99) rfl rfl rfl ?_
  refine mi_wp_p (pc' := 100) rfl rfl rfl ?_
  refine mi_wp_p (pc' := 101) rfl rfl rfl ?_
  refine mi_wp_p (pc' := 104) rfl rfl rfl ?_
  refine mi_wp_p (pc' := 105) rfl rfl rfl ?_
  refine mi_wp_iask rfl rfl a2 (by decide +kernel) ?_
  intro h16 e1 e2 e3 e4 e5
  replace r0 := (e2 _ _ _).trans r0
  replace r1 := (e2 _ _ _).trans r1
  replace r2 := (e2 _ _ _).trans r2
  replace a2 := e1
  replace a1 := (e4 _).trans a1
  replace n99 := (e3 _ (by decide)).trans n99
  clear e1 e2 e3 e4 e5
  refine mi_wp_p (pc' := 107) rfl rfl rfl ?_
  refine mi_wp_p (pc' := 108) rfl rfl rfl ?_
  refine mi_wp_gf rfl rfl rfl r1 ?_
  refine mi_wp_p (pc' := 112) rfl rfl rfl ?_
  refine mi_wp_p (pc' := 113) rfl rfl rfl ?_
  refine mi_wp_pfk rfl rfl rfl r1 mi_fit_int (Or.inl rfl) ?_
  intro h17 e1 e2 e3 e4 e5
  replace r0 := e2 _ _ _ _ r0 (by decide)
  replace r1 := mi_eqi (y := 5) e1 (by decide +kernel)
  replace r2 := e2 _ _ _ _ r2 (by decide)
  replace a2 := (e3 _).trans a2
  replace a1 := (e4 _).trans a1
  replace n99 := (e3 _).trans n99
  clear e1 e2 e3 e4 e5
  refine mi_wp_p (pc' := 119) rfl rfl rfl ?_
  refine mi_wp_p (pc' := 80) rfl rfl rfl ?_
  refine mi_wp_l (l' := [(11, _), (10, _), (9, _), (8, _), (7, _), (6, _), (0, _), (1, _), (2, _), (3, _), (4, _), (5, _)]) rfl ?_
  refine mi_wp_p (pc' := 82) rfl rfl rfl ?_
  refine mi_wp_p (pc' := 85) rfl rfl (mi_br1 (b := false) (t := 122) (by decide +kernel) rfl) ?_
  refine mi_wp_p (pc' := 86) rfl rfl rfl ?_
  refine mi_wp_gf rfl rfl rfl r2 ?_
  refine mi_wp_p (pc' := 90) rfl rfl rfl ?_
  refine mi_wp_gf rfl rfl rfl r1 ?_
  refine mi_wp_p (pc' := 95) rfl rfl rfl ?_
  refine mi_wp_p (pc' := 97) rfl rfl rfl ?_
  refine mi_wp_p (pc' := 99) rfl rfl rfl ?_
  refine mi_wp_p (pc' := 100) rfl rfl rfl ?_
  refine mi_wp_p (pc' := 101) rfl rfl rfl ?_
  refine mi_wp_p (pc' := 104) rfl rfl rfl ?_
  refine mi_wp_p (pc' := 105) rfl rfl rfl ?_
  refine mi_wp_iask rfl rfl a2 (by decide +kernel) ?_
  intro h18 e1 e2 e3 e4 e5
  replace r0 := (e2 _ _ _).trans r0
  replace r1 := (e2 _ _ _).trans r1
  replace r2 := (e2 _ _ _).trans r2
  replace a2 := e1
  replace a1 := (e4 _).trans a1
  replace n99 := (e3 _ (by decide)).trans n99
  clear e1 e2 e3 e4 e5
  refine mi_wp_p (pc' := 107) rfl rfl rfl ?_
  refine mi_wp_p (pc' := 108) rfl rfl rfl ?_
  refine mi_wp_gf rfl rfl rfl r1 ?_
  refine mi_wp_p (pc' := 112) rfl rfl rfl ?_
  refine mi_wp_p (pc' := 113) rfl rfl rfl ?_
  refine mi_wp_pfk rfl rfl rfl r1 mi_fit_int (Or.inl rfl) ?_
  intro h19 e1 e2 e3 e4 e5
  replace r0 := e2 _ _ _ _ r0 (by decide)
  replace r1 := mi_eqi (y := 6) e1 (by decide +kernel)
  replace r2 := e2 _ _ _ _ r2 (by decide)
  replace a2 := (e3 _).trans a2
  replace a1 := (e4 _).trans a1
  replace n99 := (e3 _).trans n99
  clear e1 e2 e3 e4 e5
  refine mi_wp_p (pc' := 119) rfl rfl rfl ?_
  refine mi_wp_p (pc' := 80) rfl rfl rfl ?_
  refine mi_wp_l (l' := [(11, _), (10, _), (9, _), (8, _), (7, _), (6, _), (0, _), (1, _), (2, _), (3, _), (4, _), (5, _)]) rfl ?_
  refine mi_wp_p (pc' := 82) rfl rfl rfl ?_
  refine mi_wp_p (pc' := 85) rfl rfl (mi_br1 (b := false) (t := 122) (by decide +kernel) rfl) ?_
  refine mi_wp_p (pc' := 86) rfl rfl rfl ?_
  refine mi_wp_gf rfl rfl rfl r2 ?_
  refine mi_wp_p (pc' := 90) rfl rfl rfl ?_
  refine mi_wp_gf rfl rfl rfl r1 ?_
  refine mi_wp_p (pc' := 95) rfl rfl rfl ?_
  refine mi_wp_p (pc' := 97) rfl rfl rfl ?_
  refine mi_wp_p (pc' := 99) rfl rfl rfl ?_
  refine mi_wp_p (pc' := 100) rfl rfl rfl ?_
  refine mi_wp_p (pc' := 101) rfl rfl rfl ?_
  refine mi_wp_p (pc' := 104) rfl rfl rfl ?_
  refine mi_wp_p (pc' := 105) rfl rfl rfl ?_
  refine mi_wp_iask rfl rfl a2 (by decide +kernel) ?_
  intro h20 e1 e2 e3 e4 e5
  replace r0 := (e2 _ _ _).trans r0
  replace r1 := (e2 _ _ _).trans r1
  replace r2 := (e2 _ _ _).trans r2
  replace a2 := e1
  replace a1 := (e4 _).trans a1
  replace n99 := (e3 _ (by decide)).trans n99
  clear e1 e2 e3 e4 e5
  refine mi_wp_p (pc' := 107) rfl rfl rfl ?_
  refine mi_wp_p (pc' := 108) rfl rfl rfl ?_
  refine mi_wp_gf rfl rfl rfl r1 ?_
  refine mi_wp_p (pc' := 112) rfl rfl rfl ?_
  refine mi_wp_p (pc' := 113) rfl rfl rfl ?_
  refine mi_wp_pfk rfl rfl rfl r1 mi_fit_int (Or.inl rfl) ?_
  intro h21 e1 e2 e3 e4 e5
  replace r0 := e2 _ _ _ _ r0 (by decide)
  replace r1 := mi_eqi (y := 7) e1 (by decide +kernel)
  replace r2 := e2 _ _ _ _ r2 (by decide)
  replace a2 := (e3 _).trans a2
  replace a1 := (e4 _).trans a1
  replace n99 := (e3 _).trans n99
  clear e1 e2 e3 e4 e5
  refine mi_wp_p (pc' := 119) rfl rfl rfl ?_
  refine mi_wp_p (pc' := 80) rfl rfl rfl ?_
  refine mi_wp_l (l' := [(11, _), (10, _), (9, _), (8, _), (7, _), (6, _), (0, _), (1, _), (2, _), (3, _), (4, _), (5, _)]) rfl ?_
  refine mi_wp_p (pc' := 82) rfl rfl rfl ?_
  refine mi_wp_p (pc' := 85) rfl rfl (mi_br1 (b := false) (t := 122) (by decide +kernel) rfl) ?_
  refine mi_wp_p (pc' := 86) rfl rfl rfl ?_
  refine mi_wp_gf rfl rfl rfl r2 ?_
  refine mi_wp_p (pc' := 90) rfl rfl rfl ?_
  refine mi_wp_gf rfl rfl rfl r1 ?_
  refine mi_wp_p (pc' := 95) rfl rfl rfl ?_
  refine mi_wp_p (pc' := 97) rfl rfl rfl ?_
  refine mi_wp_p (pc' := 99) rfl rfl rfl ?_
  refine mi_wp_p (pc' := 100) rfl rfl rfl ?_
  refine mi_wp_p (pc' := 101) rfl rfl rfl ?_
  refine mi_wp_p (pc' := 104) rfl rfl rfl ?_
  refine mi_wp_p (pc' := 105) rfl rfl rfl ?_
  refine mi_wp_iask rfl rfl a2 (by decide +kernel) ?_
  intro h22 e1 e2 e3 e4 e5
  replace r0 := (e2 _ _ _).trans r0
  replace r1 := (e2 _ _ _).trans r1
  replace r2 := (e2 _ _ _).trans r2
  replace a2 := e1
  replace a1 := (e4 _).trans a1
  replace n99 := (e3 _ (by decide)).trans n99
  clear e1 e2 e3 e4 e5
  refine mi_wp_p (pc' := 107) rfl rfl rfl ?_
  refine mi_wp_p (pc' := 108) rfl rfl rfl ?_
  refine mi_wp_gf rfl rfl rfl r1 ?_
  refine mi_wp_p (pc' := 112) rfl rfl rfl ?_
  refine mi_wp_p (pc' := 113) rfl rfl rfl ?_
  refine mi_wp_pfk rfl rfl rfl r1 mi_fit_int (Or.inl rfl) ?_
  intro h23 e1 e2 e3 e4 e5
  replace r0 := e2 _ _ _ _ r0 (by decide)
  replace r1 := mi_eqi (y := 8) e1 (by decide +kernel)
  replace r2 := e2 _ _ _ _ r2 (by decide)
  replace a2 := (e3 _).trans a2
  replace a1 := (e4 _).trans a1
  replace n99 := (e3 _).trans n99
  clear e1 e2 e3 e4 e5
  refine mi_wp_p (pc' := 119) rfl rfl rfl ?_
  refine mi_wp_p (pc' := 80) rfl rfl rfl ?_
  refine mi_wp_l (l' := [(11, _), (10, _), (9, _), (8, _), (7, _), (6, _), (0, _), (1, _), (2, _), (3, _), (4, _), (5, _)]) rfl ?_
  refine mi_wp_p (pc' := 82) rfl rfl rfl ?_
  refine mi_wp_p (pc' := 122) rfl rfl (mi_br1 (b := true) (t := 122) (by decide +kernel) rfl) ?_
  refine mi_wp_p (pc' := 125) rfl rfl rfl ?_
  refine mi_wp_p (pc' := 63) rfl rfl rfl ?_
  refine mi_wp_l (l' := [(9, _), (11, _), (10, _), (8, _), (7, _), (6, _), (0, _), (1, _), (2, _), (3, _), (4, _), (5, _)]) rfl ?_
  refine mi_wp_p (pc' := 65) rfl rfl rfl ?_
  refine mi_wp_p (pc' := 67) rfl rfl rfl ?_
  refine mi_wp_p (pc' := 70) rfl rfl (mi_br2 (b := false) (t := 128) (by decide +kernel) rfl) ?_
  refine mi_wp_p (pc' := 72) rfl rfl rfl ?_
  refine mi_wp_p (pc' := 74) rfl rfl rfl ?_
  refine mi_wp_ials rfl rfl n99 (by decide +kernel) ?_
  refine mi_wp_p (pc' := 77) rfl rfl rfl ?_
  refine mi_wp_p (pc' := 78) rfl rfl rfl ?_
  refine mi_wp_p (pc' := 80) rfl rfl rfl ?_
  refine mi_wp_l (l' := [(11, _), (10, _), (9, _), (8, _), (7, _), (6, _), (0, _), (1, _), (2, _), (3, _), (4, _), (5, _)]) rfl ?_
  refine mi_wp_p (pc' := 82) rfl rfl rfl ?_
  refine mi_wp_p (pc' := 85) rfl rfl (mi_br1 (b := false) (t := 122) (by decide +kernel) rfl) ?_
  refine mi_wp_p (pc' := 86) rfl rfl rfl ?_
  refine mi_wp_gf rfl rfl rfl r2 ?_
  refine mi_wp_p (pc' := 90) rfl rfl rfl ?_
  refine mi_wp_gf rfl rfl rfl r1 ?_
  refine mi_wp_p (pc' := 95) rfl rfl rfl ?_
  refine mi_wp_p (pc' := 97) rfl rfl rfl ?_
  refine mi_wp_p (pc' := 99) rfl rfl rfl ?_
  refine mi_wp_p (pc' := 100) rfl rfl rfl ?_
  refine mi_wp_p (pc' := 101) rfl rfl rfl ?_
  refine mi_wp_p (pc' := 104) rfl rfl rfl ?_
  refine mi_wp_p (pc' := 105) rfl rfl rfl ?_
  refine mi_wp_iask rfl rfl a2 (by decide +kernel) ?_
  intro h24 e1 e2 e3 e4 e5
  replace r0 := (e2 _ _ _).trans r0
  replace r1 := (e2 _ _ _).trans r1
  replace r2 := (e2 _ _ _).trans r2
  replace a2 := e1
  replace a1 := (e4 _).trans a1
  replace n99 := (e3 _ (by decide)).trans n99
  clear e1 e2 e3 e4 e5
  refine mi_wp_p (pc' := 107) rfl rfl rfl ?_
  refine mi_wp_p (pc' := 108) rfl rfl rfl ?_
  refine mi_wp_gf rfl rfl rfl r1 ?_
  refine mi_wp_p (pc' := 112) rfl rfl rfl ?_
  refine mi_wp_p (pc' := 113) rfl rfl rfl ?_
  refine mi_wp_pfk rfl rfl rfl r1 mi_fit_int (Or.inl rfl) ?_
  intro h25 e1 e2 e3 e4 e5
  replace r0 := e2 _ _ _ _ r0 (by decide)
  replace r1 := mi_eqi (y := 9) e1 (by decide +kernel)
  replace r2 := e2 _ _ _ _ r2 (by decide)
  replace a2 := (e3 _).trans a2
  replace a1 := (e4 _).trans a1
  replace n99 := (e3 _).trans n99
  clear e1 e2 e3 e4 e5
  refine mi_wp_p (pc' := 119) rfl rfl rfl ?_
  refine mi_wp_p (pc' := 80) rfl rfl rfl ?_
  refine mi_wp_l (l' := [(11, _), (10, _), (9, _), (8, _), (7, _), (6, _), (0, _), (1, _), (2, _), (3, _), (4, _), (5, _)]) rfl ?_
  refine mi_wp_p (pc' := 82) rfl rfl rfl ?_
  refine mi_wp_p (pc' := 85) rfl rfl (mi_br1 (b := false) (t := 122) (by decide +kernel) rfl) ?_
  refine mi_wp_p (pc' := 86) rfl rfl rfl ?_
  refine mi_wp_gf rfl rfl rfl r2 ?_
  refine mi_wp_p (pc' := 90) rfl rfl rfl ?_
  refine mi_wp_gf rfl rfl rfl r1 ?_
  refine mi_wp_p (pc' := 95) rfl rfl rfl ?_
  refine mi_wp_p (pc' := 97) rfl rfl rfl ?_
  refine mi_wp_p (pc' := 99) rfl rfl rfl ?_
  refine mi_wp_p (pc' := 100) rfl rfl rfl ?_
  refine mi_wp_p (pc' := 101) rfl rfl rfl ?_
  refine mi_wp_p (pc' := 104) rfl rfl rfl ?_
  refine mi_wp_p (pc' := 105) rfl rfl rfl ?_
  refine mi_wp_iask rfl rfl a2 (by decide +kernel) ?_
  intro h26 e1 e2 e3 e4 e5
  replace r0 := (e2 _ _ _).trans r0
  replace r1 := (e2 _ _ _).trans r1
  replace r2 := (e2 _ _ _).trans r2
  replace a2 := e1
  replace a1 := (e4 _).trans a1
  replace n99 := (e3 _ (by decide)).trans n99
  clear e1 e2 e3 e4 e5
  refine mi_wp_p (pc' := 107) rfl rfl rfl ?_
  refine mi_wp_p (pc' := 108) rfl rfl rfl ?_
  refine mi_wp_gf rfl rfl rfl r1 ?_
  refine mi_wp_p (pc' := 112) rfl rfl rfl ?_
  refine mi_wp_p (pc' := 113) rfl rfl rfl ?_
  refine mi_wp_pfk rfl rfl rfl r1 mi_fit_int (Or.inl rfl) ?_
  intro h27 e1 e2 e3 e4 e5
  replace r0 := e2 _ _ _ _ r0 (by decide)
  replace r1 := mi_eqi (y := 10) e1 (by decide +kernel)
  replace r2 := e2 _ _ _ _ r2 (by decide)
  replace a2 := (e3 _).trans a2
  replace a1 := (e4 _).trans a1
  replace n99 := (e3 _).trans n99
  clear e1 e2 e3 e4 e5
  refine mi_wp_p (pc' := 119) rfl rfl rfl ?_
  refine mi_wp_p (pc' := 80) rfl rfl rfl ?_
  refine mi_wp_l (l' := [(11, _), (10, _), (9, _), (8, _), (7, _), (6, _), (0, _), (1, _), (2, _), (3, _), (4, _), (5, _)]) rfl ?_
  refine mi_wp_p (pc' := 82) rfl rfl rfl ?_
  refine mi_wp_p (pc' := 85) rfl rfl (mi_br1 (b := false) (t := 122) (by decide +kernel) rfl) ?_
  refine mi_wp_p (pc' := 86) rfl rfl rfl ?_
  refine mi_wp_gf rfl rfl rfl r2 ?_
  refine mi_wp_p (pc' := 90) rfl rfl rfl ?_
  refine mi_wp_gf rfl rfl rfl r1 ?_
  refine mi_wp_p (pc' := 95) rfl rfl rfl ?_
  refine mi_wp_p (pc' := 97) rfl rfl rfl ?_
  refine mi_wp_p (pc' := 99) rfl rfl rfl ?_
  refine mi_wp_p (pc' := 100) rfl rfl rfl ?_
  refine mi_wp_p (pc' := 101) rfl rfl rfl ?_
  refine mi_wp_p (pc' := 104) rfl rfl rfl ?_
  refine mi_wp_p (pc' := 105) rfl rfl rfl ?_
  refine mi_wp_iask rfl rfl a2 (by decide +kernel) ?_
  intro h28 e1 e2 e3 e4 e5
  replace r0 := (e2 _ _ _).trans r0
  replace r1 := (e2 _ _ _).trans r1
  replace r2 := (e2 _ _ _).trans r2
  replace a2 := e1
  replace a1 := (e4 _).trans a1
  replace n99 := (e3 _ (by decide)).trans n99
  clear e1 e2 e3 e4 e5
  refine mi_wp_p (pc' := 107) rfl rfl rfl ?_
  refine mi_wp_p (pc' := 108) rfl rfl rfl ?_
  refine mi_wp_gf rfl rfl rfl r1 ?_
  refine mi_wp_p (pc' := 112) rfl rfl rfl ?_
  refine mi_wp_p (pc' := 113) rfl rfl rfl ?_
  refine mi_wp_pfk rfl rfl rfl r1 mi_fit_int (Or.inl rfl) ?_
  intro h29 e1 e2 e3 e4 e5
  replace r0 := e2 _ _ _ _ r0 (by decide)
  replace r1 := mi_eqi (y := 11) e1 (by decide +kernel)
  replace r2 := e2 _ _ _ _ r2 (by decide)
  replace a2 := (e3 _).trans a2
  replace a1 := (e4 _).trans a1
  replace n99 := (e3 _).trans n99
  clear e1 e2 e3 e4 e5
  refine mi_wp_p (pc' := 119) rfl rfl rfl ?_
  refine mi_wp_p (pc' := 80) rfl rfl rfl ?_
  refine mi_wp_l (l' := [(11, _), (10, _), (9, _), (8, _), (7, _), (6, _), (0, _), (1, _), (2, _), (3, _), (4, _), (5, _)]) rfl ?_
  refine mi_wp_p (pc' := 82) rfl rfl rfl ?_
  refine mi_wp_p (pc' := 85) rfl rfl (mi_br1 (b := false) (t := 122) (by decide +kernel) rfl) ?_
  refine mi_wp_p (pc' := 86) rfl rfl rfl ?_
  refine mi_wp_gf rfl rfl rfl r2 ?_
  refine mi_wp_p (pc' := 90) rfl rfl rfl ?_
  refine mi_wp_gf rfl rfl rfl r1 ?_
  refine mi_wp_p (pc' := 95) rfl rfl rfl ?_
  refine mi_wp_p (pc' := 97) rfl rfl rfl ?_
  refine mi_wp_p (pc' := 99) rfl rfl rfl ?_
  refine mi_wp_p (pc' := 100) rfl rfl rfl ?_
  refine mi_wp_p (pc' := 101) rfl rfl rfl ?_
  refine mi_wp_p (pc' := 104) rfl rfl rfl ?_
  refine mi_wp_p (pc' := 105) rfl rfl rfl ?_
  refine mi_wp_iask rfl rfl a2 (by decide +kernel) ?_
  intro h30 e1 e2 e3 e4 e5
  replace r0 := (e2 _ _ _).trans r0
  replace r1 := (e2 _ _ _).trans r1
  replace r2 := (e2 _ _ _).trans r2
  replace a2 := e1
  replace a1 := (e4 _).trans a1
  replace n99 := (e3 _ (by decide)).trans n99
  clear e1 e2 e3 e4 e5
  refine mi_wp_p (pc' := 107) rfl rfl rfl ?_
  refine mi_wp_p (pc' := 108) rfl rfl rfl ?_
  refine mi_wp_gf rfl rfl rfl r1 ?_
  refine mi_wp_p (pc' := 112) rfl rfl rfl ?_
  refine mi_wp_p (pc' := 113) rfl rfl rfl ?_
  refine mi_wp_pfk rfl rfl rfl r1 mi_fit_int (Or.inl rfl) ?_
  intro h31 e1 e2 e3 e4 e5
  replace r0 := e2 _ _ _ _ r0 (by decide)
  replace r1 := mi_eqi (y := 12) e1 (by decide +kernel)
  replace r2 := e2 _ _ _ _ r2 (by decide)
  replace a2 := (e3 _).trans a2
  replace a1 := (e4 _).trans a1
  replace n99 := (e3 _).trans n99
  clear e1 e2 e3 e4 e5
  refine mi_wp_p (pc' := 119) rfl rfl rfl ?_
  refine mi_wp_p (pc' := 80) rfl rfl rfl ?_
  refine mi_wp_l (l' := [(11, _), (10, _), (9, _), (8, _), (7, _), (6, _), (0, _), (1, _), (2, _), (3, _), (4, _), (5, _)]) rfl ?_
  refine mi_wp_p (pc' := 82) rfl rfl rfl ?_
  refine mi_wp_p (pc' := 122) rfl rfl (mi_br1 (b := true) (t := 122) (by decide +kernel) rfl) ?_
  refine mi_wp_p (pc' := 125) rfl rfl rfl ?_
  refine mi_wp_p (pc' := 63) rfl rfl rfl ?_
  refine mi_wp_l (l' := [(9, _), (11, _), (10, _), (8, _), (7, _), (6, _), (0, _), (1, _), (2, _), (3, _), (4, _), (5, _)]) rfl ?_
  refine mi_wp_p (pc' := 65) rfl rfl rfl ?_
  refine mi_wp_p (pc' := 67) rfl rfl rfl ?_
  refine mi_wp_p (pc' := 70) rfl rfl (mi_br2 (b := false) (t := 128) (by decide +kernel) rfl) ?_
  refine mi_wp_p (pc' := 72) rfl rfl rfl ?_
  refine mi_wp_p (pc' := 74) rfl rfl rfl ?_
  refine mi_wp_ials rfl rfl n99 (by decide +kernel) ?_
  refine mi_wp_p (pc' := 77) rfl rfl rfl ?_
  refine mi_wp_p (pc' := 78) rfl rfl rfl ?_
  refine mi_wp_p (pc' := 80) rfl rfl rfl ?_
  refine mi_wp_l (l' := [(11, _), (10, _), (9, _), (8, _), (7, _), (6, _), (0, _), (1, _), (2, _), (3, _), (4, _), (5, _)]) rfl ?_
  refine mi_wp_p (pc' := 82) rfl rfl rfl ?_
  refine mi_wp_p (pc' := 85) rfl rfl (mi_br1 (b := false) (t := 122) (by decide +kernel) rfl) ?_
  refine mi_wp_p (pc' := 86) rfl rfl rfl ?_
  refine mi_wp_gf rfl rfl rfl r2 ?_
  refine mi_wp_p (pc' := 90) rfl rfl rfl ?_
  refine mi_wp_gf rfl rfl rfl r1 ?_
  refine mi_wp_p (pc' := 95) rfl rfl rfl ?_
  refine mi_wp_p (pc' := 97) rfl rfl rfl ?_
  refine mi_wp_p (pc' := 99) rfl rfl rfl ?_
  refine mi_wp_p (pc' := 100) rfl rfl rfl ?_
  refine mi_wp_p (pc' := 101) rfl rfl rfl ?_
  refine mi_wp_p (pc' := 104) rfl rfl rfl ?_
  refine mi_wp_p (pc' := 105) rfl rfl rfl ?_
  refine mi_wp_iask rfl rfl a2 (by decide +kernel) ?_
  intro h32 e1 e2 e3 e4 e5
  replace r0 := (e2 _ _ _).trans r0
  replace r1 := (e2 _ _ _).trans r1
  replace r2 := (e2 _ _ _).trans r2
  replace a2 := e1
  replace a1 := (e4 _).trans a1
  replace n99 := (e3 _ (by decide)).trans n99
  clear e1 e2 e3 e4 e5
  refine mi_wp_p (pc' := 107) rfl rfl rfl ?_
  refine mi_wp_p (pc' := 108) rfl rfl rfl ?_
  refine mi_wp_gf rfl rfl rfl r1 ?_
  refine mi_wp_p (pc' := 112) rfl rfl rfl ?_
  refine mi_wp_p (pc' := 113) rfl rfl rfl ?_
  refine mi_wp_pfk rfl rfl rfl r1 mi_fit_int (Or.inl rfl) ?_
  intro h33 e1 e2 e3 e4 e5
  replace r0 := e2 _ _ _ _ r0 (by decide)
  replace r1 := mi_eqi (y := 13) e1 (by decide +kernel)
  replace r2 := e2 _ _ _ _ r2 (by decide)
  replace a2 := (e3 _).trans a2
  replace a1 := (e4 _).trans a1
  replace n99 := (e3 _).trans n99
  clear e1 e2 e3 e4 e5
  refine mi_wp_p (pc' := 119) rfl rfl rfl ?_
  refine mi_wp_p (pc' := 80) rfl rfl rfl ?_
  refine mi_wp_l (l' := [(11, _), (10, _), (9, _), (8, _), (7, _), (6, _), (0, _), (1, _), (2, _), (3, _), (4, _), (5, _)]) rfl ?_
  refine mi_wp_p (pc' := 82) rfl rfl rfl ?_
  refine mi_wp_p (pc' := 85) rfl rfl (mi_br1 (b := false) (t := 122) (by decide +kernel) rfl) ?_
  refine mi_wp_p (pc' := 86) rfl rfl rfl ?_
  refine mi_wp_gf rfl rfl rfl r2 ?_
  refine mi_wp_p (pc' := 90) rfl rfl rfl ?_
  refine mi_wp_gf rfl rfl rfl r1 ?_
  refine mi_wp_p (pc' := 95) rfl rfl rfl ?_
  refine mi_wp_p (pc' := 97) rfl rfl rfl ?_
  refine mi_wp_p (pc' := 99) rfl rfl rfl ?_
  refine mi_wp_p (pc' := 100) rfl rfl rfl ?_
  refine mi_wp_p (pc' := 101) rfl rfl rfl ?_
  refine mi_wp_p (pc' := 104) rfl rfl rfl ?_
  refine mi_wp_p (pc' := 105) rfl rfl rfl ?_
  refine mi_wp_iask rfl rfl a2 (by decide +kernel) ?_
  intro h34 e1 e2 e3 e4 e5
  replace r0 := (e2 _ _ _).trans r0
  replace r1 := (e2 _ _ _).trans r1
  replace r2 := (e2 _ _ _).trans r2
  replace a2 := e1
  replace a1 := (e4 _).trans a1
  replace n99 := (e3 _ (by decide)).trans n99
  clear e1 e2 e3 e4 e5
  refine mi_wp_p (pc' := 107) rfl rfl rfl ?_
  refine mi_wp_p (pc' := 108) rfl rfl rfl ?_
  refine mi_wp_gf rfl rfl rfl r1 ?_
  refine mi_wp_p (pc' := 112) rfl rfl rfl ?_
  refine mi_wp_p (pc' := 113) rfl rfl rfl ?_
  refine mi_wp_pfk rfl rfl rfl r1 mi_fit_int (Or.inl rfl) ?_
  intro h35 e1 e2 e3 e4 e5
  replace r0 := e2 _ _ _ _ r0 (by decide)
  replace r1 := mi_eqi (y := 14) e1 (by decide +kernel)
  replace r2 := e2 _ _ _ _ r2 (by decide)
  replace a2 := (e3 _).trans a2
  replace a1 := (e4 _).trans a1
  replace n99 := (e3 _).trans n99
  clear e1 e2 e3 e4 e5
  refine mi_wp_p (pc' := 119) rfl rfl rfl ?_
  refine mi_wp_p (pc' := 80) rfl rfl rfl ?_
  refine mi_wp_l (l' := [(11, _), (10, _), (9, _), (8, _), (7, _), (6, _), (0, _), (1, _), (2, _), (3, _), (4, _), (5, _)]) rfl ?_
  refine mi_wp_p (pc' := 82) rfl rfl rfl ?_
  refine mi_wp_p (pc' := 85) rfl rfl (mi_br1 (b := false) (t := 122) (by decide +kernel) rfl) ?_
  refine mi_wp_p (pc' := 86) rfl rfl rfl ?_
  refine mi_wp_gf rfl rfl rfl r2 ?_
  refine mi_wp_p (pc' := 90) rfl rfl rfl ?_
  refine mi_wp_gf rfl rfl rfl r1 ?_
  refine mi_wp_p (pc' := 95) rfl rfl rfl ?_
  refine mi_wp_p (pc' := 97) rfl rfl rfl ?_
  refine mi_wp_p (pc' := 99) rfl rfl rfl ?_
  refine mi_wp_p (pc' := 100) rfl rfl rfl ?_
  refine mi_wp_p (pc' := 101) rfl rfl rfl ?_
  refine mi_wp_p (pc' := 104) rfl rfl rfl ?_
  refine mi_wp_p (pc' := 105) rfl rfl rfl ?_
  refine mi_wp_iask rfl rfl a2 (by decide +kernel) ?_
  intro h36 e1 e2 e3 e4 e5
  replace r0 := (e2 _ _ _).trans r0
  replace r1 := (e2 _ _ _).trans r1
  replace r2 := (e2 _ _ _).trans r2
  replace a2 := e1
  replace a1 := (e4 _).trans a1
  replace n99 := (e3 _ (by decide)).trans n99
  clear e1 e2 e3 e4 e5
  refine mi_wp_p (pc' := 107) rfl rfl rfl ?_
  refine mi_wp_p (pc' := 108) rfl rfl rfl ?_
  refine mi_wp_gf rfl rfl rfl r1 ?_
  refine mi_wp_p (pc' := 112) rfl rfl rfl ?_
  refine mi_wp_p (pc' := 113) rfl rfl rfl ?_
  refine mi_wp_pfk rfl rfl rfl r1 mi_fit_int (Or.inl rfl) ?_
  intro h37 e1 e2 e3 e4 e5
  replace r0 := e2 _ _ _ _ r0 (by decide)
  replace r1 := mi_eqi (y := 15) e1 (by decide +kernel)
  replace r2 := e2 _ _ _ _ r2 (by decide)
  replace a2 := (e3 _).trans a2
  replace a1 := (e4 _).trans a1
  replace n99 := (e3 _).trans n99
  clear e1 e2 e3 e4 e5
  refine mi_wp_p (pc' := 119) rfl rfl rfl ?_
  refine mi_wp_p (pc' := 80) rfl rfl rfl ?_
  refine mi_wp_l (l' := [(11, _), (10, _), (9, _), (8, _), (7, _), (6, _), (0, _), (1, _), (2, _), (3, _), (4, _), (5, _)]) rfl ?_
  refine mi_wp_p (pc' := 82) rfl rfl rfl ?_
  refine mi_wp_p (pc' := 85) rfl rfl (mi_br1 (b := false) (t := 122) (by decide +kernel) rfl) ?_
  refine mi_wp_p (pc' := 86) rfl rfl rfl ?_
  refine mi_wp_gf rfl rfl rfl r2 ?_
  refine mi_wp_p (pc' := 90) rfl rfl rfl ?_
  refine mi_wp_gf rfl rfl rfl r1 ?_
  refine mi_wp_p (pc' := 95) rfl rfl rfl ?_
  refine mi_wp_p (pc' := 97) rfl rfl rfl ?_
  refine mi_wp_p (pc' := 99) rfl rfl rfl ?_
  refine mi_wp_p (pc' := 100) rfl rfl rfl ?_
  refine mi_wp_p (pc' := 101) rfl rfl rfl ?_
  refine mi_wp_p (pc' := 104) rfl rfl rfl ?_
  refine mi_wp_p (pc' := 105) rfl rfl rfl ?_
  refine mi_wp_iask rfl rfl a2 (by decide +kernel) ?_
  intro h38 e1 e2 e3 e4 e5
  replace r0 := (e2 _ _ _).trans r0
  replace r1 := (e2 _ _ _).trans r1
  replace r2 := (e2 _ _ _).trans r2
  replace a2 := e1
  replace a1 := (e4 _).trans a1
  replace n99 := (e3 _ (by decide)).trans n99
  clear e1 e2 e3 e4 e5
  refine mi_wp_p (pc' := 107) rfl rfl rfl ?_
  refine mi_wp_p (pc' := 108) rfl rfl rfl ?_
  refine mi_wp_gf rfl rfl rfl r1 ?_
  refine mi_wp_p (pc' := 112) rfl rfl rfl ?_
  refine mi_wp_p (pc' := 113) rfl rfl rfl ?_
  refine mi_wp_pfk rfl rfl rfl r1 mi_fit_int (Or.inl rfl) ?_
  intro h39 e1 e2 e3 e4 e5
  replace r0 := e2 _ _ _ _ r0 (by decide)
  replace r1 := mi_eqi (y := 16) e1 (by decide +kernel)
  replace r2 := e2 _ _ _ _ r2 (by decide)
  replace a2 := (e3 _).trans a2
  replace a1 := (e4 _).trans a1
  replace n99 := (e3 _).trans n99
  clear e1 e2 e3 e4 e5
  refine mi_wp_p (pc' := 119) rfl rfl rfl ?_
  refine mi_wp_p (pc' := 80) rfl rfl rfl ?_
  refine mi_wp_l (l' := [(11, _), (10, _), (9, _), (8, _), (7, _), (6, _), (0, _), (1, _), (2, _), (3, _), (4, _), (5, _)]) rfl ?_
  refine mi_wp_p (pc' := 82) rfl rfl rfl ?_
  refine mi_wp_p (pc' := 122) rfl rfl (mi_br1 (b := true) (t := 122) (by decide +kernel) rfl) ?_
  refine mi_wp_p (pc' := 125) rfl rfl rfl ?_
  refine mi_wp_p (pc' := 63) rfl rfl rfl ?_
  refine mi_wp_l (l' := [(9, _), (11, _), (10, _), (8, _), (7, _), (6, _), (0, _), (1, _), (2, _), (3, _), (4, _), (5, _)]) rfl ?_
  refine mi_wp_p (pc' := 65) rfl rfl rfl ?_
  refine mi_wp_p (pc' := 67) rfl rfl rfl ?_
  refine mi_wp_p (pc' := 70) rfl rfl (mi_br2 (b := false) (t := 128) (by decide +kernel) rfl) ?_
  refine mi_wp_p (pc' := 72) rfl rfl rfl ?_
  refine mi_wp_p (pc' := 74) rfl rfl rfl ?_
  refine mi_wp_ials rfl rfl n99 (by decide +kernel) ?_
  refine mi_wp_p (pc' := 77) rfl rfl rfl ?_
  refine mi_wp_p (pc' := 78) rfl rfl rfl ?_
  refine mi_wp_p (pc' := 80) rfl rfl rfl ?_
  refine mi_wp_l (l' := [(11, _), (10, _), (9, _), (8, _), (7, _), (6, _), (0, _), (1, _), (2, _), (3, _), (4, _), (5, _)]) rfl ?_
  refine mi_wp_p (pc' := 82) rfl rfl rfl ?_
  refine mi_wp_p (pc' := 85) rfl rfl (mi_br1 (b := false) (t := 122) (by decide +kernel) rfl) ?_
  refine mi_wp_p (pc' := 86) rfl rfl rfl ?_
  refine mi_wp_gf rfl rfl rfl r2 ?_
  refine mi_wp_p (pc' := 90) rfl rfl rfl ?_
  refine mi_wp_gf rfl rfl rfl r1 ?_
  refine mi_wp_p (pc' := 95) rfl rfl rfl ?_
  refine mi_wp_p (pc' := 97) rfl rfl rfl ?_
  refine mi_wp_p (pc' := 99) rfl rfl rfl ?_
  refine mi_wp_p (pc' := 100) rfl rfl rfl ?_
  refine mi_wp_p (pc' := 101) rfl rfl rfl ?_
  refine mi_wp_p (pc' := 104) rfl rfl rfl ?_
  refine mi_wp_p (pc' := 105) rfl rfl rfl ?_
  refine mi_wp_iask rfl rfl a2 (by decide +kernel) ?_
  intro h40 e1 e2 e3 e4 e5
  replace r0 := (e2 _ _ _).trans r0
  replace r1 := (e2 _ _ _).trans r1
  replace r2 := (e2 _ _ _).trans r2
  replace a2 := e1
  replace a1 := (e4 _).trans a1
  replace n99 := (e3 _ (by decide)).trans n99
  clear e1 e2 e3 e4 e5
  refine mi_wp_p (pc' := 107) rfl rfl rfl ?_
  refine mi_wp_p (pc' := 108) rfl rfl rfl ?_
  refine mi_wp_gf rfl rfl rfl r1 ?_
  refine mi_wp_p (pc' := 112) rfl rfl rfl ?_
  refine mi_wp_p (pc' := 113) rfl rfl rfl ?_
  refine mi_wp_pfk rfl rfl rfl r1 mi_fit_int (Or.inl rfl) ?_
  intro h41 e1 e2 e3 e4 e5
  replace r0 := e2 _ _ _ _ r0 (by decide)
  replace r1 := mi_eqi (y := 17) e1 (by decide +kernel)
  replace r2 := e2 _ _ _ _ r2 (by decide)
  replace a2 := (e3 _).trans a2
  replace a1 := (e4 _).trans a1
  replace n99 := (e3 _).trans n99
  clear e1 e2 e3 e4 e5
  refine mi_wp_p (pc' := 119) rfl rfl rfl ?_
  refine mi_wp_p (pc' := 80) rfl rfl rfl ?_
  refine mi_wp_l (l' := [(11, _), (10, _), (9, _), (8, _), (7, _), (6, _), (0, _), (1, _), (2, _), (3, _), (4, _), (5, _)]) rfl ?_
  refine mi_wp_p (pc' := 82) rfl rfl rfl ?_
  refine mi_wp_p (pc' := 85) rfl rfl (mi_br1 (b := false) (t := 122) (by decide +kernel) rfl) ?_
  refine mi_wp_p (pc' := 86) rfl rfl rfl ?_
  refine mi_wp_gf rfl rfl rfl r2 ?_
  refine mi_wp_p (pc' := 90) rfl rfl rfl ?_
  refine mi_wp_gf rfl rfl rfl r1 ?_
  refine mi_wp_p (pc' := 95) rfl rfl rfl ?_
  refine mi_wp_p (pc' := 97) rfl rfl rfl ?_
  refine mi_wp_p (pc' := 99) rfl rfl rfl ?_
  refine mi_wp_p (pc' := 100) rfl rfl rfl ?_
  refine mi_wp_p (pc' := 101) rfl rfl rfl ?_
  refine mi_wp_p (pc' := 104) rfl rfl rfl ?_
  refine mi_wp_p (pc' := 105) rfl rfl rfl ?_
  refine mi_wp_iask rfl rfl a2 (by decide +kernel) ?_
  intro h42 e1 e2 e3 e4 e5
  replace r0 := (e2 _ _ _).trans r0
  replace r1 := (e2 _ _ _).trans r1
  replace r2 := (e2 _ _ _).trans r2
  replace a2 := e1
  replace a1 := (e4 _).trans a1
  replace n99 := (e3 _ (by decide)).trans n99
  clear e1 e2 e3 e4 e5
  refine mi_wp_p (pc' := 107) rfl rfl rfl ?_
  refine mi_wp_p (pc' := 108) rfl rfl rfl ?_
  refine mi_wp_gf rfl rfl rfl r1 ?_
  refine mi_wp_p (pc' := 112) rfl rfl rfl ?_
  refine mi_wp_p (pc' := 113) rfl rfl rfl ?_
  refine mi_wp_pfk rfl rfl rfl r1 mi_fit_int (Or.inl rfl) ?_
  intro h43 e1 e2 e3 e4 e5
  replace r0 := e2 _ _ _ _ r0 (by decide)
  replace r1 := mi_eqi (y := 18) e1 (by decide +kernel)
  replace r2 := e2 _ _ _ _ r2 (by decide)
  replace a2 := (e3 _).trans a2
  replace a1 := (e4 _).trans a1
  replace n99 := (e3 _).trans n99
  clear e1 e2 e3 e4 e5
  refine mi_wp_p (pc' := 119) rfl rfl rfl ?_
  refine mi_wp_p (pc' := 80) rfl rfl rfl ?_
  refine mi_wp_l (l' := [(11, _), (10, _), (9, _), (8, _), (7, _), (6, _), (0, _), (1, _), (2, _), (3, _), (4, _), (5, _)]) rfl ?_
  refine mi_wp_p (pc' := 82) rfl rfl rfl ?_
  refine mi_wp_p (pc' := 85) rfl rfl (mi_br1 (b := false) (t := 122) (by decide +kernel) rfl) ?_
  refine mi_wp_p (pc' := 86) rfl rfl rfl ?_
  refine mi_wp_gf rfl rfl rfl r2 ?_
  refine mi_wp_p (pc' := 90) rfl rfl rfl ?_
  refine mi_wp_gf rfl rfl rfl r1 ?_
  refine mi_wp_p (pc' := 95) rfl rfl rfl ?_
  refine mi_wp_p (pc' := 97) rfl rfl rfl ?_
  refine mi_wp_p (pc' := 99) rfl rfl rfl ?_
  refine mi_wp_p (pc' := 100) rfl rfl rfl ?_
  refine mi_wp_p (pc' := 101) rfl rfl rfl ?_
  refine mi_wp_p (pc' := 104) rfl rfl rfl ?_
  refine mi_wp_p (pc' := 105) rfl rfl rfl ?_
  refine mi_wp_iask rfl rfl a2 (by decide +kernel) ?_
  intro h44 e1 e2 e3 e4 e5
  replace r0 := (e2 _ _ _).trans r0
  replace r1 := (e2 _ _ _).trans r1
  replace r2 := (e2 _ _ _).trans r2
  replace a2 := e1
  replace a1 := (e4 _).trans a1
  replace n99 := (e3 _ (by decide)).trans n99
  clear e1 e2 e3 e4 e5
  refine mi_wp_p (pc' := 107) rfl rfl rfl ?_
  refine mi_wp_p (pc' := 108) rfl rfl rfl ?_
  refine mi_wp_gf rfl rfl rfl r1 ?_
  refine mi_wp_p (pc' := 112) rfl rfl rfl ?_
  refine mi_wp_p (pc' := 113) rfl rfl rfl ?_
  refine mi_wp_pfk rfl rfl rfl r1 mi_fit_int (Or.inl rfl) ?_
  intro h45 e1 e2 e3 e4 e5
  replace r0 := e2 _ _ _ _ r0 (by decide)
  replace r1 := mi_eqi (y := 19) e1 (by decide +kernel)
  replace r2 := e2 _ _ _ _ r2 (by decide)
  replace a2 := (e3 _).trans a2
  replace a1 := (e4 _).trans a1
  replace n99 := (e3 _).trans n99
  clear e1 e2 e3 e4 e5
  refine mi_wp_p (pc' := 119) rfl rfl rfl ?_
  refine mi_wp_p (pc' := 80) rfl rfl rfl ?_
  refine mi_wp_l (l' := [(11, _), (10, _), (9, _), (8, _), (7, _), (6, _), (0, _), (1, _), (2, _), (3, _), (4, _), (5, _)]) rfl ?_
  refine mi_wp_p (pc' := 82) rfl rfl rfl ?_
  refine mi_wp_p (pc' := 85) rfl rfl (mi_br1 (b := false) (t := 122) (by decide +kernel) rfl) ?_
  refine mi_wp_p (pc' := 86) rfl rfl rfl ?_
  refine mi_wp_gf rfl rfl rfl r2 ?_
  refine mi_wp_p (pc' := 90) rfl rfl rfl ?_
  refine mi_wp_gf rfl rfl rfl r1 ?_
  refine mi_wp_p (pc' := 95) rfl rfl rfl ?_
  refine mi_wp_p (pc' := 97) rfl rfl rfl ?_
  refine mi_wp_p (pc' := 99) rfl rfl rfl ?_
  refine mi_wp_p (pc' := 100) rfl rfl rfl ?_
  refine mi_wp_p (pc' := 101) rfl rfl rfl ?_
  refine mi_wp_p (pc' := 104) rfl rfl rfl ?_
  refine mi_wp_p (pc' := 105) rfl rfl rfl ?_
  refine mi_wp_iask rfl rfl a2 (by decide +kernel) ?_
  intro h46 e1 e2 e3 e4 e5
  replace r0 := (e2 _ _ _).trans r0
  replace r1 := (e2 _ _ _).trans r1
  replace r2 := (e2 _ _ _).trans r2
  replace a2 := e1
  replace a1 := (e4 _).trans a1
  replace n99 := (e3 _ (by decide)).trans n99
  clear e1 e2 e3 e4 e5
  refine mi_wp_p (pc' := 107) rfl rfl rfl ?_
  refine mi_wp_p (pc' := 108) rfl rfl rfl ?_
  refine mi_wp_gf rfl rfl rfl r1 ?_
  refine mi_wp_p (pc' := 112) rfl rfl rfl ?_
  refine mi_wp_p (pc' := 113) rfl rfl rfl ?_
  refine mi_wp_pfk rfl rfl rfl r1 mi_fit_int (Or.inl rfl) ?_
  intro h47 e1 e2 e3 e4 e5
  replace r0 := e2 _ _ _ _ r0 (by decide)
  replace r1 := mi_eqi (y := 20) e1 (by decide +kernel)
  replace r2 := e2 _ _ _ _ r2 (by decide)
  replace a2 := (e3 _).trans a2
  replace a1 := (e4 _).trans a1
  replace n99 := (e3 _).trans n99
  clear e1 e2 e3 e4 e5
  refine mi_wp_p (pc' := 119) rfl rfl rfl ?_
  refine mi_wp_p (pc' := 80) rfl rfl rfl ?_
  refine mi_wp_l (l' := [(11, _), (10, _), (9, _), (8, _), (7, _), (6, _), (0, _), (1, _), (2, _), (3, _), (4, _), (5, _)]) rfl ?_
  refine mi_wp_p (pc' := 82) rfl rfl rfl ?_
  refine mi_wp_p (pc' := 122) rfl rfl (mi_br1 (b := true) (t := 122) (by decide +kernel) rfl) ?_
  refine mi_wp_p (pc' := 125) rfl rfl rfl ?_
  refine mi_wp_p (pc' := 63) rfl rfl rfl ?_
  refine mi_wp_l (l' := [(9, _), (11, _), (10, _), (8, _), (7, _), (6, _), (0, _), (1, _), (2, _), (3, _), (4, _), (5, _)]) rfl ?_
  refine mi_wp_p (pc' := 65) rfl rfl rfl ?_
  refine mi_wp_p (pc' := 67) rfl rfl rfl ?_
  refine mi_wp_p (pc' := 128) rfl rfl (mi_br2 (b := true) (t := 128) (by decide +kernel) rfl) ?_
  refine mi_wp_p (pc' := 129) rfl rfl rfl ?_
  refine mi_wp_gf rfl rfl rfl r1 ?_
  exact mi_wp_r rfl rfl rfl rfl ⟨_, rfl, r0, a1⟩
set_option maxRecDepth 100000 in
theorem mi_L_feed {xs : Nat → Int32} {h : mi_H} {c s : Nat} {x1 x2 x3 x4 x5 : Int32} (q1 : xs 1 = x1) (q2 : xs 2 = x2) (q3 : xs 3 = x3) (q4 : xs 4 = x4) (q5 : xs 5 = x5) {f : Nat → Int64} {g g2 : Nat → Int32} (f0 : mi_fv h 0 10 10 = some (.int 0)) (g1 : mi_fv h 0 10 0 = some (.ref 1)) (r0 : mi_fv h 55 11 0 = some (.int 0)) (r1 : mi_fv h 55 11 2 = some (.int 0)) (r2 : mi_fv h 55 11 1 = some (.ref 56)) (a0 : mi_ai h 1 = some (2, 1200, g)) (a2 : mi_ai h 56 = some (0, 1200, g2)) (a1 : mi_al h 98 = some (1, f)) (hl : h.length = 99) : mi_wp (some (6, xs)) 21 mi_ML 120 [(4, .int (Int32.ofInt 0)), (3, .ref 98), (2, .ref 55), (1, .ref 0), (0, .retAddr 3)] [] h c s (fun z => ∃ h' c' s', z = (.inl (some (.int (Int32.ofInt 1))), h', c', s') ∧ c' ≤ c + 5000 ∧ s' ≤ s + 50000) := by
  refine mi_wp_p (pc' := 121) rfl rfl rfl ?_
  refine mi_wp_p (pc' := 122) rfl rfl rfl ?_
  refine mi_wp_p (pc' := 124) rfl rfl rfl ?_
  refine mi_wp_p (pc' := 125) rfl rfl rfl ?_
  refine mi_wp_p (pc' := 126) rfl rfl rfl ?_
  refine mi_wp_sld rfl rfl (by decide +kernel) (k := 1) (by decide +kernel) q1 ?_
  refine mi_wp_p (pc' := 128) rfl rfl rfl ?_
  refine mi_wp_p (pc' := 130) rfl rfl rfl ?_
  refine mi_wp_p (pc' := 131) rfl rfl rfl ?_
  refine mi_wp_p (pc' := 132) rfl rfl rfl ?_
  refine mi_wp_sld rfl rfl (by decide +kernel) (k := 2) (by decide +kernel) q2 ?_
  refine mi_wp_p (pc' := 134) rfl rfl rfl ?_
  refine mi_wp_p (pc' := 136) rfl rfl rfl ?_
  refine mi_wp_p (pc' := 137) rfl rfl rfl ?_
  refine mi_wp_p (pc' := 138) rfl rfl rfl ?_
  refine mi_wp_sld rfl rfl (by decide +kernel) (k := 3) (by decide +kernel) q3 ?_
  refine mi_wp_p (pc' := 140) rfl rfl rfl ?_
  refine mi_wp_p (pc' := 142) rfl rfl rfl ?_
  refine mi_wp_p (pc' := 143) rfl rfl rfl ?_
  refine mi_wp_p (pc' := 144) rfl rfl rfl ?_
  refine mi_wp_sld rfl rfl (by decide +kernel) (k := 4) (by decide +kernel) q4 ?_
  refine mi_wp_p (pc' := 146) rfl rfl rfl ?_
  refine mi_wp_p (pc' := 148) rfl rfl rfl ?_
  refine mi_wp_p (pc' := 149) rfl rfl rfl ?_
  refine mi_wp_p (pc' := 150) rfl rfl rfl ?_
  refine mi_wp_sld rfl rfl (by decide +kernel) (k := 5) (by decide +kernel) q5 ?_
  refine mi_wp_p (pc' := 152) rfl rfl rfl ?_
  refine mi_wp_ce rfl rfl rfl rfl rfl rfl (mi_cal_s (np := 7) rfl rfl (Or.inr rfl) rfl (Nat.le_of_ble_eq_true rfl) (Nat.le_of_ble_eq_true rfl)) (Nat.le_of_ble_eq_true rfl) (mi_l_feed f0 g1 r0 r1 r2 a0 a2 a1 hl) ?_
  intro h1 q9
  obtain ⟨r0, r1, r2, a2, hl, f1, a1, g9⟩ := q9
  refine mi_wp_p (pc' := 157) rfl rfl rfl ?_
  refine mi_wp_p (pc' := 158) rfl rfl rfl ?_
  refine mi_wp_p (pc' := 159) rfl rfl rfl ?_
  refine mi_wp_p (pc' := 161) rfl rfl rfl ?_
  refine mi_wp_p (pc' := 162) rfl rfl rfl ?_
  refine mi_wp_p (pc' := 163) rfl rfl rfl ?_
  refine mi_wp_sld rfl rfl (by decide +kernel) (k := 1) (by decide +kernel) q1 ?_
  refine mi_wp_p (pc' := 165) rfl rfl rfl ?_
  refine mi_wp_p (pc' := 167) rfl rfl rfl ?_
  refine mi_wp_p (pc' := 168) rfl rfl rfl ?_
  refine mi_wp_p (pc' := 169) rfl rfl rfl ?_
  refine mi_wp_sld rfl rfl (by decide +kernel) (k := 2) (by decide +kernel) q2 ?_
  refine mi_wp_p (pc' := 171) rfl rfl rfl ?_
  refine mi_wp_p (pc' := 173) rfl rfl rfl ?_
  refine mi_wp_p (pc' := 174) rfl rfl rfl ?_
  refine mi_wp_p (pc' := 175) rfl rfl rfl ?_
  refine mi_wp_sld rfl rfl (by decide +kernel) (k := 3) (by decide +kernel) q3 ?_
  refine mi_wp_p (pc' := 177) rfl rfl rfl ?_
  refine mi_wp_p (pc' := 179) rfl rfl rfl ?_
  refine mi_wp_p (pc' := 180) rfl rfl rfl ?_
  refine mi_wp_p (pc' := 181) rfl rfl rfl ?_
  refine mi_wp_sld rfl rfl (by decide +kernel) (k := 4) (by decide +kernel) q4 ?_
  refine mi_wp_p (pc' := 183) rfl rfl rfl ?_
  refine mi_wp_p (pc' := 185) rfl rfl rfl ?_
  refine mi_wp_p (pc' := 186) rfl rfl rfl ?_
  refine mi_wp_p (pc' := 187) rfl rfl rfl ?_
  refine mi_wp_sld rfl rfl (by decide +kernel) (k := 5) (by decide +kernel) q5 ?_
  refine mi_wp_ce rfl rfl rfl rfl rfl rfl (mi_cal_v (np := 5) rfl rfl rfl rfl (Nat.le_of_ble_eq_true rfl) (Nat.le_of_ble_eq_true rfl) (mi_rc_of r0)) (Nat.le_of_ble_eq_true rfl) (mi_r_feed r0 r1 r2 a2 a1 hl) ?_
  intro h2 q9
  obtain ⟨r0, a1⟩ := q9
  have e5 : (Int32.ofInt 5).toNatClampNeg = 5 := by decide +kernel
  refine mi_wp_p (pc' := 193) rfl rfl rfl ?_
  refine mi_wp_p (pc' := 194) rfl rfl rfl ?_
  refine mi_wp_c1 rfl rfl rfl rfl rfl rfl (mi_cal_v (np := 0) rfl rfl rfl rfl (Nat.le_of_ble_eq_true rfl) (Nat.le_of_ble_eq_true rfl) (mi_rc_of r0)) (Nat.le_of_ble_eq_true rfl) (mi_r_thrown r0) ?_
  refine mi_wp_p (pc' := 199) rfl rfl rfl ?_
  refine mi_wp_p (pc' := 204) rfl rfl (mi_br2 (b := true) (t := 204) (by decide +kernel) rfl) ?_
  refine mi_wp_p (pc' := 206) rfl rfl rfl ?_
  refine mi_wp_p (pc' := 209) rfl rfl (mi_br1 (b := false) (t := 221) (by decide +kernel) rfl) ?_
  refine mi_wp_p (pc' := 210) rfl rfl rfl ?_
  refine mi_wp_p (pc' := 211) rfl rfl rfl ?_
  refine mi_wp_laldv rfl rfl a1 (by decide +kernel) (by decide +kernel) g9 ?_
  refine mi_wp_p (pc' := 214) rfl rfl rfl ?_
  refine mi_wp_p (pc' := 215) rfl rfl rfl ?_
  refine mi_wp_p (pc' := 216) rfl rfl rfl ?_
  refine mi_wp_p (pc' := 221) rfl rfl (mi_br1 (b := true) (t := 221) (by decide +kernel) rfl) ?_
  refine mi_wp_p (pc' := 933) rfl rfl rfl ?_
  refine mi_wp_p (pc' := 936) rfl rfl rfl ?_
  refine mi_wp_p (pc' := 23) rfl rfl rfl ?_
  refine mi_wp_p (pc' := 25) rfl rfl rfl ?_
  refine mi_wp_p (pc' := 26) rfl rfl rfl ?_
  refine mi_wp_slen rfl rfl ?_
  refine mi_wp_p (pc' := 29) rfl rfl rfl ?_
  refine mi_wp_p (pc' := 30) rfl rfl rfl ?_
  refine mi_wp_p (pc' := 939) rfl rfl (mi_br2 (b := true) (t := 939) (by decide +kernel) rfl) ?_
  refine mi_wp_p (pc' := 940) rfl rfl rfl ?_
  exact mi_wp_r rfl rfl rfl rfl ⟨_, _, _, rfl, by omega, by omega⟩
end
section
/-! ===== the law, from its switch on, on fresh objects (printed by wip/gen/p1walk.py) ===== -/
set_option maxRecDepth 100000 in
theorem mi_L_write {xs : Nat → Int32} {h : mi_H} {c s : Nat} {x1 : Int32} (q1 : xs 1 = x1) (g0 : mi_fv h 0 10 4 = some (.ref 17)) (f0 : mi_fv h 17 3 14 = some (.int 0)) (r0 : mi_fv h 55 11 0 = some (.int 0)) (r1 : mi_fv h 55 11 34 = some (.int 0))  : mi_wp (some (6, xs)) 21 mi_ML 362 [(4, .int (Int32.ofInt 0)), (3, .ref 98), (2, .ref 55), (1, .ref 0), (0, .retAddr 3)] [] h c s (fun z => ∃ h' c' s', z = (.inl (some (.int (Int32.ofInt 1))), h', c', s') ∧ c' ≤ c + 5000 ∧ s' ≤ s + 50000) := by
  refine mi_wp_p (pc' := 363) rfl rfl rfl ?_
  refine mi_wp_p (pc' := 364) rfl rfl rfl ?_
  refine mi_wp_p (pc' := 366) rfl rfl rfl ?_
  refine mi_wp_p (pc' := 367) rfl rfl rfl ?_
  refine mi_wp_p (pc' := 368) rfl rfl rfl ?_
  refine mi_wp_sld rfl rfl (by decide +kernel) (k := 1) (by decide +kernel) q1 ?_
  refine mi_wp_p (pc' := 370) rfl rfl rfl ?_
  refine mi_wp_c1 rfl rfl rfl rfl rfl rfl (mi_cal_s (np := 3) rfl rfl (Or.inr rfl) rfl (Nat.le_of_ble_eq_true rfl) (Nat.le_of_ble_eq_true rfl)) (Nat.le_of_ble_eq_true rfl) (mi_l_write g0 f0) ?_
  refine mi_wp_p (pc' := 375) rfl rfl rfl ?_
  refine mi_wp_p (pc' := 376) rfl rfl rfl ?_
  refine mi_wp_p (pc' := 377) rfl rfl rfl ?_
  refine mi_wp_p (pc' := 379) rfl rfl rfl ?_
  refine mi_wp_p (pc' := 380) rfl rfl rfl ?_
  refine mi_wp_p (pc' := 381) rfl rfl rfl ?_
  refine mi_wp_sld rfl rfl (by decide +kernel) (k := 1) (by decide +kernel) q1 ?_
  refine mi_wp_ce rfl rfl rfl rfl rfl rfl (mi_cal_v (np := 1) rfl rfl rfl rfl (Nat.le_of_ble_eq_true rfl) (Nat.le_of_ble_eq_true rfl) (mi_rc_of r0)) (Nat.le_of_ble_eq_true rfl) (mi_r_write r0 r1) ?_
  intro h9 q9
  obtain ⟨w, r0, rfl⟩ := q9
  refine mi_wp_p (pc' := 387) rfl rfl rfl ?_
  refine mi_wp_p (pc' := 388) rfl rfl rfl ?_
  refine mi_wp_c1 rfl rfl rfl rfl rfl rfl (mi_cal_v (np := 0) rfl rfl rfl rfl (Nat.le_of_ble_eq_true rfl) (Nat.le_of_ble_eq_true rfl) (mi_rc_of r0)) (Nat.le_of_ble_eq_true rfl) (mi_r_thrown r0) ?_
  refine mi_wp_p (pc' := 393) rfl rfl rfl ?_
  refine mi_wp_p (pc' := 398) rfl rfl (mi_br2 (b := true) (t := 398) (by decide +kernel) rfl) ?_
  refine mi_wp_p (pc' := 400) rfl rfl rfl ?_
  refine mi_wp_p (pc' := 415) rfl rfl (mi_br1 (b := true) (t := 415) (by decide +kernel) rfl) ?_
  refine mi_wp_p (pc' := 933) rfl rfl rfl ?_
  refine mi_wp_p (pc' := 936) rfl rfl rfl ?_
  refine mi_wp_p (pc' := 23) rfl rfl rfl ?_
  refine mi_wp_p (pc' := 25) rfl rfl rfl ?_
  refine mi_wp_p (pc' := 26) rfl rfl rfl ?_
  refine mi_wp_slen rfl rfl ?_
  refine mi_wp_p (pc' := 29) rfl rfl rfl ?_
  refine mi_wp_p (pc' := 30) rfl rfl rfl ?_
  refine mi_wp_p (pc' := 939) rfl rfl (mi_br2 (b := true) (t := 939) (by decide +kernel) rfl) ?_
  refine mi_wp_p (pc' := 940) rfl rfl rfl ?_
  exact mi_wp_r rfl rfl rfl rfl ⟨_, _, _, rfl, by omega, by omega⟩
set_option maxRecDepth 100000 in
theorem mi_L_writeConstructor {xs : Nat → Int32} {h : mi_H} {c s : Nat} {x1 : Int32} (q1 : xs 1 = x1) (g0 : mi_fv h 0 10 4 = some (.ref 17)) (f0 : mi_fv h 17 3 13 = some (.int 2)) (r0 : mi_fv h 55 11 0 = some (.int 0)) (r1 : mi_fv h 55 11 30 = some (.int 2))  : mi_wp (some (6, xs)) 21 mi_ML 418 [(4, .int (Int32.ofInt 0)), (3, .ref 98), (2, .ref 55), (1, .ref 0), (0, .retAddr 3)] [] h c s (fun z => ∃ h' c' s', z = (.inl (some (.int (Int32.ofInt 1))), h', c', s') ∧ c' ≤ c + 5000 ∧ s' ≤ s + 50000) := by
  refine mi_wp_p (pc' := 419) rfl rfl rfl ?_
  refine mi_wp_p (pc' := 420) rfl rfl rfl ?_
  refine mi_wp_p (pc' := 422) rfl rfl rfl ?_
  refine mi_wp_p (pc' := 423) rfl rfl rfl ?_
  refine mi_wp_p (pc' := 424) rfl rfl rfl ?_
  refine mi_wp_sld rfl rfl (by decide +kernel) (k := 1) (by decide +kernel) q1 ?_
  refine mi_wp_p (pc' := 426) rfl rfl rfl ?_
  refine mi_wp_c1 rfl rfl rfl rfl rfl rfl (mi_cal_s (np := 3) rfl rfl (Or.inr rfl) rfl (Nat.le_of_ble_eq_true rfl) (Nat.le_of_ble_eq_true rfl)) (Nat.le_of_ble_eq_true rfl) (mi_l_writeConstructor g0 f0) ?_
  refine mi_wp_p (pc' := 431) rfl rfl rfl ?_
  refine mi_wp_p (pc' := 432) rfl rfl rfl ?_
  refine mi_wp_p (pc' := 433) rfl rfl rfl ?_
  refine mi_wp_p (pc' := 435) rfl rfl rfl ?_
  refine mi_wp_p (pc' := 436) rfl rfl rfl ?_
  refine mi_wp_p (pc' := 437) rfl rfl rfl ?_
  refine mi_wp_sld rfl rfl (by decide +kernel) (k := 1) (by decide +kernel) q1 ?_
  refine mi_wp_ce rfl rfl rfl rfl rfl rfl (mi_cal_v (np := 1) rfl rfl rfl rfl (Nat.le_of_ble_eq_true rfl) (Nat.le_of_ble_eq_true rfl) (mi_rc_of r0)) (Nat.le_of_ble_eq_true rfl) (mi_r_writeConstructor r0 r1) ?_
  intro h9 q9
  obtain ⟨w, r0, rfl⟩ := q9
  refine mi_wp_p (pc' := 443) rfl rfl rfl ?_
  refine mi_wp_p (pc' := 444) rfl rfl rfl ?_
  refine mi_wp_c1 rfl rfl rfl rfl rfl rfl (mi_cal_v (np := 0) rfl rfl rfl rfl (Nat.le_of_ble_eq_true rfl) (Nat.le_of_ble_eq_true rfl) (mi_rc_of r0)) (Nat.le_of_ble_eq_true rfl) (mi_r_thrown r0) ?_
  refine mi_wp_p (pc' := 449) rfl rfl rfl ?_
  refine mi_wp_p (pc' := 454) rfl rfl (mi_br2 (b := true) (t := 454) (by decide +kernel) rfl) ?_
  refine mi_wp_p (pc' := 456) rfl rfl rfl ?_
  refine mi_wp_p (pc' := 471) rfl rfl (mi_br1 (b := true) (t := 471) (by decide +kernel) rfl) ?_
  refine mi_wp_p (pc' := 933) rfl rfl rfl ?_
  refine mi_wp_p (pc' := 936) rfl rfl rfl ?_
  refine mi_wp_p (pc' := 23) rfl rfl rfl ?_
  refine mi_wp_p (pc' := 25) rfl rfl rfl ?_
  refine mi_wp_p (pc' := 26) rfl rfl rfl ?_
  refine mi_wp_slen rfl rfl ?_
  refine mi_wp_p (pc' := 29) rfl rfl rfl ?_
  refine mi_wp_p (pc' := 30) rfl rfl rfl ?_
  refine mi_wp_p (pc' := 939) rfl rfl (mi_br2 (b := true) (t := 939) (by decide +kernel) rfl) ?_
  refine mi_wp_p (pc' := 940) rfl rfl rfl ?_
  exact mi_wp_r rfl rfl rfl rfl ⟨_, _, _, rfl, by omega, by omega⟩
set_option maxRecDepth 100000 in
theorem mi_L_writeAt {xs : Nat → Int32} {h : mi_H} {c s : Nat} {x1 : Int32} (q1 : xs 1 = x1) (g0 : mi_fv h 0 10 5 = some (.ref 26)) (f0 : mi_fv h 26 6 7 = some (.int 0)) (r0 : mi_fv h 55 11 0 = some (.int 0)) (r1 : mi_fv h 55 11 52 = some (.int 0))  : mi_wp (some (6, xs)) 21 mi_ML 474 [(4, .int (Int32.ofInt 0)), (3, .ref 98), (2, .ref 55), (1, .ref 0), (0, .retAddr 3)] [] h c s (fun z => ∃ h' c' s', z = (.inl (some (.int (Int32.ofInt 1))), h', c', s') ∧ c' ≤ c + 5000 ∧ s' ≤ s + 50000) := by
  refine mi_wp_p (pc' := 475) rfl rfl rfl ?_
  refine mi_wp_p (pc' := 476) rfl rfl rfl ?_
  refine mi_wp_p (pc' := 478) rfl rfl rfl ?_
  refine mi_wp_p (pc' := 479) rfl rfl rfl ?_
  refine mi_wp_p (pc' := 480) rfl rfl rfl ?_
  refine mi_wp_sld rfl rfl (by decide +kernel) (k := 1) (by decide +kernel) q1 ?_
  refine mi_wp_p (pc' := 482) rfl rfl rfl ?_
  refine mi_wp_c1 rfl rfl rfl rfl rfl rfl (mi_cal_s (np := 3) rfl rfl (Or.inr rfl) rfl (Nat.le_of_ble_eq_true rfl) (Nat.le_of_ble_eq_true rfl)) (Nat.le_of_ble_eq_true rfl) (mi_l_writeAt g0 f0) ?_
  refine mi_wp_p (pc' := 487) rfl rfl rfl ?_
  refine mi_wp_p (pc' := 488) rfl rfl rfl ?_
  refine mi_wp_p (pc' := 489) rfl rfl rfl ?_
  refine mi_wp_p (pc' := 491) rfl rfl rfl ?_
  refine mi_wp_p (pc' := 492) rfl rfl rfl ?_
  refine mi_wp_p (pc' := 493) rfl rfl rfl ?_
  refine mi_wp_sld rfl rfl (by decide +kernel) (k := 1) (by decide +kernel) q1 ?_
  refine mi_wp_ce rfl rfl rfl rfl rfl rfl (mi_cal_v (np := 1) rfl rfl rfl rfl (Nat.le_of_ble_eq_true rfl) (Nat.le_of_ble_eq_true rfl) (mi_rc_of r0)) (Nat.le_of_ble_eq_true rfl) (mi_r_writeAt r0 r1) ?_
  intro h9 q9
  obtain ⟨w, r0, rfl⟩ := q9
  refine mi_wp_p (pc' := 499) rfl rfl rfl ?_
  refine mi_wp_p (pc' := 500) rfl rfl rfl ?_
  refine mi_wp_c1 rfl rfl rfl rfl rfl rfl (mi_cal_v (np := 0) rfl rfl rfl rfl (Nat.le_of_ble_eq_true rfl) (Nat.le_of_ble_eq_true rfl) (mi_rc_of r0)) (Nat.le_of_ble_eq_true rfl) (mi_r_thrown r0) ?_
  refine mi_wp_p (pc' := 505) rfl rfl rfl ?_
  refine mi_wp_p (pc' := 510) rfl rfl (mi_br2 (b := true) (t := 510) (by decide +kernel) rfl) ?_
  refine mi_wp_p (pc' := 512) rfl rfl rfl ?_
  refine mi_wp_p (pc' := 527) rfl rfl (mi_br1 (b := true) (t := 527) (by decide +kernel) rfl) ?_
  refine mi_wp_p (pc' := 933) rfl rfl rfl ?_
  refine mi_wp_p (pc' := 936) rfl rfl rfl ?_
  refine mi_wp_p (pc' := 23) rfl rfl rfl ?_
  refine mi_wp_p (pc' := 25) rfl rfl rfl ?_
  refine mi_wp_p (pc' := 26) rfl rfl rfl ?_
  refine mi_wp_slen rfl rfl ?_
  refine mi_wp_p (pc' := 29) rfl rfl rfl ?_
  refine mi_wp_p (pc' := 30) rfl rfl rfl ?_
  refine mi_wp_p (pc' := 939) rfl rfl (mi_br2 (b := true) (t := 939) (by decide +kernel) rfl) ?_
  refine mi_wp_p (pc' := 940) rfl rfl rfl ?_
  exact mi_wp_r rfl rfl rfl rfl ⟨_, _, _, rfl, by omega, by omega⟩
set_option maxRecDepth 100000 in
theorem mi_L_byteAt {xs : Nat → Int32} {h : mi_H} {c s : Nat} {x1 : Int32} (q1 : xs 1 = x1) (g0 : mi_fv h 0 10 9 = some (.ref 52)) (f0 : mi_fv h 52 9 5 = some (.int 0)) (r0 : mi_fv h 55 11 0 = some (.int 0)) (r1 : mi_fv h 55 11 9 = some (.int 0))  : mi_wp (some (6, xs)) 21 mi_ML 530 [(4, .int (Int32.ofInt 0)), (3, .ref 98), (2, .ref 55), (1, .ref 0), (0, .retAddr 3)] [] h c s (fun z => ∃ h' c' s', z = (.inl (some (.int (Int32.ofInt 1))), h', c', s') ∧ c' ≤ c + 5000 ∧ s' ≤ s + 50000) := by
  refine mi_wp_p (pc' := 531) rfl rfl rfl ?_
  refine mi_wp_p (pc' := 532) rfl rfl rfl ?_
  refine mi_wp_p (pc' := 534) rfl rfl rfl ?_
  refine mi_wp_p (pc' := 535) rfl rfl rfl ?_
  refine mi_wp_p (pc' := 536) rfl rfl rfl ?_
  refine mi_wp_sld rfl rfl (by decide +kernel) (k := 1) (by decide +kernel) q1 ?_
  refine mi_wp_p (pc' := 538) rfl rfl rfl ?_
  refine mi_wp_c1 rfl rfl rfl rfl rfl rfl (mi_cal_s (np := 3) rfl rfl (Or.inr rfl) rfl (Nat.le_of_ble_eq_true rfl) (Nat.le_of_ble_eq_true rfl)) (Nat.le_of_ble_eq_true rfl) (mi_l_byteAt g0 f0) ?_
  refine mi_wp_p (pc' := 543) rfl rfl rfl ?_
  refine mi_wp_p (pc' := 544) rfl rfl rfl ?_
  refine mi_wp_p (pc' := 545) rfl rfl rfl ?_
  refine mi_wp_p (pc' := 547) rfl rfl rfl ?_
  refine mi_wp_p (pc' := 548) rfl rfl rfl ?_
  refine mi_wp_p (pc' := 549) rfl rfl rfl ?_
  refine mi_wp_sld rfl rfl (by decide +kernel) (k := 1) (by decide +kernel) q1 ?_
  refine mi_wp_ce rfl rfl rfl rfl rfl rfl (mi_cal_v (np := 1) rfl rfl rfl rfl (Nat.le_of_ble_eq_true rfl) (Nat.le_of_ble_eq_true rfl) (mi_rc_of r0)) (Nat.le_of_ble_eq_true rfl) (mi_r_byteAt r0 r1) ?_
  intro h9 q9
  obtain ⟨w, r0, rfl⟩ := q9
  refine mi_wp_p (pc' := 555) rfl rfl rfl ?_
  refine mi_wp_p (pc' := 556) rfl rfl rfl ?_
  refine mi_wp_c1 rfl rfl rfl rfl rfl rfl (mi_cal_v (np := 0) rfl rfl rfl rfl (Nat.le_of_ble_eq_true rfl) (Nat.le_of_ble_eq_true rfl) (mi_rc_of r0)) (Nat.le_of_ble_eq_true rfl) (mi_r_thrown r0) ?_
  refine mi_wp_p (pc' := 561) rfl rfl rfl ?_
  refine mi_wp_p (pc' := 566) rfl rfl (mi_br2 (b := true) (t := 566) (by decide +kernel) rfl) ?_
  refine mi_wp_p (pc' := 568) rfl rfl rfl ?_
  refine mi_wp_p (pc' := 583) rfl rfl (mi_br1 (b := true) (t := 583) (by decide +kernel) rfl) ?_
  refine mi_wp_p (pc' := 933) rfl rfl rfl ?_
  refine mi_wp_p (pc' := 936) rfl rfl rfl ?_
  refine mi_wp_p (pc' := 23) rfl rfl rfl ?_
  refine mi_wp_p (pc' := 25) rfl rfl rfl ?_
  refine mi_wp_p (pc' := 26) rfl rfl rfl ?_
  refine mi_wp_slen rfl rfl ?_
  refine mi_wp_p (pc' := 29) rfl rfl rfl ?_
  refine mi_wp_p (pc' := 30) rfl rfl rfl ?_
  refine mi_wp_p (pc' := 939) rfl rfl (mi_br2 (b := true) (t := 939) (by decide +kernel) rfl) ?_
  refine mi_wp_p (pc' := 940) rfl rfl rfl ?_
  exact mi_wp_r rfl rfl rfl rfl ⟨_, _, _, rfl, by omega, by omega⟩
set_option maxRecDepth 100000 in
theorem mi_L_measure {xs : Nat → Int32} {h : mi_H} {c s : Nat} {x1 x2 : Int32} (q1 : xs 1 = x1) (q2 : xs 2 = x2) (g0 : mi_fv h 0 10 4 = some (.ref 17)) (f0 : mi_fv h 17 3 14 = some (.int 0)) (r0 : mi_fv h 55 11 0 = some (.int 0)) (r1 : mi_fv h 55 11 34 = some (.int 0))  : mi_wp (some (6, xs)) 21 mi_ML 586 [(4, .int (Int32.ofInt 0)), (3, .ref 98), (2, .ref 55), (1, .ref 0), (0, .retAddr 3)] [] h c s (fun z => ∃ h' c' s', z = (.inl (some (.int (Int32.ofInt 1))), h', c', s') ∧ c' ≤ c + 5000 ∧ s' ≤ s + 50000) := by
  refine mi_wp_p (pc' := 587) rfl rfl rfl ?_
  refine mi_wp_p (pc' := 588) rfl rfl rfl ?_
  refine mi_wp_p (pc' := 590) rfl rfl rfl ?_
  refine mi_wp_p (pc' := 591) rfl rfl rfl ?_
  refine mi_wp_p (pc' := 592) rfl rfl rfl ?_
  refine mi_wp_sld rfl rfl (by decide +kernel) (k := 1) (by decide +kernel) q1 ?_
  refine mi_wp_p (pc' := 594) rfl rfl rfl ?_
  refine mi_wp_p (pc' := 596) rfl rfl rfl ?_
  refine mi_wp_p (pc' := 597) rfl rfl rfl ?_
  refine mi_wp_p (pc' := 598) rfl rfl rfl ?_
  refine mi_wp_sld rfl rfl (by decide +kernel) (k := 2) (by decide +kernel) q2 ?_
  refine mi_wp_p (pc' := 600) rfl rfl rfl ?_
  refine mi_wp_c1 rfl rfl rfl rfl rfl rfl (mi_cal_s (np := 4) rfl rfl (Or.inr rfl) rfl (Nat.le_of_ble_eq_true rfl) (Nat.le_of_ble_eq_true rfl)) (Nat.le_of_ble_eq_true rfl) (mi_l_measure g0 f0) ?_
  refine mi_wp_p (pc' := 605) rfl rfl rfl ?_
  refine mi_wp_p (pc' := 606) rfl rfl rfl ?_
  refine mi_wp_p (pc' := 607) rfl rfl rfl ?_
  refine mi_wp_p (pc' := 609) rfl rfl rfl ?_
  refine mi_wp_p (pc' := 610) rfl rfl rfl ?_
  refine mi_wp_p (pc' := 611) rfl rfl rfl ?_
  refine mi_wp_sld rfl rfl (by decide +kernel) (k := 1) (by decide +kernel) q1 ?_
  refine mi_wp_p (pc' := 613) rfl rfl rfl ?_
  refine mi_wp_p (pc' := 615) rfl rfl rfl ?_
  refine mi_wp_p (pc' := 616) rfl rfl rfl ?_
  refine mi_wp_p (pc' := 617) rfl rfl rfl ?_
  refine mi_wp_sld rfl rfl (by decide +kernel) (k := 2) (by decide +kernel) q2 ?_
  refine mi_wp_ce rfl rfl rfl rfl rfl rfl (mi_cal_v (np := 2) rfl rfl rfl rfl (Nat.le_of_ble_eq_true rfl) (Nat.le_of_ble_eq_true rfl) (mi_rc_of r0)) (Nat.le_of_ble_eq_true rfl) (mi_r_measure r0 r1) ?_
  intro h9 q9
  obtain ⟨w, r0, rfl⟩ := q9
  refine mi_wp_p (pc' := 623) rfl rfl rfl ?_
  refine mi_wp_p (pc' := 624) rfl rfl rfl ?_
  refine mi_wp_c1 rfl rfl rfl rfl rfl rfl (mi_cal_v (np := 0) rfl rfl rfl rfl (Nat.le_of_ble_eq_true rfl) (Nat.le_of_ble_eq_true rfl) (mi_rc_of r0)) (Nat.le_of_ble_eq_true rfl) (mi_r_thrown r0) ?_
  refine mi_wp_p (pc' := 629) rfl rfl rfl ?_
  refine mi_wp_p (pc' := 634) rfl rfl (mi_br2 (b := true) (t := 634) (by decide +kernel) rfl) ?_
  refine mi_wp_p (pc' := 636) rfl rfl rfl ?_
  refine mi_wp_p (pc' := 651) rfl rfl (mi_br1 (b := true) (t := 651) (by decide +kernel) rfl) ?_
  refine mi_wp_p (pc' := 933) rfl rfl rfl ?_
  refine mi_wp_p (pc' := 936) rfl rfl rfl ?_
  refine mi_wp_p (pc' := 23) rfl rfl rfl ?_
  refine mi_wp_p (pc' := 25) rfl rfl rfl ?_
  refine mi_wp_p (pc' := 26) rfl rfl rfl ?_
  refine mi_wp_slen rfl rfl ?_
  refine mi_wp_p (pc' := 29) rfl rfl rfl ?_
  refine mi_wp_p (pc' := 30) rfl rfl rfl ?_
  refine mi_wp_p (pc' := 939) rfl rfl (mi_br2 (b := true) (t := 939) (by decide +kernel) rfl) ?_
  refine mi_wp_p (pc' := 940) rfl rfl rfl ?_
  exact mi_wp_r rfl rfl rfl rfl ⟨_, _, _, rfl, by omega, by omega⟩
set_option maxRecDepth 100000 in
theorem mi_L_uses {xs : Nat → Int32} {h : mi_H} {c s : Nat} {x1 x2 : Int32} (q1 : xs 1 = x1) (q2 : xs 2 = x2) (g0 : mi_fv h 0 10 4 = some (.ref 17)) (f0 : mi_fv h 17 3 14 = some (.int 0)) (r0 : mi_fv h 55 11 0 = some (.int 0)) (r1 : mi_fv h 55 11 34 = some (.int 0))  : mi_wp (some (6, xs)) 21 mi_ML 654 [(4, .int (Int32.ofInt 0)), (3, .ref 98), (2, .ref 55), (1, .ref 0), (0, .retAddr 3)] [] h c s (fun z => ∃ h' c' s', z = (.inl (some (.int (Int32.ofInt 1))), h', c', s') ∧ c' ≤ c + 5000 ∧ s' ≤ s + 50000) := by
  refine mi_wp_p (pc' := 655) rfl rfl rfl ?_
  refine mi_wp_p (pc' := 656) rfl rfl rfl ?_
  refine mi_wp_p (pc' := 658) rfl rfl rfl ?_
  refine mi_wp_p (pc' := 659) rfl rfl rfl ?_
  refine mi_wp_p (pc' := 660) rfl rfl rfl ?_
  refine mi_wp_sld rfl rfl (by decide +kernel) (k := 1) (by decide +kernel) q1 ?_
  refine mi_wp_p (pc' := 662) rfl rfl rfl ?_
  refine mi_wp_p (pc' := 664) rfl rfl rfl ?_
  refine mi_wp_p (pc' := 665) rfl rfl rfl ?_
  refine mi_wp_p (pc' := 666) rfl rfl rfl ?_
  refine mi_wp_sld rfl rfl (by decide +kernel) (k := 2) (by decide +kernel) q2 ?_
  refine mi_wp_p (pc' := 668) rfl rfl rfl ?_
  refine mi_wp_c1 rfl rfl rfl rfl rfl rfl (mi_cal_s (np := 4) rfl rfl (Or.inr rfl) rfl (Nat.le_of_ble_eq_true rfl) (Nat.le_of_ble_eq_true rfl)) (Nat.le_of_ble_eq_true rfl) (mi_l_uses g0 f0) ?_
  refine mi_wp_p (pc' := 673) rfl rfl rfl ?_
  refine mi_wp_p (pc' := 674) rfl rfl rfl ?_
  refine mi_wp_p (pc' := 675) rfl rfl rfl ?_
  refine mi_wp_p (pc' := 677) rfl rfl rfl ?_
  refine mi_wp_p (pc' := 678) rfl rfl rfl ?_
  refine mi_wp_p (pc' := 679) rfl rfl rfl ?_
  refine mi_wp_sld rfl rfl (by decide +kernel) (k := 1) (by decide +kernel) q1 ?_
  refine mi_wp_p (pc' := 681) rfl rfl rfl ?_
  refine mi_wp_p (pc' := 683) rfl rfl rfl ?_
  refine mi_wp_p (pc' := 684) rfl rfl rfl ?_
  refine mi_wp_p (pc' := 685) rfl rfl rfl ?_
  refine mi_wp_sld rfl rfl (by decide +kernel) (k := 2) (by decide +kernel) q2 ?_
  refine mi_wp_ce rfl rfl rfl rfl rfl rfl (mi_cal_v (np := 2) rfl rfl rfl rfl (Nat.le_of_ble_eq_true rfl) (Nat.le_of_ble_eq_true rfl) (mi_rc_of r0)) (Nat.le_of_ble_eq_true rfl) (mi_r_uses r0 r1) ?_
  intro h9 q9
  obtain ⟨w, r0, rfl⟩ := q9
  refine mi_wp_p (pc' := 691) rfl rfl rfl ?_
  refine mi_wp_p (pc' := 692) rfl rfl rfl ?_
  refine mi_wp_c1 rfl rfl rfl rfl rfl rfl (mi_cal_v (np := 0) rfl rfl rfl rfl (Nat.le_of_ble_eq_true rfl) (Nat.le_of_ble_eq_true rfl) (mi_rc_of r0)) (Nat.le_of_ble_eq_true rfl) (mi_r_thrown r0) ?_
  refine mi_wp_p (pc' := 697) rfl rfl rfl ?_
  refine mi_wp_p (pc' := 702) rfl rfl (mi_br2 (b := true) (t := 702) (by decide +kernel) rfl) ?_
  refine mi_wp_p (pc' := 704) rfl rfl rfl ?_
  refine mi_wp_p (pc' := 719) rfl rfl (mi_br1 (b := true) (t := 719) (by decide +kernel) rfl) ?_
  refine mi_wp_p (pc' := 933) rfl rfl rfl ?_
  refine mi_wp_p (pc' := 936) rfl rfl rfl ?_
  refine mi_wp_p (pc' := 23) rfl rfl rfl ?_
  refine mi_wp_p (pc' := 25) rfl rfl rfl ?_
  refine mi_wp_p (pc' := 26) rfl rfl rfl ?_
  refine mi_wp_slen rfl rfl ?_
  refine mi_wp_p (pc' := 29) rfl rfl rfl ?_
  refine mi_wp_p (pc' := 30) rfl rfl rfl ?_
  refine mi_wp_p (pc' := 939) rfl rfl (mi_br2 (b := true) (t := 939) (by decide +kernel) rfl) ?_
  refine mi_wp_p (pc' := 940) rfl rfl rfl ?_
  exact mi_wp_r rfl rfl rfl rfl ⟨_, _, _, rfl, by omega, by omega⟩
set_option maxRecDepth 100000 in
theorem mi_L_covers {xs : Nat → Int32} {h : mi_H} {c s : Nat} {x1 x2 : Int32} (q1 : xs 1 = x1) (q2 : xs 2 = x2) (g0 : mi_fv h 0 10 4 = some (.ref 17)) (f0 : mi_fv h 17 3 14 = some (.int 0)) (r0 : mi_fv h 55 11 0 = some (.int 0)) (r1 : mi_fv h 55 11 34 = some (.int 0))  : mi_wp (some (6, xs)) 21 mi_ML 722 [(4, .int (Int32.ofInt 0)), (3, .ref 98), (2, .ref 55), (1, .ref 0), (0, .retAddr 3)] [] h c s (fun z => ∃ h' c' s', z = (.inl (some (.int (Int32.ofInt 1))), h', c', s') ∧ c' ≤ c + 5000 ∧ s' ≤ s + 50000) := by
  refine mi_wp_p (pc' := 723) rfl rfl rfl ?_
  refine mi_wp_p (pc' := 724) rfl rfl rfl ?_
  refine mi_wp_p (pc' := 726) rfl rfl rfl ?_
  refine mi_wp_p (pc' := 727) rfl rfl rfl ?_
  refine mi_wp_p (pc' := 728) rfl rfl rfl ?_
  refine mi_wp_sld rfl rfl (by decide +kernel) (k := 1) (by decide +kernel) q1 ?_
  refine mi_wp_p (pc' := 730) rfl rfl rfl ?_
  refine mi_wp_p (pc' := 732) rfl rfl rfl ?_
  refine mi_wp_p (pc' := 733) rfl rfl rfl ?_
  refine mi_wp_p (pc' := 734) rfl rfl rfl ?_
  refine mi_wp_sld rfl rfl (by decide +kernel) (k := 2) (by decide +kernel) q2 ?_
  refine mi_wp_p (pc' := 736) rfl rfl rfl ?_
  refine mi_wp_c1 rfl rfl rfl rfl rfl rfl (mi_cal_s (np := 4) rfl rfl (Or.inr rfl) rfl (Nat.le_of_ble_eq_true rfl) (Nat.le_of_ble_eq_true rfl)) (Nat.le_of_ble_eq_true rfl) (mi_l_covers g0 f0) ?_
  refine mi_wp_p (pc' := 741) rfl rfl rfl ?_
  refine mi_wp_p (pc' := 742) rfl rfl rfl ?_
  refine mi_wp_p (pc' := 743) rfl rfl rfl ?_
  refine mi_wp_p (pc' := 745) rfl rfl rfl ?_
  refine mi_wp_p (pc' := 746) rfl rfl rfl ?_
  refine mi_wp_p (pc' := 747) rfl rfl rfl ?_
  refine mi_wp_sld rfl rfl (by decide +kernel) (k := 1) (by decide +kernel) q1 ?_
  refine mi_wp_p (pc' := 749) rfl rfl rfl ?_
  refine mi_wp_p (pc' := 751) rfl rfl rfl ?_
  refine mi_wp_p (pc' := 752) rfl rfl rfl ?_
  refine mi_wp_p (pc' := 753) rfl rfl rfl ?_
  refine mi_wp_sld rfl rfl (by decide +kernel) (k := 2) (by decide +kernel) q2 ?_
  refine mi_wp_ce rfl rfl rfl rfl rfl rfl (mi_cal_v (np := 2) rfl rfl rfl rfl (Nat.le_of_ble_eq_true rfl) (Nat.le_of_ble_eq_true rfl) (mi_rc_of r0)) (Nat.le_of_ble_eq_true rfl) (mi_r_covers r0 r1) ?_
  intro h9 q9
  obtain ⟨w, r0, rfl⟩ := q9
  refine mi_wp_p (pc' := 759) rfl rfl rfl ?_
  refine mi_wp_p (pc' := 760) rfl rfl rfl ?_
  refine mi_wp_c1 rfl rfl rfl rfl rfl rfl (mi_cal_v (np := 0) rfl rfl rfl rfl (Nat.le_of_ble_eq_true rfl) (Nat.le_of_ble_eq_true rfl) (mi_rc_of r0)) (Nat.le_of_ble_eq_true rfl) (mi_r_thrown r0) ?_
  refine mi_wp_p (pc' := 765) rfl rfl rfl ?_
  refine mi_wp_p (pc' := 770) rfl rfl (mi_br2 (b := true) (t := 770) (by decide +kernel) rfl) ?_
  refine mi_wp_p (pc' := 772) rfl rfl rfl ?_
  refine mi_wp_p (pc' := 794) rfl rfl (mi_br1 (b := true) (t := 794) (by decide +kernel) rfl) ?_
  refine mi_wp_p (pc' := 933) rfl rfl rfl ?_
  refine mi_wp_p (pc' := 936) rfl rfl rfl ?_
  refine mi_wp_p (pc' := 23) rfl rfl rfl ?_
  refine mi_wp_p (pc' := 25) rfl rfl rfl ?_
  refine mi_wp_p (pc' := 26) rfl rfl rfl ?_
  refine mi_wp_slen rfl rfl ?_
  refine mi_wp_p (pc' := 29) rfl rfl rfl ?_
  refine mi_wp_p (pc' := 30) rfl rfl rfl ?_
  refine mi_wp_p (pc' := 939) rfl rfl (mi_br2 (b := true) (t := 939) (by decide +kernel) rfl) ?_
  refine mi_wp_p (pc' := 940) rfl rfl rfl ?_
  exact mi_wp_r rfl rfl rfl rfl ⟨_, _, _, rfl, by omega, by omega⟩
set_option maxRecDepth 100000 in
theorem mi_L_meet {xs : Nat → Int32} {h : mi_H} {c s : Nat} {x1 x2 : Int32} (q1 : xs 1 = x1) (q2 : xs 2 = x2) (g0 : mi_fv h 0 10 4 = some (.ref 17)) (f0 : mi_fv h 17 3 14 = some (.int 0)) (r0 : mi_fv h 55 11 0 = some (.int 0)) (r1 : mi_fv h 55 11 34 = some (.int 0))  : mi_wp (some (6, xs)) 21 mi_ML 797 [(4, .int (Int32.ofInt 0)), (3, .ref 98), (2, .ref 55), (1, .ref 0), (0, .retAddr 3)] [] h c s (fun z => ∃ h' c' s', z = (.inl (some (.int (Int32.ofInt 1))), h', c', s') ∧ c' ≤ c + 5000 ∧ s' ≤ s + 50000) := by
  refine mi_wp_p (pc' := 798) rfl rfl rfl ?_
  refine mi_wp_p (pc' := 799) rfl rfl rfl ?_
  refine mi_wp_p (pc' := 801) rfl rfl rfl ?_
  refine mi_wp_p (pc' := 802) rfl rfl rfl ?_
  refine mi_wp_p (pc' := 803) rfl rfl rfl ?_
  refine mi_wp_sld rfl rfl (by decide +kernel) (k := 1) (by decide +kernel) q1 ?_
  refine mi_wp_p (pc' := 805) rfl rfl rfl ?_
  refine mi_wp_p (pc' := 807) rfl rfl rfl ?_
  refine mi_wp_p (pc' := 808) rfl rfl rfl ?_
  refine mi_wp_p (pc' := 809) rfl rfl rfl ?_
  refine mi_wp_sld rfl rfl (by decide +kernel) (k := 2) (by decide +kernel) q2 ?_
  refine mi_wp_p (pc' := 811) rfl rfl rfl ?_
  refine mi_wp_c1 rfl rfl rfl rfl rfl rfl (mi_cal_s (np := 4) rfl rfl (Or.inr rfl) rfl (Nat.le_of_ble_eq_true rfl) (Nat.le_of_ble_eq_true rfl)) (Nat.le_of_ble_eq_true rfl) (mi_l_meet g0 f0) ?_
  refine mi_wp_p (pc' := 816) rfl rfl rfl ?_
  refine mi_wp_p (pc' := 817) rfl rfl rfl ?_
  refine mi_wp_p (pc' := 818) rfl rfl rfl ?_
  refine mi_wp_p (pc' := 820) rfl rfl rfl ?_
  refine mi_wp_p (pc' := 821) rfl rfl rfl ?_
  refine mi_wp_p (pc' := 822) rfl rfl rfl ?_
  refine mi_wp_sld rfl rfl (by decide +kernel) (k := 1) (by decide +kernel) q1 ?_
  refine mi_wp_p (pc' := 824) rfl rfl rfl ?_
  refine mi_wp_p (pc' := 826) rfl rfl rfl ?_
  refine mi_wp_p (pc' := 827) rfl rfl rfl ?_
  refine mi_wp_p (pc' := 828) rfl rfl rfl ?_
  refine mi_wp_sld rfl rfl (by decide +kernel) (k := 2) (by decide +kernel) q2 ?_
  refine mi_wp_ce rfl rfl rfl rfl rfl rfl (mi_cal_v (np := 2) rfl rfl rfl rfl (Nat.le_of_ble_eq_true rfl) (Nat.le_of_ble_eq_true rfl) (mi_rc_of r0)) (Nat.le_of_ble_eq_true rfl) (mi_r_meet r0 r1) ?_
  intro h9 q9
  obtain ⟨w, r0, rfl⟩ := q9
  refine mi_wp_p (pc' := 834) rfl rfl rfl ?_
  refine mi_wp_p (pc' := 835) rfl rfl rfl ?_
  refine mi_wp_c1 rfl rfl rfl rfl rfl rfl (mi_cal_v (np := 0) rfl rfl rfl rfl (Nat.le_of_ble_eq_true rfl) (Nat.le_of_ble_eq_true rfl) (mi_rc_of r0)) (Nat.le_of_ble_eq_true rfl) (mi_r_thrown r0) ?_
  refine mi_wp_p (pc' := 840) rfl rfl rfl ?_
  refine mi_wp_p (pc' := 845) rfl rfl (mi_br2 (b := true) (t := 845) (by decide +kernel) rfl) ?_
  refine mi_wp_p (pc' := 847) rfl rfl rfl ?_
  refine mi_wp_p (pc' := 862) rfl rfl (mi_br1 (b := true) (t := 862) (by decide +kernel) rfl) ?_
  refine mi_wp_p (pc' := 933) rfl rfl rfl ?_
  refine mi_wp_p (pc' := 936) rfl rfl rfl ?_
  refine mi_wp_p (pc' := 23) rfl rfl rfl ?_
  refine mi_wp_p (pc' := 25) rfl rfl rfl ?_
  refine mi_wp_p (pc' := 26) rfl rfl rfl ?_
  refine mi_wp_slen rfl rfl ?_
  refine mi_wp_p (pc' := 29) rfl rfl rfl ?_
  refine mi_wp_p (pc' := 30) rfl rfl rfl ?_
  refine mi_wp_p (pc' := 939) rfl rfl (mi_br2 (b := true) (t := 939) (by decide +kernel) rfl) ?_
  refine mi_wp_p (pc' := 940) rfl rfl rfl ?_
  exact mi_wp_r rfl rfl rfl rfl ⟨_, _, _, rfl, by omega, by omega⟩
set_option maxRecDepth 100000 in
theorem mi_L_trim {xs : Nat → Int32} {h : mi_H} {c s : Nat} {x1 : Int32} (q1 : xs 1 = x1) (f0 : mi_fv h 0 10 10 = some (.int 0)) (r0 : mi_fv h 55 11 0 = some (.int 0)) (r1 : mi_fv h 55 11 2 = some (.int 0)) (hne : x1 ≠ 0) : mi_wp (some (6, xs)) 21 mi_ML 224 [(4, .int (Int32.ofInt 0)), (3, .ref 98), (2, .ref 55), (1, .ref 0), (0, .retAddr 3)] [] h c s (fun z => ∃ h' c' s', z = (.inl (some (.int (Int32.ofInt 1))), h', c', s') ∧ c' ≤ c + 5000 ∧ s' ≤ s + 50000) := by
  refine mi_wp_p (pc' := 225) rfl rfl rfl ?_
  refine mi_wp_p (pc' := 226) rfl rfl rfl ?_
  refine mi_wp_p (pc' := 228) rfl rfl rfl ?_
  refine mi_wp_p (pc' := 229) rfl rfl rfl ?_
  refine mi_wp_p (pc' := 230) rfl rfl rfl ?_
  refine mi_wp_sld rfl rfl (by decide +kernel) (k := 1) (by decide +kernel) q1 ?_
  refine mi_wp_p (pc' := 232) rfl rfl rfl ?_
  refine mi_wp_c1 rfl rfl rfl rfl rfl rfl (mi_cal_s (np := 3) rfl rfl (Or.inr rfl) rfl (Nat.le_of_ble_eq_true rfl) (Nat.le_of_ble_eq_true rfl)) (Nat.le_of_ble_eq_true rfl) (mi_l_trim f0 hne) ?_
  refine mi_wp_p (pc' := 237) rfl rfl rfl ?_
  refine mi_wp_p (pc' := 238) rfl rfl rfl ?_
  refine mi_wp_p (pc' := 239) rfl rfl rfl ?_
  refine mi_wp_p (pc' := 241) rfl rfl rfl ?_
  refine mi_wp_p (pc' := 242) rfl rfl rfl ?_
  refine mi_wp_p (pc' := 243) rfl rfl rfl ?_
  refine mi_wp_sld rfl rfl (by decide +kernel) (k := 1) (by decide +kernel) q1 ?_
  refine mi_wp_ce rfl rfl rfl rfl rfl rfl (mi_cal_v (np := 1) rfl rfl rfl rfl (Nat.le_of_ble_eq_true rfl) (Nat.le_of_ble_eq_true rfl) (mi_rc_of r0)) (Nat.le_of_ble_eq_true rfl) (mi_r_trim r0 r1 hne) ?_
  intro h9 q9
  obtain ⟨w, r0, rfl⟩ := q9
  refine mi_wp_p (pc' := 249) rfl rfl rfl ?_
  refine mi_wp_p (pc' := 250) rfl rfl rfl ?_
  refine mi_wp_c1 rfl rfl rfl rfl rfl rfl (mi_cal_v (np := 0) rfl rfl rfl rfl (Nat.le_of_ble_eq_true rfl) (Nat.le_of_ble_eq_true rfl) (mi_rc_of r0)) (Nat.le_of_ble_eq_true rfl) (mi_r_thrown r0) ?_
  refine mi_wp_p (pc' := 255) rfl rfl rfl ?_
  refine mi_wp_p (pc' := 260) rfl rfl (mi_br2 (b := true) (t := 260) (by decide +kernel) rfl) ?_
  refine mi_wp_p (pc' := 262) rfl rfl rfl ?_
  refine mi_wp_p (pc' := 277) rfl rfl (mi_br1 (b := true) (t := 277) (by decide +kernel) rfl) ?_
  refine mi_wp_p (pc' := 933) rfl rfl rfl ?_
  refine mi_wp_p (pc' := 936) rfl rfl rfl ?_
  refine mi_wp_p (pc' := 23) rfl rfl rfl ?_
  refine mi_wp_p (pc' := 25) rfl rfl rfl ?_
  refine mi_wp_p (pc' := 26) rfl rfl rfl ?_
  refine mi_wp_slen rfl rfl ?_
  refine mi_wp_p (pc' := 29) rfl rfl rfl ?_
  refine mi_wp_p (pc' := 30) rfl rfl rfl ?_
  refine mi_wp_p (pc' := 939) rfl rfl (mi_br2 (b := true) (t := 939) (by decide +kernel) rfl) ?_
  refine mi_wp_p (pc' := 940) rfl rfl rfl ?_
  exact mi_wp_r rfl rfl rfl rfl ⟨_, _, _, rfl, by omega, by omega⟩
set_option maxRecDepth 100000 in
theorem mi_L_count {xs : Nat → Int32} {h : mi_H} {c s : Nat} {x1 : Int32} (q1 : xs 1 = x1) (f0 : mi_fv h 0 10 10 = some (.int 0)) (r0 : mi_fv h 55 11 0 = some (.int 0)) (hx : x1 < 0 ∨ Int32.ofInt 5 ≤ x1) (hy : x1 < Int32.ofInt 0 ∨ Int32.ofInt 4 < x1) : mi_wp (some (6, xs)) 21 mi_ML 306 [(4, .int (Int32.ofInt 0)), (3, .ref 98), (2, .ref 55), (1, .ref 0), (0, .retAddr 3)] [] h c s (fun z => ∃ h' c' s', z = (.inl (some (.int (Int32.ofInt 1))), h', c', s') ∧ c' ≤ c + 5000 ∧ s' ≤ s + 50000) := by
  refine mi_wp_p (pc' := 307) rfl rfl rfl ?_
  refine mi_wp_p (pc' := 308) rfl rfl rfl ?_
  refine mi_wp_p (pc' := 310) rfl rfl rfl ?_
  refine mi_wp_p (pc' := 311) rfl rfl rfl ?_
  refine mi_wp_p (pc' := 312) rfl rfl rfl ?_
  refine mi_wp_sld rfl rfl (by decide +kernel) (k := 1) (by decide +kernel) q1 ?_
  refine mi_wp_p (pc' := 314) rfl rfl rfl ?_
  refine mi_wp_c1 rfl rfl rfl rfl rfl rfl (mi_cal_s (np := 3) rfl rfl (Or.inr rfl) rfl (Nat.le_of_ble_eq_true rfl) (Nat.le_of_ble_eq_true rfl)) (Nat.le_of_ble_eq_true rfl) (mi_l_count f0 hx) ?_
  refine mi_wp_p (pc' := 319) rfl rfl rfl ?_
  refine mi_wp_p (pc' := 320) rfl rfl rfl ?_
  refine mi_wp_p (pc' := 321) rfl rfl rfl ?_
  refine mi_wp_p (pc' := 323) rfl rfl rfl ?_
  refine mi_wp_p (pc' := 324) rfl rfl rfl ?_
  refine mi_wp_p (pc' := 325) rfl rfl rfl ?_
  refine mi_wp_sld rfl rfl (by decide +kernel) (k := 1) (by decide +kernel) q1 ?_
  refine mi_wp_ce rfl rfl rfl rfl rfl rfl (mi_cal_v (np := 1) rfl rfl rfl rfl (Nat.le_of_ble_eq_true rfl) (Nat.le_of_ble_eq_true rfl) (mi_rc_of r0)) (Nat.le_of_ble_eq_true rfl) (mi_r_count r0 hy) ?_
  intro h9 q9
  obtain ⟨w, r0, rfl⟩ := q9
  refine mi_wp_p (pc' := 331) rfl rfl rfl ?_
  refine mi_wp_p (pc' := 332) rfl rfl rfl ?_
  refine mi_wp_c1 rfl rfl rfl rfl rfl rfl (mi_cal_v (np := 0) rfl rfl rfl rfl (Nat.le_of_ble_eq_true rfl) (Nat.le_of_ble_eq_true rfl) (mi_rc_of r0)) (Nat.le_of_ble_eq_true rfl) (mi_r_thrown r0) ?_
  refine mi_wp_p (pc' := 337) rfl rfl rfl ?_
  refine mi_wp_p (pc' := 342) rfl rfl (mi_br2 (b := true) (t := 342) (by decide +kernel) rfl) ?_
  refine mi_wp_p (pc' := 344) rfl rfl rfl ?_
  refine mi_wp_p (pc' := 359) rfl rfl (mi_br1 (b := true) (t := 359) (by decide +kernel) rfl) ?_
  refine mi_wp_p (pc' := 933) rfl rfl rfl ?_
  refine mi_wp_p (pc' := 936) rfl rfl rfl ?_
  refine mi_wp_p (pc' := 23) rfl rfl rfl ?_
  refine mi_wp_p (pc' := 25) rfl rfl rfl ?_
  refine mi_wp_p (pc' := 26) rfl rfl rfl ?_
  refine mi_wp_slen rfl rfl ?_
  refine mi_wp_p (pc' := 29) rfl rfl rfl ?_
  refine mi_wp_p (pc' := 30) rfl rfl rfl ?_
  refine mi_wp_p (pc' := 939) rfl rfl (mi_br2 (b := true) (t := 939) (by decide +kernel) rfl) ?_
  refine mi_wp_p (pc' := 940) rfl rfl rfl ?_
  exact mi_wp_r rfl rfl rfl rfl ⟨_, _, _, rfl, by omega, by omega⟩
set_option maxRecDepth 100000 in
theorem mi_L_trim0 {xs : Nat → Int32} {h : mi_H} {c s : Nat} {f : Nat → Int64} (f0 : mi_fv h 0 10 10 = some (.int 0)) (r0 : mi_fv h 55 11 0 = some (.int 0)) (r1 : mi_fv h 55 11 2 = some (.int 0)) (a1 : mi_al h 98 = some (1, f)) (q1 : xs 1 = 0) : mi_wp (some (6, xs)) 21 mi_ML 224 [(4, .int (Int32.ofInt 0)), (3, .ref 98), (2, .ref 55), (1, .ref 0), (0, .retAddr 3)] [] h c s (fun z => ∃ h' c' s', z = (.inl (some (.int (Int32.ofInt 1))), h', c', s') ∧ c' ≤ c + 5000 ∧ s' ≤ s + 50000) := by
  refine mi_wp_p (pc' := 225) rfl rfl rfl ?_
  refine mi_wp_p (pc' := 226) rfl rfl rfl ?_
  refine mi_wp_p (pc' := 228) rfl rfl rfl ?_
  refine mi_wp_p (pc' := 229) rfl rfl rfl ?_
  refine mi_wp_p (pc' := 230) rfl rfl rfl ?_
  refine mi_wp_sld rfl rfl (by decide +kernel) (k := 1) (by decide +kernel) q1 ?_
  refine mi_wp_p (pc' := 232) rfl rfl rfl ?_
  refine mi_wp_ce rfl rfl rfl rfl rfl rfl (mi_cal_s (np := 3) rfl rfl (Or.inr rfl) rfl (Nat.le_of_ble_eq_true rfl) (Nat.le_of_ble_eq_true rfl)) (Nat.le_of_ble_eq_true rfl) (mi_l_trim0 f0 r0 r1 a1) ?_
  intro h1 q9
  obtain ⟨r0, r1, f1, a1, g1⟩ := q9
  refine mi_wp_p (pc' := 237) rfl rfl rfl ?_
  refine mi_wp_p (pc' := 238) rfl rfl rfl ?_
  refine mi_wp_p (pc' := 239) rfl rfl rfl ?_
  refine mi_wp_p (pc' := 241) rfl rfl rfl ?_
  refine mi_wp_p (pc' := 242) rfl rfl rfl ?_
  refine mi_wp_p (pc' := 243) rfl rfl rfl ?_
  refine mi_wp_sld rfl rfl (by decide +kernel) (k := 1) (by decide +kernel) q1 ?_
  refine mi_wp_ce rfl rfl rfl rfl rfl rfl (mi_cal_v (np := 1) rfl rfl rfl rfl (Nat.le_of_ble_eq_true rfl) (Nat.le_of_ble_eq_true rfl) (mi_rc_of r0)) (Nat.le_of_ble_eq_true rfl) (mi_r_trim0 r0 r1 a1) ?_
  intro h2 q9
  obtain ⟨r0, a1⟩ := q9
  refine mi_wp_p (pc' := 249) rfl rfl rfl ?_
  refine mi_wp_p (pc' := 250) rfl rfl rfl ?_
  refine mi_wp_c1 rfl rfl rfl rfl rfl rfl (mi_cal_v (np := 0) rfl rfl rfl rfl (Nat.le_of_ble_eq_true rfl) (Nat.le_of_ble_eq_true rfl) (mi_rc_of r0)) (Nat.le_of_ble_eq_true rfl) (mi_r_thrown r0) ?_
  refine mi_wp_p (pc' := 255) rfl rfl rfl ?_
  refine mi_wp_p (pc' := 260) rfl rfl (mi_br2 (b := true) (t := 260) (by decide +kernel) rfl) ?_
  refine mi_wp_p (pc' := 262) rfl rfl rfl ?_
  refine mi_wp_p (pc' := 265) rfl rfl (mi_br1 (b := false) (t := 277) (by decide +kernel) rfl) ?_
  refine mi_wp_p (pc' := 266) rfl rfl rfl ?_
  refine mi_wp_p (pc' := 267) rfl rfl rfl ?_
  refine mi_wp_laldv rfl rfl a1 (by decide +kernel) (by decide +kernel) g1 ?_
  refine mi_wp_p (pc' := 270) rfl rfl rfl ?_
  refine mi_wp_p (pc' := 271) rfl rfl rfl ?_
  refine mi_wp_p (pc' := 272) rfl rfl rfl ?_
  refine mi_wp_p (pc' := 277) rfl rfl (mi_br1 (b := true) (t := 277) (by decide +kernel) rfl) ?_
  refine mi_wp_p (pc' := 933) rfl rfl rfl ?_
  refine mi_wp_p (pc' := 936) rfl rfl rfl ?_
  refine mi_wp_p (pc' := 23) rfl rfl rfl ?_
  refine mi_wp_p (pc' := 25) rfl rfl rfl ?_
  refine mi_wp_p (pc' := 26) rfl rfl rfl ?_
  refine mi_wp_slen rfl rfl ?_
  refine mi_wp_p (pc' := 29) rfl rfl rfl ?_
  refine mi_wp_p (pc' := 30) rfl rfl rfl ?_
  refine mi_wp_p (pc' := 939) rfl rfl (mi_br2 (b := true) (t := 939) (by decide +kernel) rfl) ?_
  refine mi_wp_p (pc' := 940) rfl rfl rfl ?_
  exact mi_wp_r rfl rfl rfl rfl ⟨_, _, _, rfl, by omega, by omega⟩
set_option maxRecDepth 100000 in
theorem mi_L_count0 {xs : Nat → Int32} {h : mi_H} {c s : Nat} {f : Nat → Int64} (g0 : mi_fv h 0 10 4 = some (.ref 17)) (f0 : mi_fv h 17 3 12 = some (.int 3)) (r0 : mi_fv h 55 11 0 = some (.int 0)) (r1 : mi_fv h 55 11 27 = some (.int 1)) (a1 : mi_al h 98 = some (1, f)) (q1 : xs 1 = 0) : mi_wp (some (6, xs)) 21 mi_ML 306 [(4, .int (Int32.ofInt 0)), (3, .ref 98), (2, .ref 55), (1, .ref 0), (0, .retAddr 3)] [] h c s (fun z => ∃ h' c' s', z = (.inl (some (.int (Int32.ofInt 1))), h', c', s') ∧ c' ≤ c + 5000 ∧ s' ≤ s + 50000) := by
  refine mi_wp_p (pc' := 307) rfl rfl rfl ?_
  refine mi_wp_p (pc' := 308) rfl rfl rfl ?_
  refine mi_wp_p (pc' := 310) rfl rfl rfl ?_
  refine mi_wp_p (pc' := 311) rfl rfl rfl ?_
  refine mi_wp_p (pc' := 312) rfl rfl rfl ?_
  refine mi_wp_sld rfl rfl (by decide +kernel) (k := 1) (by decide +kernel) q1 ?_
  refine mi_wp_p (pc' := 314) rfl rfl rfl ?_
  refine mi_wp_ce rfl rfl rfl rfl rfl rfl (mi_cal_s (np := 3) rfl rfl (Or.inr rfl) rfl (Nat.le_of_ble_eq_true rfl) (Nat.le_of_ble_eq_true rfl)) (Nat.le_of_ble_eq_true rfl) (mi_l_count0 g0 f0 r0 r1 a1) ?_
  intro h1 q9
  obtain ⟨r0, r1, f1, a1, g1⟩ := q9
  refine mi_wp_p (pc' := 319) rfl rfl rfl ?_
  refine mi_wp_p (pc' := 320) rfl rfl rfl ?_
  refine mi_wp_p (pc' := 321) rfl rfl rfl ?_
  refine mi_wp_p (pc' := 323) rfl rfl rfl ?_
  refine mi_wp_p (pc' := 324) rfl rfl rfl ?_
  refine mi_wp_p (pc' := 325) rfl rfl rfl ?_
  refine mi_wp_sld rfl rfl (by decide +kernel) (k := 1) (by decide +kernel) q1 ?_
  refine mi_wp_ce rfl rfl rfl rfl rfl rfl (mi_cal_v (np := 1) rfl rfl rfl rfl (Nat.le_of_ble_eq_true rfl) (Nat.le_of_ble_eq_true rfl) (mi_rc_of r0)) (Nat.le_of_ble_eq_true rfl) (mi_r_count0 r0 r1 a1) ?_
  intro h2 q9
  obtain ⟨r0, a1⟩ := q9
  refine mi_wp_p (pc' := 331) rfl rfl rfl ?_
  refine mi_wp_p (pc' := 332) rfl rfl rfl ?_
  refine mi_wp_c1 rfl rfl rfl rfl rfl rfl (mi_cal_v (np := 0) rfl rfl rfl rfl (Nat.le_of_ble_eq_true rfl) (Nat.le_of_ble_eq_true rfl) (mi_rc_of r0)) (Nat.le_of_ble_eq_true rfl) (mi_r_thrown r0) ?_
  refine mi_wp_p (pc' := 337) rfl rfl rfl ?_
  refine mi_wp_p (pc' := 342) rfl rfl (mi_br2 (b := true) (t := 342) (by decide +kernel) rfl) ?_
  refine mi_wp_p (pc' := 344) rfl rfl rfl ?_
  refine mi_wp_p (pc' := 347) rfl rfl (mi_br1 (b := false) (t := 359) (by decide +kernel) rfl) ?_
  refine mi_wp_p (pc' := 348) rfl rfl rfl ?_
  refine mi_wp_p (pc' := 349) rfl rfl rfl ?_
  refine mi_wp_laldv rfl rfl a1 (by decide +kernel) (by decide +kernel) g1 ?_
  refine mi_wp_p (pc' := 352) rfl rfl rfl ?_
  refine mi_wp_p (pc' := 353) rfl rfl rfl ?_
  refine mi_wp_p (pc' := 354) rfl rfl rfl ?_
  refine mi_wp_p (pc' := 359) rfl rfl (mi_br1 (b := true) (t := 359) (by decide +kernel) rfl) ?_
  refine mi_wp_p (pc' := 933) rfl rfl rfl ?_
  refine mi_wp_p (pc' := 936) rfl rfl rfl ?_
  refine mi_wp_p (pc' := 23) rfl rfl rfl ?_
  refine mi_wp_p (pc' := 25) rfl rfl rfl ?_
  refine mi_wp_p (pc' := 26) rfl rfl rfl ?_
  refine mi_wp_slen rfl rfl ?_
  refine mi_wp_p (pc' := 29) rfl rfl rfl ?_
  refine mi_wp_p (pc' := 30) rfl rfl rfl ?_
  refine mi_wp_p (pc' := 939) rfl rfl (mi_br2 (b := true) (t := 939) (by decide +kernel) rfl) ?_
  refine mi_wp_p (pc' := 940) rfl rfl rfl ?_
  exact mi_wp_r rfl rfl rfl rfl ⟨_, _, _, rfl, by omega, by omega⟩
set_option maxRecDepth 100000 in
theorem mi_L_count1 {xs : Nat → Int32} {h : mi_H} {c s : Nat} {f : Nat → Int64} (g0 : mi_fv h 0 10 4 = some (.ref 17)) (f0 : mi_fv h 17 3 13 = some (.int 2)) (r0 : mi_fv h 55 11 0 = some (.int 0)) (r1 : mi_fv h 55 11 30 = some (.int 2)) (a1 : mi_al h 98 = some (1, f)) (q1 : xs 1 = 1) : mi_wp (some (6, xs)) 21 mi_ML 306 [(4, .int (Int32.ofInt 0)), (3, .ref 98), (2, .ref 55), (1, .ref 0), (0, .retAddr 3)] [] h c s (fun z => ∃ h' c' s', z = (.inl (some (.int (Int32.ofInt 1))), h', c', s') ∧ c' ≤ c + 5000 ∧ s' ≤ s + 50000) := by
  refine mi_wp_p (pc' := 307) rfl rfl rfl ?_
  refine mi_wp_p (pc' := 308) rfl rfl rfl ?_
  refine mi_wp_p (pc' := 310) rfl rfl rfl ?_
  refine mi_wp_p (pc' := 311) rfl rfl rfl ?_
  refine mi_wp_p (pc' := 312) rfl rfl rfl ?_
  refine mi_wp_sld rfl rfl (by decide +kernel) (k := 1) (by decide +kernel) q1 ?_
  refine mi_wp_p (pc' := 314) rfl rfl rfl ?_
  refine mi_wp_ce rfl rfl rfl rfl rfl rfl (mi_cal_s (np := 3) rfl rfl (Or.inr rfl) rfl (Nat.le_of_ble_eq_true rfl) (Nat.le_of_ble_eq_true rfl)) (Nat.le_of_ble_eq_true rfl) (mi_l_count1 g0 f0 r0 r1 a1) ?_
  intro h1 q9
  obtain ⟨r0, r1, f1, a1, g1⟩ := q9
  refine mi_wp_p (pc' := 319) rfl rfl rfl ?_
  refine mi_wp_p (pc' := 320) rfl rfl rfl ?_
  refine mi_wp_p (pc' := 321) rfl rfl rfl ?_
  refine mi_wp_p (pc' := 323) rfl rfl rfl ?_
  refine mi_wp_p (pc' := 324) rfl rfl rfl ?_
  refine mi_wp_p (pc' := 325) rfl rfl rfl ?_
  refine mi_wp_sld rfl rfl (by decide +kernel) (k := 1) (by decide +kernel) q1 ?_
  refine mi_wp_ce rfl rfl rfl rfl rfl rfl (mi_cal_v (np := 1) rfl rfl rfl rfl (Nat.le_of_ble_eq_true rfl) (Nat.le_of_ble_eq_true rfl) (mi_rc_of r0)) (Nat.le_of_ble_eq_true rfl) (mi_r_count1 r0 r1 a1) ?_
  intro h2 q9
  obtain ⟨r0, a1⟩ := q9
  refine mi_wp_p (pc' := 331) rfl rfl rfl ?_
  refine mi_wp_p (pc' := 332) rfl rfl rfl ?_
  refine mi_wp_c1 rfl rfl rfl rfl rfl rfl (mi_cal_v (np := 0) rfl rfl rfl rfl (Nat.le_of_ble_eq_true rfl) (Nat.le_of_ble_eq_true rfl) (mi_rc_of r0)) (Nat.le_of_ble_eq_true rfl) (mi_r_thrown r0) ?_
  refine mi_wp_p (pc' := 337) rfl rfl rfl ?_
  refine mi_wp_p (pc' := 342) rfl rfl (mi_br2 (b := true) (t := 342) (by decide +kernel) rfl) ?_
  refine mi_wp_p (pc' := 344) rfl rfl rfl ?_
  refine mi_wp_p (pc' := 347) rfl rfl (mi_br1 (b := false) (t := 359) (by decide +kernel) rfl) ?_
  refine mi_wp_p (pc' := 348) rfl rfl rfl ?_
  refine mi_wp_p (pc' := 349) rfl rfl rfl ?_
  refine mi_wp_laldv rfl rfl a1 (by decide +kernel) (by decide +kernel) g1 ?_
  refine mi_wp_p (pc' := 352) rfl rfl rfl ?_
  refine mi_wp_p (pc' := 353) rfl rfl rfl ?_
  refine mi_wp_p (pc' := 354) rfl rfl rfl ?_
  refine mi_wp_p (pc' := 359) rfl rfl (mi_br1 (b := true) (t := 359) (by decide +kernel) rfl) ?_
  refine mi_wp_p (pc' := 933) rfl rfl rfl ?_
  refine mi_wp_p (pc' := 936) rfl rfl rfl ?_
  refine mi_wp_p (pc' := 23) rfl rfl rfl ?_
  refine mi_wp_p (pc' := 25) rfl rfl rfl ?_
  refine mi_wp_p (pc' := 26) rfl rfl rfl ?_
  refine mi_wp_slen rfl rfl ?_
  refine mi_wp_p (pc' := 29) rfl rfl rfl ?_
  refine mi_wp_p (pc' := 30) rfl rfl rfl ?_
  refine mi_wp_p (pc' := 939) rfl rfl (mi_br2 (b := true) (t := 939) (by decide +kernel) rfl) ?_
  refine mi_wp_p (pc' := 940) rfl rfl rfl ?_
  exact mi_wp_r rfl rfl rfl rfl ⟨_, _, _, rfl, by omega, by omega⟩
set_option maxRecDepth 100000 in
theorem mi_L_count2 {xs : Nat → Int32} {h : mi_H} {c s : Nat} {f : Nat → Int64} (g0 : mi_fv h 0 10 4 = some (.ref 17)) (f0 : mi_fv h 17 3 14 = some (.int 0)) (r0 : mi_fv h 55 11 0 = some (.int 0)) (r1 : mi_fv h 55 11 34 = some (.int 0)) (a1 : mi_al h 98 = some (1, f)) (q1 : xs 1 = 2) : mi_wp (some (6, xs)) 21 mi_ML 306 [(4, .int (Int32.ofInt 0)), (3, .ref 98), (2, .ref 55), (1, .ref 0), (0, .retAddr 3)] [] h c s (fun z => ∃ h' c' s', z = (.inl (some (.int (Int32.ofInt 1))), h', c', s') ∧ c' ≤ c + 5000 ∧ s' ≤ s + 50000) := by
  refine mi_wp_p (pc' := 307) rfl rfl rfl ?_
  refine mi_wp_p (pc' := 308) rfl rfl rfl ?_
  refine mi_wp_p (pc' := 310) rfl rfl rfl ?_
  refine mi_wp_p (pc' := 311) rfl rfl rfl ?_
  refine mi_wp_p (pc' := 312) rfl rfl rfl ?_
  refine mi_wp_sld rfl rfl (by decide +kernel) (k := 1) (by decide +kernel) q1 ?_
  refine mi_wp_p (pc' := 314) rfl rfl rfl ?_
  refine mi_wp_ce rfl rfl rfl rfl rfl rfl (mi_cal_s (np := 3) rfl rfl (Or.inr rfl) rfl (Nat.le_of_ble_eq_true rfl) (Nat.le_of_ble_eq_true rfl)) (Nat.le_of_ble_eq_true rfl) (mi_l_count2 g0 f0 r0 r1 a1) ?_
  intro h1 q9
  obtain ⟨r0, r1, f1, a1, g1⟩ := q9
  refine mi_wp_p (pc' := 319) rfl rfl rfl ?_
  refine mi_wp_p (pc' := 320) rfl rfl rfl ?_
  refine mi_wp_p (pc' := 321) rfl rfl rfl ?_
  refine mi_wp_p (pc' := 323) rfl rfl rfl ?_
  refine mi_wp_p (pc' := 324) rfl rfl rfl ?_
  refine mi_wp_p (pc' := 325) rfl rfl rfl ?_
  refine mi_wp_sld rfl rfl (by decide +kernel) (k := 1) (by decide +kernel) q1 ?_
  refine mi_wp_ce rfl rfl rfl rfl rfl rfl (mi_cal_v (np := 1) rfl rfl rfl rfl (Nat.le_of_ble_eq_true rfl) (Nat.le_of_ble_eq_true rfl) (mi_rc_of r0)) (Nat.le_of_ble_eq_true rfl) (mi_r_count2 r0 r1 a1) ?_
  intro h2 q9
  obtain ⟨r0, a1⟩ := q9
  refine mi_wp_p (pc' := 331) rfl rfl rfl ?_
  refine mi_wp_p (pc' := 332) rfl rfl rfl ?_
  refine mi_wp_c1 rfl rfl rfl rfl rfl rfl (mi_cal_v (np := 0) rfl rfl rfl rfl (Nat.le_of_ble_eq_true rfl) (Nat.le_of_ble_eq_true rfl) (mi_rc_of r0)) (Nat.le_of_ble_eq_true rfl) (mi_r_thrown r0) ?_
  refine mi_wp_p (pc' := 337) rfl rfl rfl ?_
  refine mi_wp_p (pc' := 342) rfl rfl (mi_br2 (b := true) (t := 342) (by decide +kernel) rfl) ?_
  refine mi_wp_p (pc' := 344) rfl rfl rfl ?_
  refine mi_wp_p (pc' := 347) rfl rfl (mi_br1 (b := false) (t := 359) (by decide +kernel) rfl) ?_
  refine mi_wp_p (pc' := 348) rfl rfl rfl ?_
  refine mi_wp_p (pc' := 349) rfl rfl rfl ?_
  refine mi_wp_laldv rfl rfl a1 (by decide +kernel) (by decide +kernel) g1 ?_
  refine mi_wp_p (pc' := 352) rfl rfl rfl ?_
  refine mi_wp_p (pc' := 353) rfl rfl rfl ?_
  refine mi_wp_p (pc' := 354) rfl rfl rfl ?_
  refine mi_wp_p (pc' := 359) rfl rfl (mi_br1 (b := true) (t := 359) (by decide +kernel) rfl) ?_
  refine mi_wp_p (pc' := 933) rfl rfl rfl ?_
  refine mi_wp_p (pc' := 936) rfl rfl rfl ?_
  refine mi_wp_p (pc' := 23) rfl rfl rfl ?_
  refine mi_wp_p (pc' := 25) rfl rfl rfl ?_
  refine mi_wp_p (pc' := 26) rfl rfl rfl ?_
  refine mi_wp_slen rfl rfl ?_
  refine mi_wp_p (pc' := 29) rfl rfl rfl ?_
  refine mi_wp_p (pc' := 30) rfl rfl rfl ?_
  refine mi_wp_p (pc' := 939) rfl rfl (mi_br2 (b := true) (t := 939) (by decide +kernel) rfl) ?_
  refine mi_wp_p (pc' := 940) rfl rfl rfl ?_
  exact mi_wp_r rfl rfl rfl rfl ⟨_, _, _, rfl, by omega, by omega⟩
set_option maxRecDepth 100000 in
theorem mi_L_count3 {xs : Nat → Int32} {h : mi_H} {c s : Nat} {f : Nat → Int64} (f0 : mi_fv h 0 10 10 = some (.int 0)) (r0 : mi_fv h 55 11 0 = some (.int 0)) (r1 : mi_fv h 55 11 2 = some (.int 0)) (a1 : mi_al h 98 = some (1, f)) (q1 : xs 1 = 3) : mi_wp (some (6, xs)) 21 mi_ML 306 [(4, .int (Int32.ofInt 0)), (3, .ref 98), (2, .ref 55), (1, .ref 0), (0, .retAddr 3)] [] h c s (fun z => ∃ h' c' s', z = (.inl (some (.int (Int32.ofInt 1))), h', c', s') ∧ c' ≤ c + 5000 ∧ s' ≤ s + 50000) := by
  refine mi_wp_p (pc' := 307) rfl rfl rfl ?_
  refine mi_wp_p (pc' := 308) rfl rfl rfl ?_
  refine mi_wp_p (pc' := 310) rfl rfl rfl ?_
  refine mi_wp_p (pc' := 311) rfl rfl rfl ?_
  refine mi_wp_p (pc' := 312) rfl rfl rfl ?_
  refine mi_wp_sld rfl rfl (by decide +kernel) (k := 1) (by decide +kernel) q1 ?_
  refine mi_wp_p (pc' := 314) rfl rfl rfl ?_
  refine mi_wp_ce rfl rfl rfl rfl rfl rfl (mi_cal_s (np := 3) rfl rfl (Or.inr rfl) rfl (Nat.le_of_ble_eq_true rfl) (Nat.le_of_ble_eq_true rfl)) (Nat.le_of_ble_eq_true rfl) (mi_l_count3 f0 r0 r1 a1) ?_
  intro h1 q9
  obtain ⟨r0, r1, f1, a1, g1⟩ := q9
  refine mi_wp_p (pc' := 319) rfl rfl rfl ?_
  refine mi_wp_p (pc' := 320) rfl rfl rfl ?_
  refine mi_wp_p (pc' := 321) rfl rfl rfl ?_
  refine mi_wp_p (pc' := 323) rfl rfl rfl ?_
  refine mi_wp_p (pc' := 324) rfl rfl rfl ?_
  refine mi_wp_p (pc' := 325) rfl rfl rfl ?_
  refine mi_wp_sld rfl rfl (by decide +kernel) (k := 1) (by decide +kernel) q1 ?_
  refine mi_wp_ce rfl rfl rfl rfl rfl rfl (mi_cal_v (np := 1) rfl rfl rfl rfl (Nat.le_of_ble_eq_true rfl) (Nat.le_of_ble_eq_true rfl) (mi_rc_of r0)) (Nat.le_of_ble_eq_true rfl) (mi_r_count3 r0 r1 a1) ?_
  intro h2 q9
  obtain ⟨r0, a1⟩ := q9
  refine mi_wp_p (pc' := 331) rfl rfl rfl ?_
  refine mi_wp_p (pc' := 332) rfl rfl rfl ?_
  refine mi_wp_c1 rfl rfl rfl rfl rfl rfl (mi_cal_v (np := 0) rfl rfl rfl rfl (Nat.le_of_ble_eq_true rfl) (Nat.le_of_ble_eq_true rfl) (mi_rc_of r0)) (Nat.le_of_ble_eq_true rfl) (mi_r_thrown r0) ?_
  refine mi_wp_p (pc' := 337) rfl rfl rfl ?_
  refine mi_wp_p (pc' := 342) rfl rfl (mi_br2 (b := true) (t := 342) (by decide +kernel) rfl) ?_
  refine mi_wp_p (pc' := 344) rfl rfl rfl ?_
  refine mi_wp_p (pc' := 347) rfl rfl (mi_br1 (b := false) (t := 359) (by decide +kernel) rfl) ?_
  refine mi_wp_p (pc' := 348) rfl rfl rfl ?_
  refine mi_wp_p (pc' := 349) rfl rfl rfl ?_
  refine mi_wp_laldv rfl rfl a1 (by decide +kernel) (by decide +kernel) g1 ?_
  refine mi_wp_p (pc' := 352) rfl rfl rfl ?_
  refine mi_wp_p (pc' := 353) rfl rfl rfl ?_
  refine mi_wp_p (pc' := 354) rfl rfl rfl ?_
  refine mi_wp_p (pc' := 359) rfl rfl (mi_br1 (b := true) (t := 359) (by decide +kernel) rfl) ?_
  refine mi_wp_p (pc' := 933) rfl rfl rfl ?_
  refine mi_wp_p (pc' := 936) rfl rfl rfl ?_
  refine mi_wp_p (pc' := 23) rfl rfl rfl ?_
  refine mi_wp_p (pc' := 25) rfl rfl rfl ?_
  refine mi_wp_p (pc' := 26) rfl rfl rfl ?_
  refine mi_wp_slen rfl rfl ?_
  refine mi_wp_p (pc' := 29) rfl rfl rfl ?_
  refine mi_wp_p (pc' := 30) rfl rfl rfl ?_
  refine mi_wp_p (pc' := 939) rfl rfl (mi_br2 (b := true) (t := 939) (by decide +kernel) rfl) ?_
  refine mi_wp_p (pc' := 940) rfl rfl rfl ?_
  exact mi_wp_r rfl rfl rfl rfl ⟨_, _, _, rfl, by omega, by omega⟩
set_option maxRecDepth 100000 in
theorem mi_L_count4 {xs : Nat → Int32} {h : mi_H} {c s : Nat} {f : Nat → Int64} (g0 : mi_fv h 0 10 9 = some (.ref 52)) (f0 : mi_fv h 52 9 5 = some (.int 0)) (r0 : mi_fv h 55 11 0 = some (.int 0)) (r1 : mi_fv h 55 11 9 = some (.int 0)) (a1 : mi_al h 98 = some (1, f)) (q1 : xs 1 = 4) : mi_wp (some (6, xs)) 21 mi_ML 306 [(4, .int (Int32.ofInt 0)), (3, .ref 98), (2, .ref 55), (1, .ref 0), (0, .retAddr 3)] [] h c s (fun z => ∃ h' c' s', z = (.inl (some (.int (Int32.ofInt 1))), h', c', s') ∧ c' ≤ c + 5000 ∧ s' ≤ s + 50000) := by
  refine mi_wp_p (pc' := 307) rfl rfl rfl ?_
  refine mi_wp_p (pc' := 308) rfl rfl rfl ?_
  refine mi_wp_p (pc' := 310) rfl rfl rfl ?_
  refine mi_wp_p (pc' := 311) rfl rfl rfl ?_
  refine mi_wp_p (pc' := 312) rfl rfl rfl ?_
  refine mi_wp_sld rfl rfl (by decide +kernel) (k := 1) (by decide +kernel) q1 ?_
  refine mi_wp_p (pc' := 314) rfl rfl rfl ?_
  refine mi_wp_ce rfl rfl rfl rfl rfl rfl (mi_cal_s (np := 3) rfl rfl (Or.inr rfl) rfl (Nat.le_of_ble_eq_true rfl) (Nat.le_of_ble_eq_true rfl)) (Nat.le_of_ble_eq_true rfl) (mi_l_count4 g0 f0 r0 r1 a1) ?_
  intro h1 q9
  obtain ⟨r0, r1, f1, a1, g1⟩ := q9
  refine mi_wp_p (pc' := 319) rfl rfl rfl ?_
  refine mi_wp_p (pc' := 320) rfl rfl rfl ?_
  refine mi_wp_p (pc' := 321) rfl rfl rfl ?_
  refine mi_wp_p (pc' := 323) rfl rfl rfl ?_
  refine mi_wp_p (pc' := 324) rfl rfl rfl ?_
  refine mi_wp_p (pc' := 325) rfl rfl rfl ?_
  refine mi_wp_sld rfl rfl (by decide +kernel) (k := 1) (by decide +kernel) q1 ?_
  refine mi_wp_ce rfl rfl rfl rfl rfl rfl (mi_cal_v (np := 1) rfl rfl rfl rfl (Nat.le_of_ble_eq_true rfl) (Nat.le_of_ble_eq_true rfl) (mi_rc_of r0)) (Nat.le_of_ble_eq_true rfl) (mi_r_count4 r0 r1 a1) ?_
  intro h2 q9
  obtain ⟨r0, a1⟩ := q9
  refine mi_wp_p (pc' := 331) rfl rfl rfl ?_
  refine mi_wp_p (pc' := 332) rfl rfl rfl ?_
  refine mi_wp_c1 rfl rfl rfl rfl rfl rfl (mi_cal_v (np := 0) rfl rfl rfl rfl (Nat.le_of_ble_eq_true rfl) (Nat.le_of_ble_eq_true rfl) (mi_rc_of r0)) (Nat.le_of_ble_eq_true rfl) (mi_r_thrown r0) ?_
  refine mi_wp_p (pc' := 337) rfl rfl rfl ?_
  refine mi_wp_p (pc' := 342) rfl rfl (mi_br2 (b := true) (t := 342) (by decide +kernel) rfl) ?_
  refine mi_wp_p (pc' := 344) rfl rfl rfl ?_
  refine mi_wp_p (pc' := 347) rfl rfl (mi_br1 (b := false) (t := 359) (by decide +kernel) rfl) ?_
  refine mi_wp_p (pc' := 348) rfl rfl rfl ?_
  refine mi_wp_p (pc' := 349) rfl rfl rfl ?_
  refine mi_wp_laldv rfl rfl a1 (by decide +kernel) (by decide +kernel) g1 ?_
  refine mi_wp_p (pc' := 352) rfl rfl rfl ?_
  refine mi_wp_p (pc' := 353) rfl rfl rfl ?_
  refine mi_wp_p (pc' := 354) rfl rfl rfl ?_
  refine mi_wp_p (pc' := 359) rfl rfl (mi_br1 (b := true) (t := 359) (by decide +kernel) rfl) ?_
  refine mi_wp_p (pc' := 933) rfl rfl rfl ?_
  refine mi_wp_p (pc' := 936) rfl rfl rfl ?_
  refine mi_wp_p (pc' := 23) rfl rfl rfl ?_
  refine mi_wp_p (pc' := 25) rfl rfl rfl ?_
  refine mi_wp_p (pc' := 26) rfl rfl rfl ?_
  refine mi_wp_slen rfl rfl ?_
  refine mi_wp_p (pc' := 29) rfl rfl rfl ?_
  refine mi_wp_p (pc' := 30) rfl rfl rfl ?_
  refine mi_wp_p (pc' := 939) rfl rfl (mi_br2 (b := true) (t := 939) (by decide +kernel) rfl) ?_
  refine mi_wp_p (pc' := 940) rfl rfl rfl ?_
  exact mi_wp_r rfl rfl rfl rfl ⟨_, _, _, rfl, by omega, by omega⟩
set_option maxRecDepth 100000 in
theorem mi_L_compile {xs : Nat → Int32} {h : mi_H} {c s : Nat} {h3 h4 : mi_H} {c1 s1 c2 s2 : Nat} (f0 : mi_fv h 0 10 10 = some (.int 0)) (r0 : mi_fv h3 55 11 0 = some (.int 0)) (k1 : mi_wp (some (6, xs)) 20 mi_M5 0 [(0, .ref 0)] [] h 0 0 (fun z => z = (.inl (some (.int 1)), h3, c1, s1))) (k2 : mi_wp (some (6, xs)) 20 mi_M92 0 [(0, .ref 55)] [] h3 0 0 (fun z => z = (.inl (some (.int 1)), h4, c2, s2))) (b1 : c1 ≤ 1000) (b2 : c2 ≤ 1000) (b3 : s1 ≤ 10000) (b4 : s2 ≤ 10000) : mi_wp (some (6, xs)) 21 mi_ML 280 [(4, .int (Int32.ofInt 0)), (3, .ref 98), (2, .ref 55), (1, .ref 0), (0, .retAddr 3)] [] h c s (fun z => ∃ h' c' s', z = (.inl (some (.int (Int32.ofInt 1))), h', c', s') ∧ c' ≤ c + 5000 ∧ s' ≤ s + 50000) := by
  refine mi_wp_p (pc' := 281) rfl rfl rfl ?_
  refine mi_wp_c1 rfl rfl rfl rfl rfl rfl (mi_cal_v (np := 0) rfl rfl rfl rfl (Nat.le_of_ble_eq_true rfl) (Nat.le_of_ble_eq_true rfl) (mi_rc_of f0)) (Nat.le_of_ble_eq_true rfl) k1 ?_
  refine mi_wp_p (pc' := 285) rfl rfl rfl ?_
  refine mi_wp_c1 rfl rfl rfl rfl rfl rfl (mi_cal_v (np := 0) rfl rfl rfl rfl (Nat.le_of_ble_eq_true rfl) (Nat.le_of_ble_eq_true rfl) (mi_rc_of r0)) (Nat.le_of_ble_eq_true rfl) k2 ?_
  refine mi_wp_p (pc' := 933) rfl rfl (mi_br2 (b := true) (t := 933) (by decide +kernel) rfl) ?_
  refine mi_wp_p (pc' := 936) rfl rfl rfl ?_
  refine mi_wp_p (pc' := 23) rfl rfl rfl ?_
  refine mi_wp_p (pc' := 25) rfl rfl rfl ?_
  refine mi_wp_p (pc' := 26) rfl rfl rfl ?_
  refine mi_wp_slen rfl rfl ?_
  refine mi_wp_p (pc' := 29) rfl rfl rfl ?_
  refine mi_wp_p (pc' := 30) rfl rfl rfl ?_
  refine mi_wp_p (pc' := 939) rfl rfl (mi_br2 (b := true) (t := 939) (by decide +kernel) rfl) ?_
  refine mi_wp_p (pc' := 940) rfl rfl rfl ?_
  exact mi_wp_r rfl rfl rfl rfl ⟨_, _, _, rfl, by omega, by omega⟩
set_option maxRecDepth 100000 in
theorem mi_L_errorAt {xs : Nat → Int32} {h : mi_H} {c s : Nat} {h3 h4 : mi_H} {c1 s1 c2 s2 : Nat} (f0 : mi_fv h 0 10 10 = some (.int 0)) (r0 : mi_fv h3 55 11 0 = some (.int 0)) (k1 : mi_wp (some (6, xs)) 20 mi_M9 0 [(0, .ref 0)] [] h 0 0 (fun z => z = (.inl (some (.int (-1))), h3, c1, s1))) (k2 : mi_wp (some (6, xs)) 20 mi_M97 0 [(0, .ref 55)] [] h3 0 0 (fun z => z = (.inl (some (.int (-1))), h4, c2, s2))) (b1 : c1 ≤ 1000) (b2 : c2 ≤ 1000) (b3 : s1 ≤ 10000) (b4 : s2 ≤ 10000) : mi_wp (some (6, xs)) 21 mi_ML 293 [(4, .int (Int32.ofInt 0)), (3, .ref 98), (2, .ref 55), (1, .ref 0), (0, .retAddr 3)] [] h c s (fun z => ∃ h' c' s', z = (.inl (some (.int (Int32.ofInt 1))), h', c', s') ∧ c' ≤ c + 5000 ∧ s' ≤ s + 50000) := by
  refine mi_wp_p (pc' := 294) rfl rfl rfl ?_
  refine mi_wp_c1 rfl rfl rfl rfl rfl rfl (mi_cal_v (np := 0) rfl rfl rfl rfl (Nat.le_of_ble_eq_true rfl) (Nat.le_of_ble_eq_true rfl) (mi_rc_of f0)) (Nat.le_of_ble_eq_true rfl) k1 ?_
  refine mi_wp_p (pc' := 298) rfl rfl rfl ?_
  refine mi_wp_c1 rfl rfl rfl rfl rfl rfl (mi_cal_v (np := 0) rfl rfl rfl rfl (Nat.le_of_ble_eq_true rfl) (Nat.le_of_ble_eq_true rfl) (mi_rc_of r0)) (Nat.le_of_ble_eq_true rfl) k2 ?_
  refine mi_wp_p (pc' := 933) rfl rfl (mi_br2 (b := true) (t := 933) (by decide +kernel) rfl) ?_
  refine mi_wp_p (pc' := 936) rfl rfl rfl ?_
  refine mi_wp_p (pc' := 23) rfl rfl rfl ?_
  refine mi_wp_p (pc' := 25) rfl rfl rfl ?_
  refine mi_wp_p (pc' := 26) rfl rfl rfl ?_
  refine mi_wp_slen rfl rfl ?_
  refine mi_wp_p (pc' := 29) rfl rfl rfl ?_
  refine mi_wp_p (pc' := 30) rfl rfl rfl ?_
  refine mi_wp_p (pc' := 939) rfl rfl (mi_br2 (b := true) (t := 939) (by decide +kernel) rfl) ?_
  refine mi_wp_p (pc' := 940) rfl rfl rfl ?_
  exact mi_wp_r rfl rfl rfl rfl ⟨_, _, _, rfl, by omega, by omega⟩
set_option maxRecDepth 100000 in
theorem mi_L_ask {xs : Nat → Int32} {h : mi_H} {c s : Nat} {h3 h4 : mi_H} {c1 s1 c2 s2 : Nat} (f0 : mi_fv h 0 10 10 = some (.int 0)) (r0 : mi_fv h3 55 11 0 = some (.int 0)) (k1 : mi_wp (some (6, xs)) 20 mi_M3 0 [(0, .ref 0)] [] h 0 0 (fun z => z = (.inl (some (.int 1)), h3, c1, s1))) (k2 : mi_wp (some (6, xs)) 20 mi_M88 0 [(0, .ref 55)] [] h3 0 0 (fun z => z = (.inl (some (.int 1)), h4, c2, s2))) (b1 : c1 ≤ 1000) (b2 : c2 ≤ 1000) (b3 : s1 ≤ 10000) (b4 : s2 ≤ 10000) : mi_wp (some (6, xs)) 21 mi_ML 865 [(4, .int (Int32.ofInt 0)), (3, .ref 98), (2, .ref 55), (1, .ref 0), (0, .retAddr 3)] [] h c s (fun z => ∃ h' c' s', z = (.inl (some (.int (Int32.ofInt 1))), h', c', s') ∧ c' ≤ c + 5000 ∧ s' ≤ s + 50000) := by
  refine mi_wp_p (pc' := 866) rfl rfl rfl ?_
  refine mi_wp_c1 rfl rfl rfl rfl rfl rfl (mi_cal_v (np := 0) rfl rfl rfl rfl (Nat.le_of_ble_eq_true rfl) (Nat.le_of_ble_eq_true rfl) (mi_rc_of f0)) (Nat.le_of_ble_eq_true rfl) k1 ?_
  refine mi_wp_p (pc' := 870) rfl rfl rfl ?_
  refine mi_wp_c1 rfl rfl rfl rfl rfl rfl (mi_cal_v (np := 0) rfl rfl rfl rfl (Nat.le_of_ble_eq_true rfl) (Nat.le_of_ble_eq_true rfl) (mi_rc_of r0)) (Nat.le_of_ble_eq_true rfl) k2 ?_
  refine mi_wp_p (pc' := 933) rfl rfl (mi_br2 (b := true) (t := 933) (by decide +kernel) rfl) ?_
  refine mi_wp_p (pc' := 936) rfl rfl rfl ?_
  refine mi_wp_p (pc' := 23) rfl rfl rfl ?_
  refine mi_wp_p (pc' := 25) rfl rfl rfl ?_
  refine mi_wp_p (pc' := 26) rfl rfl rfl ?_
  refine mi_wp_slen rfl rfl ?_
  refine mi_wp_p (pc' := 29) rfl rfl rfl ?_
  refine mi_wp_p (pc' := 30) rfl rfl rfl ?_
  refine mi_wp_p (pc' := 939) rfl rfl (mi_br2 (b := true) (t := 939) (by decide +kernel) rfl) ?_
  refine mi_wp_p (pc' := 940) rfl rfl rfl ?_
  exact mi_wp_r rfl rfl rfl rfl ⟨_, _, _, rfl, by omega, by omega⟩
set_option maxRecDepth 100000 in
theorem mi_L_meanParts {xs : Nat → Int32} {h : mi_H} {c s : Nat} {h3 h4 : mi_H} {c1 s1 c2 s2 : Nat} (f0 : mi_fv h 0 10 10 = some (.int 0)) (r0 : mi_fv h3 55 11 0 = some (.int 0)) (k1 : mi_wp (some (6, xs)) 20 mi_M12 0 [(0, .ref 0)] [] h 0 0 (fun z => z = (.inl (some (.double 0)), h3, c1, s1))) (k2 : mi_wp (some (6, xs)) 20 mi_M113 0 [(0, .ref 55)] [] h3 0 0 (fun z => z = (.inl (some (.double 0)), h4, c2, s2))) (b1 : c1 ≤ 1000) (b2 : c2 ≤ 1000) (b3 : s1 ≤ 10000) (b4 : s2 ≤ 10000) : mi_wp (some (6, xs)) 21 mi_ML 878 [(4, .int (Int32.ofInt 0)), (3, .ref 98), (2, .ref 55), (1, .ref 0), (0, .retAddr 3)] [] h c s (fun z => ∃ h' c' s', z = (.inl (some (.int (Int32.ofInt 1))), h', c', s') ∧ c' ≤ c + 5000 ∧ s' ≤ s + 50000) := by
  refine mi_wp_p (pc' := 879) rfl rfl rfl ?_
  refine mi_wp_c1 rfl rfl rfl rfl rfl rfl (mi_cal_v (np := 0) rfl rfl rfl rfl (Nat.le_of_ble_eq_true rfl) (Nat.le_of_ble_eq_true rfl) (mi_rc_of f0)) (Nat.le_of_ble_eq_true rfl) k1 ?_
  refine mi_wp_p (pc' := 884) rfl rfl rfl ?_
  refine mi_wp_p (pc' := 885) rfl rfl rfl ?_
  refine mi_wp_c1 rfl rfl rfl rfl rfl rfl (mi_cal_v (np := 0) rfl rfl rfl rfl (Nat.le_of_ble_eq_true rfl) (Nat.le_of_ble_eq_true rfl) (mi_rc_of r0)) (Nat.le_of_ble_eq_true rfl) k2 ?_
  refine mi_wp_p (pc' := 890) rfl rfl rfl ?_
  refine mi_wp_p (pc' := 892) rfl rfl rfl ?_
  refine mi_wp_p (pc' := 894) rfl rfl rfl ?_
  refine mi_wp_p (pc' := 895) rfl rfl rfl ?_
  refine mi_wp_p (pc' := 916) rfl rfl (mi_br1 (b := true) (t := 916) (by decide +kernel) rfl) ?_
  refine mi_wp_p (pc' := 933) rfl rfl rfl ?_
  refine mi_wp_p (pc' := 936) rfl rfl rfl ?_
  refine mi_wp_p (pc' := 23) rfl rfl rfl ?_
  refine mi_wp_p (pc' := 25) rfl rfl rfl ?_
  refine mi_wp_p (pc' := 26) rfl rfl rfl ?_
  refine mi_wp_slen rfl rfl ?_
  refine mi_wp_p (pc' := 29) rfl rfl rfl ?_
  refine mi_wp_p (pc' := 30) rfl rfl rfl ?_
  refine mi_wp_p (pc' := 939) rfl rfl (mi_br2 (b := true) (t := 939) (by decide +kernel) rfl) ?_
  refine mi_wp_p (pc' := 940) rfl rfl rfl ?_
  exact mi_wp_r rfl rfl rfl rfl ⟨_, _, _, rfl, by omega, by omega⟩
set_option maxRecDepth 100000 in
theorem mi_L_digest {xs : Nat → Int32} {h : mi_H} {c s : Nat} {h3 h4 : mi_H} {c1 s1 c2 s2 : Nat} (f0 : mi_fv h 0 10 10 = some (.int 0)) (r0 : mi_fv h3 55 11 0 = some (.int 0)) (k1 : mi_wp (some (6, xs)) 20 mi_M8 0 [(0, .ref 0)] [] h 0 0 (fun z => z = (.inl (some (.long 11709322759)), h3, c1, s1))) (k2 : mi_wp (some (6, xs)) 20 mi_M96 0 [(0, .ref 55)] [] h3 0 0 (fun z => z = (.inl (some (.long 11709322759)), h4, c2, s2))) (b1 : c1 ≤ 1000) (b2 : c2 ≤ 1000) (b3 : s1 ≤ 10000) (b4 : s2 ≤ 10000) : mi_wp (some (6, xs)) 21 mi_ML 919 [(4, .int (Int32.ofInt 0)), (3, .ref 98), (2, .ref 55), (1, .ref 0), (0, .retAddr 3)] [] h c s (fun z => ∃ h' c' s', z = (.inl (some (.int (Int32.ofInt 1))), h', c', s') ∧ c' ≤ c + 5000 ∧ s' ≤ s + 50000) := by
  refine mi_wp_p (pc' := 920) rfl rfl rfl ?_
  refine mi_wp_c1 rfl rfl rfl rfl rfl rfl (mi_cal_v (np := 0) rfl rfl rfl rfl (Nat.le_of_ble_eq_true rfl) (Nat.le_of_ble_eq_true rfl) (mi_rc_of f0)) (Nat.le_of_ble_eq_true rfl) k1 ?_
  refine mi_wp_p (pc' := 924) rfl rfl rfl ?_
  refine mi_wp_c1 rfl rfl rfl rfl rfl rfl (mi_cal_v (np := 0) rfl rfl rfl rfl (Nat.le_of_ble_eq_true rfl) (Nat.le_of_ble_eq_true rfl) (mi_rc_of r0)) (Nat.le_of_ble_eq_true rfl) k2 ?_
  refine mi_wp_p (pc' := 928) rfl rfl rfl ?_
  refine mi_wp_p (pc' := 933) rfl rfl (mi_br1 (b := true) (t := 933) (by decide +kernel) rfl) ?_
  refine mi_wp_p (pc' := 936) rfl rfl rfl ?_
  refine mi_wp_p (pc' := 23) rfl rfl rfl ?_
  refine mi_wp_p (pc' := 25) rfl rfl rfl ?_
  refine mi_wp_p (pc' := 26) rfl rfl rfl ?_
  refine mi_wp_slen rfl rfl ?_
  refine mi_wp_p (pc' := 29) rfl rfl rfl ?_
  refine mi_wp_p (pc' := 30) rfl rfl rfl ?_
  refine mi_wp_p (pc' := 939) rfl rfl (mi_br2 (b := true) (t := 939) (by decide +kernel) rfl) ?_
  refine mi_wp_p (pc' := 940) rfl rfl rfl ?_
  exact mi_wp_r rfl rfl rfl rfl ⟨_, _, _, rfl, by omega, by omega⟩
end
section
/-! ===== a run over cells of which some are not known is a run over all cells that agree with the known ones ===== -/
/-- a cell that is not known: no instruction reads it -/
def mi_du : va_E := .inl (9, 0, .inr (.inr (.inr (.inr (fun _ => none)))))
def mi_lq (h g : mi_H) : Prop := h.length = g.length ∧ ∀ k : Nat, h[k]? = g[k]? ∨ h[k]? = some mi_du
/-- behind a step: h', g' agree likewise, and what was not known is as it was -/
def mi_kp (h g h' g' : mi_H) : Prop := mi_lq h' g' ∧ ∀ k : Nat, h[k]? = some mi_du → g'[k]? = g[k]? ∧ h'[k]? = some mi_du
theorem mi_kp_rf {h g : mi_H} (q : mi_lq h g) : mi_kp h g h g := ⟨q, fun _ e => ⟨rfl, e⟩⟩
theorem mi_kp_tr {h g h' g' h2 g2 : mi_H} (a : mi_kp h g h' g') (b : mi_kp h' g' h2 g2) : mi_kp h g h2 g2 := ⟨b.1, fun k e => ⟨(b.2 k (a.2 k e).2).1.trans (a.2 k e).1, (b.2 k (a.2 k e).2).2⟩⟩
theorem mi_du_r {o : Nat × List Value} : (.inr o : va_E) ≠ mi_du := fun e => by cases e
theorem mi_du_i {t n : Nat} {f : Nat → Int32} : (.inl (t, n, .inl f) : va_E) ≠ mi_du := fun e => by cases e
theorem mi_du_l {t n : Nat} {f : Nat → Int64} : (.inl (t, n, .inr (.inl f)) : va_E) ≠ mi_du := fun e => by cases e
theorem mi_lq_r {h g : mi_H} {k : Nat} {e : va_E} (q : mi_lq h g) (he : h[k]? = some e) (hd : e ≠ mi_du) : g[k]? = some e := by
  rcases q.2 k with h1 | h1
  · rw [← h1]; exact he
  · rw [he] at h1
    cases h1
    exact absurd rfl hd
theorem mi_lq_set {h g : mi_H} {k : Nat} {e0 e : va_E} (q : mi_lq h g) (he : h[k]? = some e0) (hd : e0 ≠ mi_du) : mi_kp h g (h.set k e) (g.set k e) := by
  have hg := mi_lq_r q he hd
  refine ⟨⟨by rw [List.length_set, List.length_set]; exact q.1, fun j => ?_⟩, fun j hj => ?_⟩
  · by_cases hk : k = j
    · subst hk
      rw [mi_set_eq he, mi_set_eq hg]
      exact Or.inl rfl
    · rw [mi_set_ne hk, mi_set_ne hk]
      exact q.2 j
  · have hk : k ≠ j := fun e => by
      subst e
      rw [he] at hj
      cases hj
      exact hd rfl
    rw [mi_set_ne hk, mi_set_ne hk]
    exact ⟨rfl, hj⟩
theorem mi_lq_app {h g : mi_H} {e : va_E} (q : mi_lq h g) : mi_kp h g (h ++ [e]) (g ++ [e]) := by
  refine ⟨⟨by simp [q.1], fun j => ?_⟩, fun j hj => ?_⟩
  · by_cases hj : j < h.length
    · rw [List.getElem?_append_left hj, List.getElem?_append_left (by rw [← q.1]; exact hj)]
      exact q.2 j
    · rw [List.getElem?_append_right (Nat.le_of_not_lt hj), List.getElem?_append_right (by rw [← q.1]; exact Nat.le_of_not_lt hj), q.1]
      exact Or.inl rfl
  · have h1 := (List.getElem?_eq_some_iff.mp hj).1
    rw [List.getElem?_append_left h1, List.getElem?_append_left (by rw [← q.1]; exact h1)]
    exact ⟨rfl, hj⟩
section MLE
variable {X : mi_X} {M : mi_M} {i : Instr} {pc c s : Nat} {st : List Value} {h g : mi_H} {z : Nat × List Value × mi_H × Nat × Nat}
theorem mi_gf_le {ci j k : Nat} {r : List Value} (q : mi_lq h g) (hh : mi_gf ci j k pc r h c s = some z) : ∃ g', mi_gf ci j k pc r g c s = some (z.1, z.2.1, g', z.2.2.2) ∧ mi_kp h g z.2.2.1 g' := by
  unfold mi_gf at hh ⊢
  split at hh
  next o ho =>
    have hg := mi_lq_r q ho mi_du_r
    rw [hg]
    split at hh
    next hc =>
      split at hh
      next v hv => cases hh; exact ⟨g, (if_pos hc).trans (by rw [hv]), mi_kp_rf q⟩
      next => cases hh
    next => cases hh
  next => cases hh
theorem mi_gs_le {j k : Nat} {r : List Value} (q : mi_lq h g) (hh : mi_gs j k pc r h c s = some z) : ∃ g', mi_gs j k pc r g c s = some (z.1, z.2.1, g', z.2.2.2) ∧ mi_kp h g z.2.2.1 g' := by
  unfold mi_gs at hh ⊢
  split at hh
  next hA =>
    split at hh
    next hB => cases hh; exact ⟨g, (if_pos hA).trans (if_pos hB), mi_kp_rf q⟩
    next hB =>
      split at hh
      next hC => cases hh; exact ⟨g, (if_pos hA).trans ((if_neg hB).trans (if_pos hC)), mi_kp_rf q⟩
      next => cases hh
  next => cases hh
theorem mi_getf_le {o idx : Nat} (q : mi_lq h g) (hh : mi_getf o idx pc st h c s = some z) : ∃ g', mi_getf o idx pc st g c s = some (z.1, z.2.1, g', z.2.2.2) ∧ mi_kp h g z.2.2.1 g' := by
  unfold mi_getf at hh ⊢
  split at hh
  next k r =>
    split at hh
    next x hx =>
      try simp only [hx]
      exact mi_gf_le q hh
    next hx =>
      split at hh
      next x hx2 =>
        try simp only [hx, hx2]
        exact mi_gf_le q hh
      next => cases hh
  next k r =>
    split at hh
    next j hj =>
      try simp only [hj]
      exact mi_gs_le q hh
    next => cases hh
  next => cases hh
theorem mi_pf_le {ci j k : Nat} {v : Value} {r : List Value} (q : mi_lq h g) (hh : mi_pf M ci j k pc v r h c s = some z) : ∃ g', mi_pf M ci j k pc v r g c s = some (z.1, z.2.1, g', z.2.2.2) ∧ mi_kp h g z.2.2.1 g' := by
  unfold mi_pf at hh ⊢
  split at hh
  next o ho =>
    have hg := mi_lq_r q ho mi_du_r
    rw [hg]
    split at hh
    next hc => cases hh; exact ⟨_, if_pos hc, mi_lq_set q ho mi_du_r⟩
    next => cases hh
  next => cases hh
theorem mi_putf_le {idx : Nat} (q : mi_lq h g) (hh : mi_putf M idx pc st h c s = some z) : ∃ g', mi_putf M idx pc st g c s = some (z.1, z.2.1, g', z.2.2.2) ∧ mi_kp h g z.2.2.1 g' := by
  unfold mi_putf at hh ⊢
  split at hh
  next v k r =>
    split at hh
    next x hx =>
      try simp only [hx]
      exact mi_pf_le q hh
    next => cases hh
  next => cases hh
theorem mi_ald_lq {t : Nat} (q : mi_lq h g) (hh : mi_ald t pc st h c s = some z) : (∃ g', mi_ald t pc st g c s = some (z.1, z.2.1, g', z.2.2.2) ∧ mi_kp h g z.2.2.1 g') ∧ ∀ t', mi_ald t' pc st h c s = none → mi_ald t' pc st g c s = none := by
  unfold mi_ald at hh ⊢
  split at hh
  next j k r =>
    split at hh
    next t' n f ho =>
      have hg := mi_lq_r q ho mi_du_i
      refine ⟨?_, fun t2 h2 => ?_⟩
      · rw [hg]
        split at hh
        next hc => cases hh; exact ⟨g, if_pos hc, mi_kp_rf q⟩
        next => cases hh
      · try dsimp only at h2 ⊢
        rw [hg]
        by_cases hc : t' = t2 ∧ mi_inb j n = true
        · have h2' := (if_pos hc).symm.trans h2
          cases h2'
        · exact if_neg hc
    next => cases hh
  next => cases hh
theorem mi_sld_le (q : mi_lq h g) (hh : mi_sld X pc st h c s = some z) : (∃ g', mi_sld X pc st g c s = some (z.1, z.2.1, g', z.2.2.2) ∧ mi_kp h g z.2.2.1 g') ∧ ∀ t', mi_ald t' pc st g c s = none := by
  unfold mi_sld at hh ⊢
  split at hh
  next x j k r =>
    split at hh
    next hA => cases hh; exact ⟨⟨g, if_pos hA, mi_kp_rf q⟩, fun _ => rfl⟩
    next => cases hh
  next => cases hh
theorem mi_bld_le (q : mi_lq h g) (hh : mi_bld pc st h c s = some z) : (∃ g', mi_bld pc st g c s = some (z.1, z.2.1, g', z.2.2.2) ∧ mi_kp h g z.2.2.1 g') ∧ ∀ t', mi_ald t' pc st g c s = none := by
  unfold mi_bld at hh ⊢
  split at hh
  next j k r =>
    split at hh
    next hA => cases hh; exact ⟨⟨g, if_pos hA, mi_kp_rf q⟩, fun _ => rfl⟩
    next => cases hh
  next => cases hh
theorem mi_lald_le (q : mi_lq h g) (hh : mi_lald pc st h c s = some z) : ∃ g', mi_lald pc st g c s = some (z.1, z.2.1, g', z.2.2.2) ∧ mi_kp h g z.2.2.1 g' := by
  unfold mi_lald at hh ⊢
  split at hh
  next j k r =>
    split at hh
    next t' n f ho =>
      have hg := mi_lq_r q ho mi_du_l
      rw [hg]
      split at hh
      next hc => cases hh; exact ⟨g, if_pos hc, mi_kp_rf q⟩
      next => cases hh
    next => cases hh
  next => cases hh
theorem mi_qld_le (q : mi_lq h g) (hh : mi_qld pc st h c s = some z) : ∃ g', mi_qld pc st g c s = some (z.1, z.2.1, g', z.2.2.2) ∧ mi_kp h g z.2.2.1 g' := by
  unfold mi_qld at hh ⊢
  split at hh
  next j k r =>
    split at hh
    next hA => cases hh; exact ⟨g, if_pos hA, mi_kp_rf q⟩
    next => cases hh
  next => cases hh
theorem mi_ast_lq {t : Nat} {f' : Int32 → Int32} (q : mi_lq h g) (hh : mi_ast t f' pc st h c s = some z) : (∃ g', mi_ast t f' pc st g c s = some (z.1, z.2.1, g', z.2.2.2) ∧ mi_kp h g z.2.2.1 g') ∧ ∀ t' f2, mi_ast t' f2 pc st h c s = none → mi_ast t' f2 pc st g c s = none := by
  unfold mi_ast at hh ⊢
  split at hh
  next x j k r =>
    split at hh
    next t' n f ho =>
      have hg := mi_lq_r q ho mi_du_i
      refine ⟨?_, fun t2 f2 h2 => ?_⟩
      · rw [hg]
        split at hh
        next hc => cases hh; exact ⟨_, if_pos hc, mi_lq_set q ho mi_du_i⟩
        next => cases hh
      · try dsimp only at h2 ⊢
        rw [hg]
        by_cases hc : t' = t2 ∧ mi_inb j n = true
        · have h2' := (if_pos hc).symm.trans h2
          cases h2'
        · exact if_neg hc
    next => cases hh
  next => cases hh
theorem mi_last_le (q : mi_lq h g) (hh : mi_last pc st h c s = some z) : ∃ g', mi_last pc st g c s = some (z.1, z.2.1, g', z.2.2.2) ∧ mi_kp h g z.2.2.1 g' := by
  unfold mi_last at hh ⊢
  split at hh
  next x j k r =>
    split at hh
    next t' n f ho =>
      have hg := mi_lq_r q ho mi_du_l
      rw [hg]
      split at hh
      next hc => cases hh; exact ⟨_, if_pos hc, mi_lq_set q ho mi_du_l⟩
      next => cases hh
    next => cases hh
  next => cases hh
theorem mi_alen_le (q : mi_lq h g) (hh : mi_alen X pc st h c s = some z) : ∃ g', mi_alen X pc st g c s = some (z.1, z.2.1, g', z.2.2.2) ∧ mi_kp h g z.2.2.1 g' := by
  unfold mi_alen at hh ⊢
  split at hh
  next k r =>
    split at hh
    next t' n f ho =>
      have hg := mi_lq_r q ho mi_du_i
      rw [hg]
      split at hh
      next hc => cases hh; exact ⟨g, if_pos hc, mi_kp_rf q⟩
      next => cases hh
    next t' n f ho =>
      have hg := mi_lq_r q ho mi_du_l
      rw [hg]
      split at hh
      next hc => cases hh; exact ⟨g, if_pos hc, mi_kp_rf q⟩
      next => cases hh
    next => cases hh
  next k r =>
    split at hh
    next hA => cases hh; exact ⟨g, if_pos hA, mi_kp_rf q⟩
    next hA =>
      split at hh
      next hB => cases hh; exact ⟨g, (if_neg hA).trans (if_pos hB), mi_kp_rf q⟩
      next hB =>
        split at hh
        next x =>
          split at hh
          next hC => cases hh; exact ⟨g, (if_neg hA).trans ((if_neg hB).trans (if_pos hC)), mi_kp_rf q⟩
          next => cases hh
        next => cases hh
  next => cases hh
theorem mi_nar_le {t : Nat} {y : Nat → vp_A} (q : mi_lq h g) (hh : mi_nar t y pc st h c s = some z) : ∃ g', mi_nar t y pc st g c s = some (z.1, z.2.1, g', z.2.2.2) ∧ mi_kp h g z.2.2.1 g' := by
  unfold mi_nar at hh ⊢
  split at hh
  next n r =>
    split at hh
    next hA => cases hh; exact ⟨_, (if_pos hA).trans (by rw [q.1]), mi_lq_app q⟩
    next => cases hh
  next => cases hh
theorem mi_new_le {o idx : Nat} (q : mi_lq h g) (hh : mi_new o idx pc st h c s = some z) : ∃ g', mi_new o idx pc st g c s = some (z.1, z.2.1, g', z.2.2.2) ∧ mi_kp h g z.2.2.1 g' := by
  unfold mi_new at hh ⊢
  split at hh
  next ci hci =>
    try simp only [hci]
    split at hh
    next x hx =>
      try simp only [hx]
      cases hh
      exact ⟨_, by rw [q.1], mi_lq_app q⟩
    next => cases hh
  next => cases hh
theorem mi_ldc_le {o idx : Nat} (q : mi_lq h g) (hh : mi_ldc o idx pc st h c s = some z) : ∃ g', mi_ldc o idx pc st g c s = some (z.1, z.2.1, g', z.2.2.2) ∧ mi_kp h g z.2.2.1 g' := by
  unfold mi_ldc at hh ⊢
  split at hh
  next v hv =>
    try simp only [hv]
    cases hh
    exact ⟨g, rfl, mi_kp_rf q⟩
  next hv =>
    try simp only [hv]
    split at hh
    next j hj =>
      try simp only [hj]
      split at hh
      next hA => cases hh; exact ⟨g, if_pos hA, mi_kp_rf q⟩
      next => cases hh
    next => cases hh
theorem mi_ldw_le {o idx : Nat} (q : mi_lq h g) (hh : (match mi_lk (mi_il o) idx with
    | some v => some (pc, Value.int v :: st, h, c, s)
    | none => (match mi_lk (mi_sl o) idx with
      | some i => if i < mi_nS then some (pc, Value.retAddr (4 * i) :: st, h, c, s) else none
      | none => none)) = some z) : ∃ g', (match mi_lk (mi_il o) idx with
    | some v => some (pc, Value.int v :: st, g, c, s)
    | none => (match mi_lk (mi_sl o) idx with
      | some i => if i < mi_nS then some (pc, Value.retAddr (4 * i) :: st, g, c, s) else none
      | none => none)) = some (z.1, z.2.1, g', z.2.2.2) ∧ mi_kp h g z.2.2.1 g' := by
  split at hh
  next v hv =>
    try simp only [hv]
    cases hh
    exact ⟨g, rfl, mi_kp_rf q⟩
  next hv =>
    try simp only [hv]
    split at hh
    next j hj =>
      try simp only [hj]
      split at hh
      next hA => cases hh; exact ⟨g, if_pos hA, mi_kp_rf q⟩
      next => cases hh
    next => cases hh
theorem mi_ldc2_le {o idx : Nat} (q : mi_lq h g) (hh : mi_ldc2 o idx pc st h c s = some z) : ∃ g', mi_ldc2 o idx pc st g c s = some (z.1, z.2.1, g', z.2.2.2) ∧ mi_kp h g z.2.2.1 g' := by
  unfold mi_ldc2 at hh ⊢
  split at hh
  next v hv =>
    try simp only [hv]
    cases hh
    exact ⟨g, rfl, mi_kp_rf q⟩
  next => cases hh
theorem mi_gets_le {o idx : Nat} (q : mi_lq h g) (hh : mi_gets o idx pc st h c s = some z) : ∃ g', mi_gets o idx pc st g c s = some (z.1, z.2.1, g', z.2.2.2) ∧ mi_kp h g z.2.2.1 g' := by
  unfold mi_gets at hh ⊢
  split at hh
  next hv =>
    try simp only [hv]
    cases hh
    exact ⟨g, rfl, mi_kp_rf q⟩
  next hv =>
    try simp only [hv]
    cases hh
    exact ⟨g, rfl, mi_kp_rf q⟩
  next hv =>
    try simp only [hv]
    cases hh
    exact ⟨g, rfl, mi_kp_rf q⟩
  next => cases hh
theorem mi_mem_lq (q : mi_lq h g) (hh : mi_mem X M i pc st h c s = some z) : ∃ g', mi_mem X M i pc st g c s = some (z.1, z.2.1, g', z.2.2.2) ∧ mi_kp h g z.2.2.1 g' := by
  cases i
  case getfield idx => exact mi_getf_le q hh
  case putfield idx => exact mi_putf_le q hh
  case iaload =>
    dsimp only [mi_mem] at hh ⊢
    split at hh
    next z' hz =>
      cases hh
      obtain ⟨⟨g', e, k⟩, -⟩ := mi_ald_lq q hz
      exact ⟨g', by rw [e], k⟩
    next hz =>
      obtain ⟨⟨g', e, k⟩, no⟩ := mi_sld_le q hh
      exact ⟨g', by rw [no 0]; exact e, k⟩
  case baload =>
    dsimp only [mi_mem] at hh ⊢
    split at hh
    next z' hz =>
      cases hh
      obtain ⟨⟨g', e, k⟩, -⟩ := mi_ald_lq q hz
      exact ⟨g', by rw [e], k⟩
    next hz =>
      split at hh
      next z' hz2 =>
        cases hh
        obtain ⟨⟨g', e, k⟩, no⟩ := mi_ald_lq q hz2
        exact ⟨g', by rw [no 2 hz, e], k⟩
      next hz2 =>
        obtain ⟨⟨g', e, k⟩, no⟩ := mi_bld_le q hh
        exact ⟨g', by rw [no 2, no 3]; exact e, k⟩
  case laload => exact mi_lald_le q hh
  case aaload => exact mi_qld_le q hh
  case iastore => exact (mi_ast_lq q hh).1
  case bastore =>
    dsimp only [mi_mem] at hh ⊢
    split at hh
    next z' hz =>
      cases hh
      obtain ⟨⟨g', e, k⟩, -⟩ := mi_ast_lq q hz
      exact ⟨g', by rw [e], k⟩
    next hz =>
      obtain ⟨⟨g', e, k⟩, no⟩ := mi_ast_lq q hh
      exact ⟨g', by rw [no 2 _ hz]; exact e, k⟩
  case lastore => exact mi_last_le q hh
  case arraylength => exact mi_alen_le q hh
  case newarray t =>
    cases t
    case int => exact mi_nar_le (t := 0) (y := fun n => (n, .inl (fun _ => 0))) q hh
    case long => exact mi_nar_le (t := 1) (y := fun n => (n, .inr (.inl (fun _ => 0)))) q hh
    case byte => exact mi_nar_le (t := 2) (y := fun n => (n, .inl (fun _ => 0))) q hh
    case boolean => exact mi_nar_le (t := 3) (y := fun n => (n, .inl (fun _ => 0))) q hh
    all_goals (cases hh)
  case new idx => exact mi_new_le q hh
  case ldc idx => exact mi_ldc_le q hh
  case ldc_w idx => exact mi_ldw_le q hh
  case ldc2_w idx => exact mi_ldc2_le q hh
  case getstatic idx => exact mi_gets_le q hh
  all_goals (cases hh)
theorem mi_rc_le {v : Value} {o : Nat} (q : mi_lq h g) (hh : mi_rc h v o = true) : mi_rc g v o = true := by
  cases v
  case ref k =>
    unfold mi_rc at hh ⊢
    dsimp only at hh ⊢
    split at hh
    next x hx => rw [mi_lq_r q hx mi_du_r]; exact hh
    next => cases hh
  all_goals exact hh
theorem mi_cal_le {r : mi_M × List Value × List Value} (q : mi_lq h g) (hh : mi_cal M i st h = some r) : mi_cal M i st g = some r ∧ mi_mem X M i pc st g c s = none := by
  cases i
  case invokevirtual idx =>
    refine ⟨?_, rfl⟩
    unfold mi_cal at hh ⊢
    dsimp only at hh ⊢
    split at hh
    next k hk =>
      try simp only [hk]
      split at hh
      next M' hM =>
        try simp only [hM]
        split at hh
        next hA => exact (if_pos ⟨hA.1, hA.2.1, hA.2.2.1, mi_rc_le q hA.2.2.2⟩).trans hh
        next => cases hh
      next => cases hh
    next => cases hh
  case invokestatic idx => exact ⟨hh, rfl⟩
  case invokespecial idx => exact ⟨hh, rfl⟩
  all_goals (cases hh)
theorem mi_easy_mem {r : List Value} (hh : mi_easy M i st = some r) : mi_mem X M i pc st g c s = none := by
  cases i
  case invokestatic idx => rfl
  case invokespecial idx => rfl
  all_goals (unfold mi_easy at hh; cases hh)
end MLE
theorem mi_run_le {X : mi_X} : ∀ (n d : Nat) (M : mi_M) (pc : Nat) (l : mi_L) (st : List Value) (h g : mi_H) (c s : Nat) (r : mi_Z), mi_lq h g → mi_run X n d M pc l st h c s = some r → ∃ g', mi_run X n d M pc l st g c s = some (r.1, g', r.2.2) ∧ mi_kp h g r.2.1 g'
  | 0, _, _, _, _, _, _, _, _, _, _, _, hr => by
    rw [mi_run_0] at hr
    cases hr
  | n + 1, d, M, pc, l, st, h, g, c, s, r, q, hr => by
    have ih := @mi_run_le X n
    unfold mi_run at hr ⊢
    split at hr
    next t ht =>
      try simp only [ht]
      split at hr
      next hA => cases hr; exact ⟨g, if_pos hA, mi_kp_rf q⟩
      next => cases hr
    next ht =>
      try simp only [ht]
      split at hr
      next => cases hr
      next i len hi =>
        try simp only [hi]
        split at hr
        next pc' l' st' hp =>
          try simp only [hp]
          exact ih _ _ _ _ _ _ _ _ _ _ q hr
        next hp =>
          try simp only [hp]
          split at hr
          next v hv =>
            try simp only [hv]
            split at hr
            next hA => cases hr; exact ⟨g, if_pos hA, mi_kp_rf q⟩
            next => cases hr
          next hv =>
            try simp only [hv]
            split at hr
            next pc' st' h' c' s' hm =>
              obtain ⟨g1, hm', k1⟩ : ∃ g1, (if len = mi_ml2 i then mi_mem X M i pc st g c s else none) = some (pc', st', g1, c', s') ∧ mi_kp h g h' g1 := by
                split at hm
                next hl =>
                  obtain ⟨g1, e, k⟩ := mi_mem_lq q hm
                  exact ⟨g1, (if_pos hl).trans e, k⟩
                next => cases hm
              try simp only [hm']
              obtain ⟨g2, e2, k2⟩ := ih _ _ _ _ _ _ _ _ _ _ k1.1 hr
              exact ⟨g2, e2, mi_kp_tr k1 k2⟩
            next hm =>
              split at hr
              next h3 =>
                split at hr
                next => cases hr
                next d' =>
                  split at hr
                  next st' he =>
                    have hm' : (if len = mi_ml2 i then mi_mem X M i pc st g c s else none) = none := by
                      rw [mi_easy_mem he]
                      split <;> rfl
                    try simp only [hm', he]
                    rw [if_pos h3]
                    exact ih _ _ _ _ _ _ _ _ _ _ q hr
                  next he =>
                    split at hr
                    next => cases hr
                    next M' args rest hcal =>
                      obtain ⟨hcal', hno⟩ := mi_cal_le (X := X) (pc := pc) (c := c) (s := s) q hcal
                      have hm' : (if len = mi_ml2 i then mi_mem X M i pc st g c s else none) = none := by
                        rw [hno]
                        split <;> rfl
                      try simp only [hm', he, hcal']
                      rw [if_pos h3]
                      split at hr
                      next => cases hr
                      next v h' c' s' hcr =>
                        obtain ⟨g1, hcr', k1⟩ : ∃ g1, (if mi_cat args ≤ mi_nL M' then mi_run X n d' M' 0 (lv_args 0 args) [] g 0 0 else none) = some (.inl v, g1, c', s') ∧ mi_kp h g h' g1 := by
                          split at hcr
                          next hl =>
                            obtain ⟨g1, e, k⟩ := ih _ _ _ _ _ _ _ _ _ _ q hcr
                            exact ⟨g1, (if_pos hl).trans e, k⟩
                          next => cases hcr
                        try simp only [hcr']
                        obtain ⟨g2, e2, k2⟩ := ih _ _ _ _ _ _ _ _ _ _ k1.1 hr
                        exact ⟨g2, e2, mi_kp_tr k1 k2⟩
                      next x h' c' s' hcr =>
                        obtain ⟨g1, hcr', k1⟩ : ∃ g1, (if mi_cat args ≤ mi_nL M' then mi_run X n d' M' 0 (lv_args 0 args) [] g 0 0 else none) = some (.inr x, g1, c', s') ∧ mi_kp h g h' g1 := by
                          split at hcr
                          next hl =>
                            obtain ⟨g1, e, k⟩ := ih _ _ _ _ _ _ _ _ _ _ q hcr
                            exact ⟨g1, (if_pos hl).trans e, k⟩
                          next => cases hcr
                        try simp only [hcr']
                        split at hr
                        next p' hp' =>
                          try simp only [hp']
                          obtain ⟨g2, e2, k2⟩ := ih _ _ _ _ _ _ _ _ _ _ k1.1 hr
                          exact ⟨g2, e2, mi_kp_tr k1 k2⟩
                        next => cases hr
              next => cases hr
/-! what is read of known cells -/
theorem mi_fv_le {h g : mi_H} {k ci j : Nat} {v : Value} (q : mi_lq h g) (e : mi_fv h k ci j = some v) : mi_fv g k ci j = some v := by
  obtain ⟨o, h1, h2⟩ := mi_fv_inv e
  exact mi_fv_of (mi_lq_r q h1 mi_du_r) h2
theorem mi_ai_le {h g : mi_H} {k t n : Nat} {f : Nat → Int32} (q : mi_lq h g) (e : mi_ai h k = some (t, n, f)) : mi_ai g k = some (t, n, f) := mi_ai_of (mi_lq_r q (mi_ai_inv e) mi_du_i)
theorem mi_al_le {h g : mi_H} {k n : Nat} {f : Nat → Int64} (q : mi_lq h g) (e : mi_al h k = some (n, f)) : mi_al g k = some (n, f) := mi_al_of (mi_lq_r q (mi_al_inv e) mi_du_l)
end
section
/-! ===== what lies in the cells behind both constructors; the calls that know all that they need (printed by wip/gen/p1end.py) ===== -/
def mi_out : va_E := .inl (1, (Int32.ofInt 1).toNatClampNeg, .inr (.inl (fun _ => 0)))
def mi_fck (h : mi_H) (q : Nat × Nat × Nat × Value) : Bool := decide (mi_fv h q.1 q.2.1 q.2.2.1 = some q.2.2.2)
def mi_ack (h : mi_H) (q : Nat × Nat × Nat) : Bool := match mi_ai h q.1 with
  | some (t, n, _) => decide (t = q.2.1) && decide (n = q.2.2)
  | none => false
def mi_lck (h : mi_H) (k n : Nat) : Bool := match mi_al h k with
  | some (m, _) => decide (m = n)
  | none => false
theorem mi_fck_of {h : mi_H} {k ci j : Nat} {v : Value} (q : mi_fck h (k, ci, j, v) = true) : mi_fv h k ci j = some v := of_decide_eq_true q
theorem mi_ack_of {h : mi_H} {k t n : Nat} (q : mi_ack h (k, t, n) = true) : ∃ f, mi_ai h k = some (t, n, f) := by
  unfold mi_ack at q
  split at q
  next t' n' f hf =>
    simp only [Bool.and_eq_true, decide_eq_true_eq] at q
    obtain ⟨rfl, rfl⟩ := q
    exact ⟨f, hf⟩
  next => cases q
theorem mi_lck_of {h : mi_H} {k n : Nat} (q : mi_lck h k n = true) : ∃ f, mi_al h k = some (n, f) := by
  unfold mi_lck at q
  split at q
  next m f hf =>
    obtain rfl := of_decide_eq_true q
    exact ⟨f, hf⟩
  next => cases q
/-- a run that returns v and makes little -/
def mi_rk (r : Option mi_Z) (v : Value) : Bool := match r with
  | some (.inl (some w), h, c, s) => decide (w = v) && (decide (c ≤ 1000) && (decide (s ≤ 10000) && decide (h.length = 99)))
  | _ => false
theorem mi_rk_of {r : Option mi_Z} {v : Value} (q : mi_rk r v = true) : ∃ c s : Nat, r = some (.inl (some v), mi_hp r, c, s) ∧ c ≤ 1000 ∧ s ≤ 10000 ∧ (mi_hp r).length = 99 := by
  unfold mi_rk at q
  split at q
  next w h c s =>
    simp only [Bool.and_eq_true, decide_eq_true_eq] at q
    obtain ⟨rfl, h1, h2, h3⟩ := q
    exact ⟨c, s, rfl, h1, h2, h3⟩
  next => cases q
/-- the reference's constructor, over cells of which the class's are not known -/
def mi_r1d : Option mi_Z := mi_run none 3000 20 mi_M87 0 [(0, .ref 55)] [] (List.replicate 55 mi_du ++ [mi_fresh 11]) 0 0
/-- the class's cells, the others not known; the reference's cells and the law's row, the class's not known -/
def mi_hA : mi_H := mi_h0 ++ List.replicate 44 mi_du
def mi_hB : mi_H := mi_hp mi_r1d ++ [mi_out]
def mi_e0a : Option mi_Z := mi_run none 12000 20 mi_M5 0 [(0, .ref 0)] [] mi_hA 0 0
def mi_e0b : Option mi_Z := mi_run none 7000 20 mi_M92 0 [(0, .ref 55)] [] mi_hB 0 0
def mi_e1a : Option mi_Z := mi_run none 12000 20 mi_M9 0 [(0, .ref 0)] [] mi_hA 0 0
def mi_e1b : Option mi_Z := mi_run none 7000 20 mi_M97 0 [(0, .ref 55)] [] mi_hB 0 0
def mi_e2a : Option mi_Z := mi_run none 12000 20 mi_M3 0 [(0, .ref 0)] [] mi_hA 0 0
def mi_e2b : Option mi_Z := mi_run none 7000 20 mi_M88 0 [(0, .ref 55)] [] mi_hB 0 0
def mi_e3a : Option mi_Z := mi_run none 12000 20 mi_M12 0 [(0, .ref 0)] [] mi_hA 0 0
def mi_e3b : Option mi_Z := mi_run none 7000 20 mi_M113 0 [(0, .ref 55)] [] mi_hB 0 0
def mi_e4a : Option mi_Z := mi_run none 12000 20 mi_M8 0 [(0, .ref 0)] [] mi_hA 0 0
def mi_e4b : Option mi_Z := mi_run none 7000 20 mi_M96 0 [(0, .ref 55)] [] mi_hB 0 0
def mi_chk0 : Bool := mi_rk mi_e0a (.int 1)
set_option maxRecDepth 1000000 in
theorem mi_chk0_ok : mi_chk0 = true := by decide +kernel
theorem mi_chk0_l : mi_rk mi_e0a (.int 1) = true := by
  have h := mi_chk0_ok
  unfold mi_chk0 at h
  exact h
end
section
/-! ===== the next ones ===== -/
def mi_chk1 : Bool := mi_rk mi_e1a (.int (-1)) && (mi_rk mi_e2a (.int 1) && (mi_rk mi_e3a (.double 0) && (mi_rk mi_e4a (.long 11709322759) && (mi_fck mi_hA (0, 10, 0, .ref 1) && (mi_fck mi_hA (0, 10, 4, .ref 17) && (mi_fck mi_hA (0, 10, 5, .ref 26) && (mi_fck mi_hA (0, 10, 9, .ref 52) && (mi_fck mi_hA (0, 10, 10, .int 0) && (mi_fck mi_hA (17, 3, 12, .int 3) && (mi_fck mi_hA (17, 3, 13, .int 2) && (mi_fck mi_hA (17, 3, 14, .int 0) && (mi_fck mi_hA (26, 6, 7, .int 0) && (mi_fck mi_hA (52, 9, 5, .int 0) && (mi_ack mi_hA (1, 2, 1200) && (decide (mi_hA.length = 99))))))))))))))))
set_option maxRecDepth 1000000 in
theorem mi_chk1_ok : mi_chk1 = true := by decide +kernel
theorem mi_chk1_l : mi_rk mi_e1a (.int (-1)) = true ∧ mi_rk mi_e2a (.int 1) = true ∧ mi_rk mi_e3a (.double 0) = true ∧ mi_rk mi_e4a (.long 11709322759) = true ∧ mi_fck mi_hA (0, 10, 0, .ref 1) = true ∧ mi_fck mi_hA (0, 10, 4, .ref 17) = true ∧ mi_fck mi_hA (0, 10, 5, .ref 26) = true ∧ mi_fck mi_hA (0, 10, 9, .ref 52) = true ∧ mi_fck mi_hA (0, 10, 10, .int 0) = true ∧ mi_fck mi_hA (17, 3, 12, .int 3) = true ∧ mi_fck mi_hA (17, 3, 13, .int 2) = true ∧ mi_fck mi_hA (17, 3, 14, .int 0) = true ∧ mi_fck mi_hA (26, 6, 7, .int 0) = true ∧ mi_fck mi_hA (52, 9, 5, .int 0) = true ∧ mi_ack mi_hA (1, 2, 1200) = true ∧ decide (mi_hA.length = 99) = true := by
  have h := mi_chk1_ok
  unfold mi_chk1 at h
  simp only [Bool.and_eq_true] at h
  exact h
end
section
/-! ===== the reference ===== -/
def mi_chk2 : Bool := mi_rk mi_e0b (.int 1) && (mi_rk mi_e1b (.int (-1)) && (mi_rk mi_e2b (.int 1) && (mi_rk mi_e3b (.double 0) && (mi_rk mi_e4b (.long 11709322759) && (mi_fck mi_hB (55, 11, 0, .int 0) && (mi_fck mi_hB (55, 11, 1, .ref 56) && (mi_fck mi_hB (55, 11, 2, .int 0) && (mi_fck mi_hB (55, 11, 9, .int 0) && (mi_fck mi_hB (55, 11, 27, .int 1) && (mi_fck mi_hB (55, 11, 30, .int 2) && (mi_fck mi_hB (55, 11, 34, .int 0) && (mi_fck mi_hB (55, 11, 52, .int 0) && (mi_ack mi_hB (56, 0, 1200) && (mi_lck mi_hB 98 1 && (decide (mi_hB.length = 99) && (decide (mi_k0 mi_r1d = some (98, 42, 1279348))))))))))))))))))
set_option maxRecDepth 1000000 in
theorem mi_chk2_ok : mi_chk2 = true := by decide +kernel
theorem mi_chk2_l : mi_rk mi_e0b (.int 1) = true ∧ mi_rk mi_e1b (.int (-1)) = true ∧ mi_rk mi_e2b (.int 1) = true ∧ mi_rk mi_e3b (.double 0) = true ∧ mi_rk mi_e4b (.long 11709322759) = true ∧ mi_fck mi_hB (55, 11, 0, .int 0) = true ∧ mi_fck mi_hB (55, 11, 1, .ref 56) = true ∧ mi_fck mi_hB (55, 11, 2, .int 0) = true ∧ mi_fck mi_hB (55, 11, 9, .int 0) = true ∧ mi_fck mi_hB (55, 11, 27, .int 1) = true ∧ mi_fck mi_hB (55, 11, 30, .int 2) = true ∧ mi_fck mi_hB (55, 11, 34, .int 0) = true ∧ mi_fck mi_hB (55, 11, 52, .int 0) = true ∧ mi_ack mi_hB (56, 0, 1200) = true ∧ mi_lck mi_hB 98 1 = true ∧ decide (mi_hB.length = 99) = true ∧ decide (mi_k0 mi_r1d = some (98, 42, 1279348)) = true := by
  have h := mi_chk2_ok
  unfold mi_chk2 at h
  simp only [Bool.and_eq_true] at h
  exact h
end
section
/-! ===== what lies in the cells behind both constructors ===== -/
theorem mi_f_0_0 : mi_fv mi_hA 0 10 0 = some (.ref 1) := mi_fck_of mi_chk1_l.2.2.2.2.1
theorem mi_f_0_4 : mi_fv mi_hA 0 10 4 = some (.ref 17) := mi_fck_of mi_chk1_l.2.2.2.2.2.1
theorem mi_f_0_5 : mi_fv mi_hA 0 10 5 = some (.ref 26) := mi_fck_of mi_chk1_l.2.2.2.2.2.2.1
theorem mi_f_0_9 : mi_fv mi_hA 0 10 9 = some (.ref 52) := mi_fck_of mi_chk1_l.2.2.2.2.2.2.2.1
theorem mi_f_0_10 : mi_fv mi_hA 0 10 10 = some (.int 0) := mi_fck_of mi_chk1_l.2.2.2.2.2.2.2.2.1
theorem mi_f_17_12 : mi_fv mi_hA 17 3 12 = some (.int 3) := mi_fck_of mi_chk1_l.2.2.2.2.2.2.2.2.2.1
theorem mi_f_17_13 : mi_fv mi_hA 17 3 13 = some (.int 2) := mi_fck_of mi_chk1_l.2.2.2.2.2.2.2.2.2.2.1
theorem mi_f_17_14 : mi_fv mi_hA 17 3 14 = some (.int 0) := mi_fck_of mi_chk1_l.2.2.2.2.2.2.2.2.2.2.2.1
theorem mi_f_26_7 : mi_fv mi_hA 26 6 7 = some (.int 0) := mi_fck_of mi_chk1_l.2.2.2.2.2.2.2.2.2.2.2.2.1
theorem mi_f_52_5 : mi_fv mi_hA 52 9 5 = some (.int 0) := mi_fck_of mi_chk1_l.2.2.2.2.2.2.2.2.2.2.2.2.2.1
theorem mi_f_55_0 : mi_fv mi_hB 55 11 0 = some (.int 0) := mi_fck_of mi_chk2_l.2.2.2.2.2.1
theorem mi_f_55_1 : mi_fv mi_hB 55 11 1 = some (.ref 56) := mi_fck_of mi_chk2_l.2.2.2.2.2.2.1
theorem mi_f_55_2 : mi_fv mi_hB 55 11 2 = some (.int 0) := mi_fck_of mi_chk2_l.2.2.2.2.2.2.2.1
theorem mi_f_55_9 : mi_fv mi_hB 55 11 9 = some (.int 0) := mi_fck_of mi_chk2_l.2.2.2.2.2.2.2.2.1
theorem mi_f_55_27 : mi_fv mi_hB 55 11 27 = some (.int 1) := mi_fck_of mi_chk2_l.2.2.2.2.2.2.2.2.2.1
theorem mi_f_55_30 : mi_fv mi_hB 55 11 30 = some (.int 2) := mi_fck_of mi_chk2_l.2.2.2.2.2.2.2.2.2.2.1
theorem mi_f_55_34 : mi_fv mi_hB 55 11 34 = some (.int 0) := mi_fck_of mi_chk2_l.2.2.2.2.2.2.2.2.2.2.2.1
theorem mi_f_55_52 : mi_fv mi_hB 55 11 52 = some (.int 0) := mi_fck_of mi_chk2_l.2.2.2.2.2.2.2.2.2.2.2.2.1
theorem mi_f_a1 : ∃ g, mi_ai mi_hA 1 = some (2, 1200, g) := mi_ack_of mi_chk1_l.2.2.2.2.2.2.2.2.2.2.2.2.2.2.1
theorem mi_f_a56 : ∃ g, mi_ai mi_hB 56 = some (0, 1200, g) := mi_ack_of mi_chk2_l.2.2.2.2.2.2.2.2.2.2.2.2.2.1
theorem mi_f_a98 : ∃ f, mi_al mi_hB 98 = some (1, f) := mi_lck_of mi_chk2_l.2.2.2.2.2.2.2.2.2.2.2.2.2.2.1
theorem mi_f_lenA : mi_hA.length = 99 := of_decide_eq_true mi_chk1_l.2.2.2.2.2.2.2.2.2.2.2.2.2.2.2
theorem mi_f_lenB : mi_hB.length = 99 := of_decide_eq_true mi_chk2_l.2.2.2.2.2.2.2.2.2.2.2.2.2.2.2.1
theorem mi_r1d_k : mi_k0 mi_r1d = some (98, 42, 1279348) := of_decide_eq_true mi_chk2_l.2.2.2.2.2.2.2.2.2.2.2.2.2.2.2.2
/-- the class's own cells are not known to the reference's constructor: it leaves them as they are -/
theorem mi_lq_0 : mi_lq (List.replicate 55 mi_du ++ [mi_fresh 11]) (mi_h0 ++ [mi_fresh 11]) := by
  have l0 : mi_h0.length = 55 := (mi_k0_ok mi_r0_k).2
  refine ⟨by simp [l0], fun k => ?_⟩
  by_cases hk : k < 55
  · refine Or.inr ?_
    rw [List.getElem?_append_left (by simpa using hk), List.getElem?_replicate, if_pos hk]
  · refine Or.inl ?_
    rw [List.getElem?_append_right (by simp; omega), List.getElem?_append_right (by omega), l0]
    simp
theorem mi_both : ∃ h1 : mi_H, mi_run none 3000 20 mi_M87 0 [(0, .ref 55)] [] (mi_h0 ++ [mi_fresh 11]) 0 0 = some (.inl none, h1, 42, 1279348) ∧ h1.length = 98 ∧ mi_lq mi_hA (h1 ++ [mi_out]) ∧ mi_lq mi_hB (h1 ++ [mi_out]) := by
  obtain ⟨e, ln⟩ := mi_k0_ok mi_r1d_k
  obtain ⟨h1, e1, k1⟩ := mi_run_le 3000 20 mi_M87 0 [(0, .ref 55)] [] _ _ 0 0 _ mi_lq_0 e
  dsimp only at k1 e1
  have l0 : mi_h0.length = 55 := (mi_k0_ok mi_r0_k).2
  have l1 : h1.length = 98 := k1.1.1.symm.trans ln
  refine ⟨h1, e1, l1, ⟨by rw [mi_f_lenA]; simp [l1], fun k => ?_⟩, (mi_lq_app k1.1).1⟩
  by_cases hk : k < 55
  · refine Or.inl ?_
    have h2 := k1.2 k (by rw [List.getElem?_append_left (by simpa using hk), List.getElem?_replicate, if_pos hk])
    have h3 : mi_hA[k]? = mi_h0[k]? := List.getElem?_append_left (by rw [l0]; exact hk)
    rw [h3, List.getElem?_append_left (by rw [l1]; omega), h2.1, List.getElem?_append_left (by rw [l0]; exact hk)]
  · by_cases hk2 : k < 99
    · refine Or.inr ?_
      have h3 : mi_hA[k]? = (List.replicate 44 mi_du)[k - mi_h0.length]? := List.getElem?_append_right (by rw [l0]; omega)
      rw [h3, List.getElem?_replicate, if_pos (by rw [l0]; omega)]
    · refine Or.inl ?_
      rw [List.getElem?_eq_none (by rw [mi_f_lenA]; omega), List.getElem?_eq_none (by simp [l1]; omega)]
theorem mi_hB_du (k : Nat) (hk : k < 55) : mi_hB[k]? = some mi_du := by
  obtain ⟨e, ln⟩ := mi_k0_ok mi_r1d_k
  obtain ⟨h1, e1, k1⟩ := mi_run_le 3000 20 mi_M87 0 [(0, .ref 55)] [] _ _ 0 0 _ mi_lq_0 e
  dsimp only at k1 e1
  have h2 := (k1.2 k (by rw [List.getElem?_append_left (by simpa using hk), List.getElem?_replicate, if_pos hk])).2
  have h3 : mi_hB[k]? = (mi_hp mi_r1d)[k]? := by
    unfold mi_hB
    exact List.getElem?_append_left (by rw [ln]; omega)
  rw [h3]
  exact h2
theorem mi_hA_du (k : Nat) (h1 : 55 ≤ k) (h2 : k < 99) : mi_hA[k]? = some mi_du := by
  have l0 : mi_h0.length = 55 := (mi_k0_ok mi_r0_k).2
  have h3 : mi_hA[k]? = (List.replicate 44 mi_du)[k - mi_h0.length]? := List.getElem?_append_right (by rw [l0]; omega)
  rw [h3, List.getElem?_replicate, if_pos (by rw [l0]; omega)]
/-- a call of the class that was evaluated: it leaves the reference's cells -/
theorem mi_eA {M : mi_M} {n : Nat} {v : Value} (q : mi_rk (mi_run none n 20 M 0 [(0, .ref 0)] [] mi_hA 0 0) v = true) {g : mi_H} (qA : mi_lq mi_hA g) (qB : mi_lq mi_hB g) (X : mi_X) : ∃ (g' : mi_H) (c s : Nat), mi_wp X 20 M 0 [(0, .ref 0)] [] g 0 0 (fun z => z = (.inl (some v), g', c, s)) ∧ mi_lq mi_hB g' ∧ c ≤ 1000 ∧ s ≤ 10000 := by
  obtain ⟨c, s, h, h1, h2, h3⟩ := mi_rk_of q
  obtain ⟨g', e, k⟩ := mi_run_le _ _ _ _ _ _ _ _ _ _ _ qA h
  have lg : g'.length = 99 := k.1.1.symm.trans h3
  refine ⟨g', c, s, mi_wp_run (Or.inl rfl) e rfl, ⟨mi_f_lenB.trans lg.symm, fun j => ?_⟩, h1, h2⟩
  by_cases hj : j < 55
  · exact Or.inr (mi_hB_du j hj)
  · by_cases hj2 : j < 99
    · rw [(k.2 j (mi_hA_du j (by omega) hj2)).1]
      exact qB.2 j
    · refine Or.inl ?_
      rw [List.getElem?_eq_none (by rw [mi_f_lenB]; omega), List.getElem?_eq_none (by rw [lg]; omega)]
/-- a call of the reference that was evaluated -/
theorem mi_eB {M : mi_M} {n : Nat} {v : Value} (q : mi_rk (mi_run none n 20 M 0 [(0, .ref 55)] [] mi_hB 0 0) v = true) {g : mi_H} (qB : mi_lq mi_hB g) (X : mi_X) : ∃ (g' : mi_H) (c s : Nat), mi_wp X 20 M 0 [(0, .ref 55)] [] g 0 0 (fun z => z = (.inl (some v), g', c, s)) ∧ c ≤ 1000 ∧ s ≤ 10000 := by
  obtain ⟨c, s, h, h1, h2, -⟩ := mi_rk_of q
  obtain ⟨g', e, -⟩ := mi_run_le _ _ _ _ _ _ _ _ _ _ _ qB h
  exact ⟨g', c, s, mi_wp_run (Or.inl rfl) e rfl, h1, h2⟩
end
section
/-! ===== the law, from its entry to its end (printed by wip/gen/p1end.py) ===== -/
section MEN
variable {X : mi_X} {d : Nat} {M : mi_M} {pc c s : Nat} {l : mi_L} {st : List Value} {h : mi_H} {Q : mi_Z → Prop}
theorem mi_wp_new {idx ci k : Nat} {q : vw_C} (ht : mi_lk (mi_th M) pc = none) (hi : mi_lk (mi_cd M) pc = some (.new idx, 3)) (hk : mi_lk (mi_kl (mi_ow M)) idx = some ci) (hq : mi_cl[ci]? = some q) (hl : h.length = k) (kk : mi_wp X d M (pc + 3) l (.ref k :: st) (h ++ [mi_fresh ci]) (c + 1) (s + q.2.2) Q) : mi_wp X d M pc l st h c s Q := by
  subst hl
  refine mi_wp_m ht hi rfl (by unfold mi_ret; rfl) rfl ?_ kk
  show mi_new (mi_ow M) idx (pc + 3) st h c s = _
  unfold mi_new mi_fresh
  simp only [hk, hq]
theorem mi_wp_nal {k : Nat} {n : Int32} {r : List Value} (ht : mi_lk (mi_th M) pc = none) (hi : mi_lk (mi_cd M) pc = some (.newarray .long, 2)) (hl : h.length = k) (hb : mi_inb n 200001 = true) (kk : mi_wp X d M (pc + 2) l (.ref k :: r) (h ++ [.inl (1, n.toNatClampNeg, .inr (.inl (fun _ => 0)))]) (c + 1) (s + n.toNatClampNeg) Q) : mi_wp X d M pc l (.int n :: r) h c s Q := by
  subst hl
  refine mi_wp_m ht hi rfl (by unfold mi_ret; rfl) rfl ?_ kk
  show mi_nar 1 (fun n => (n, .inr (.inl (fun _ => 0)))) (pc + 2) (.int n :: r) h c s = _
  unfold mi_nar
  exact if_pos hb
end MEN
theorem mi_lt6 : ∀ L : Nat, L < 6 → mi_cc .gt (Int32.ofInt 0) (Int32.ofNat L - (Int8.ofInt 6).toInt32) = true := by decide +kernel
theorem mi_and15 (x : Int32) : ∃ k : Nat, k < 16 ∧ x &&& (Int8.ofInt 15).toInt32 = Int32.ofNat k := by
  have hv : (x &&& (Int8.ofInt 15).toInt32).toBitVec = x.toBitVec &&& ((Int8.ofInt 15).toInt32).toBitVec := Int32.toBitVec_and _ _
  have hm : ((Int8.ofInt 15).toInt32).toBitVec.toNat = 15 := by decide +kernel
  refine ⟨(x &&& (Int8.ofInt 15).toInt32).toBitVec.toNat, ?_, ?_⟩
  · rw [hv, BitVec.toNat_and, hm]
    exact Nat.lt_succ_of_le Nat.and_le_right
  · refine Int32.toBitVec_inj.mp ?_
    show _ = BitVec.ofNat 32 _
    rw [BitVec.ofNat_toNat, BitVec.setWidth_eq]
/-- how the law is to end -/
abbrev mi_Qe : mi_Z → Prop := fun z => ∃ h' c' s', z = (.inl (some (.int 1)), h', c', s') ∧ c' ≤ 600002 ∧ s' ≤ 7302232
theorem mi_Qe_of {c s : Nat} (hc : c ≤ 590000) (hs : s ≤ 7000000) : ∀ z : mi_Z, (∃ h' c' s', z = (.inl (some (.int (Int32.ofInt 1))), h', c', s') ∧ c' ≤ c + 5000 ∧ s' ≤ s + 50000) → mi_Qe z := fun z ⟨h', c', s', e, g1, g2⟩ =>
  ⟨h', c', s', by rw [e, show Int32.ofInt 1 = 1 by decide +kernel], by omega, by omega⟩
theorem mi_cnt {x : Int32} (h0 : ¬ x = 0) (h1 : ¬ x = 1) (h2 : ¬ x = 2) (h3 : ¬ x = 3) (h4 : ¬ x = 4) : (x < 0 ∨ Int32.ofInt 5 ≤ x) ∧ (x < Int32.ofInt 0 ∨ Int32.ofInt 4 < x) := by
  have e : ∀ y : Int32, ¬ x = y → x.toInt ≠ y.toInt := fun y hy q => hy (Int32.toInt_inj.mp q)
  have g0 := e 0 h0
  have g1 := e 1 h1
  have g2 := e 2 h2
  have g3 := e 3 h3
  have g4 := e 4 h4
  rw [show (0 : Int32).toInt = 0 by decide] at g0
  rw [show (1 : Int32).toInt = 1 by decide] at g1
  rw [show (2 : Int32).toInt = 2 by decide] at g2
  rw [show (3 : Int32).toInt = 3 by decide] at g3
  rw [show (4 : Int32).toInt = 4 by decide] at g4
  simp only [Int32.lt_iff_toInt_lt, Int32.le_iff_toInt_le]
  rw [show (0 : Int32).toInt = 0 by decide, show (Int32.ofInt 5).toInt = 5 by decide, show (Int32.ofInt 0).toInt = 0 by decide, show (Int32.ofInt 4).toInt = 4 by decide]
  omega
set_option maxHeartbeats 1000000 in
theorem mi_road {xs : Nat → Int32} {c s k : Nat} {h2 : mi_H} (qA : mi_lq mi_hA h2) (qB : mi_lq mi_hB h2) (hk : k < 16) (hx : xs 0 &&& (Int8.ofInt 15).toInt32 = Int32.ofNat k) : mi_wp (some (6, xs)) 21 mi_ML 40 [(4, .int (Int32.ofInt 0)), (3, .ref 98), (2, .ref 55), (1, .ref 0), (0, .retAddr 3)] [.int (Int32.ofNat k)] h2 c s (fun z => ∃ h' c' s', z = (.inl (some (.int (Int32.ofInt 1))), h', c', s') ∧ c' ≤ c + 5000 ∧ s' ≤ s + 50000) := by
  obtain ⟨g, a0⟩ := mi_f_a1
  obtain ⟨g2, a2⟩ := mi_f_a56
  obtain ⟨f, a1⟩ := mi_f_a98
  replace a0 := mi_ai_le qA a0
  replace a2 := mi_ai_le qB a2
  replace a1 := mi_al_le qB a1
  have hl : h2.length = 99 := qA.1.symm.trans mi_f_lenA
  have hk2 : k = 0 ∨ k = 1 ∨ k = 2 ∨ k = 3 ∨ k = 4 ∨ k = 5 ∨ k = 6 ∨ k = 7 ∨ k = 8 ∨ k = 9 ∨ k = 10 ∨ k = 11 ∨ k = 12 ∨ k = 13 ∨ k = 14 ∨ k = 15 := by omega
  rcases hk2 with rfl | rfl | rfl | rfl | rfl | rfl | rfl | rfl | rfl | rfl | rfl | rfl | rfl | rfl | rfl | rfl
  · refine mi_wp_p (pc' := 120) rfl rfl rfl ?_
    exact (mi_L_feed rfl rfl rfl rfl rfl (mi_fv_le qA mi_f_0_10) (mi_fv_le qA mi_f_0_0) (mi_fv_le qB mi_f_55_0) (mi_fv_le qB mi_f_55_2) (mi_fv_le qB mi_f_55_1) a0 a2 a1 hl)
  · refine mi_wp_p (pc' := 224) rfl rfl rfl ?_
    by_cases hne : xs 1 = 0
    · exact (mi_L_trim0 (mi_fv_le qA mi_f_0_10) (mi_fv_le qB mi_f_55_0) (mi_fv_le qB mi_f_55_2) a1 hne)
    · exact (mi_L_trim rfl (mi_fv_le qA mi_f_0_10) (mi_fv_le qB mi_f_55_0) (mi_fv_le qB mi_f_55_2) hne)
  · refine mi_wp_p (pc' := 280) rfl rfl rfl ?_
    obtain ⟨h3, c1, s1, k1, qC, b1, b3⟩ := mi_eA mi_chk0_l qA qB (some (6, xs))
    obtain ⟨h4, c2, s2, k2, b2, b4⟩ := mi_eB mi_chk2_l.1 qC (some (6, xs))
    have r0 := mi_fv_le qC mi_f_55_0
    exact (mi_L_compile (mi_fv_le qA mi_f_0_10) r0 k1 k2 b1 b2 b3 b4)
  · refine mi_wp_p (pc' := 293) rfl rfl rfl ?_
    obtain ⟨h3, c1, s1, k1, qC, b1, b3⟩ := mi_eA mi_chk1_l.1 qA qB (some (6, xs))
    obtain ⟨h4, c2, s2, k2, b2, b4⟩ := mi_eB mi_chk2_l.2.1 qC (some (6, xs))
    have r0 := mi_fv_le qC mi_f_55_0
    exact (mi_L_errorAt (mi_fv_le qA mi_f_0_10) r0 k1 k2 b1 b2 b3 b4)
  · refine mi_wp_p (pc' := 306) rfl rfl rfl ?_
    by_cases h0 : xs 1 = 0
    · exact (mi_L_count0 (mi_fv_le qA mi_f_0_4) (mi_fv_le qA mi_f_17_12) (mi_fv_le qB mi_f_55_0) (mi_fv_le qB mi_f_55_27) a1 h0)
    by_cases h1 : xs 1 = 1
    · exact (mi_L_count1 (mi_fv_le qA mi_f_0_4) (mi_fv_le qA mi_f_17_13) (mi_fv_le qB mi_f_55_0) (mi_fv_le qB mi_f_55_30) a1 h1)
    by_cases h2 : xs 1 = 2
    · exact (mi_L_count2 (mi_fv_le qA mi_f_0_4) (mi_fv_le qA mi_f_17_14) (mi_fv_le qB mi_f_55_0) (mi_fv_le qB mi_f_55_34) a1 h2)
    by_cases h3 : xs 1 = 3
    · exact (mi_L_count3 (mi_fv_le qA mi_f_0_10) (mi_fv_le qB mi_f_55_0) (mi_fv_le qB mi_f_55_2) a1 h3)
    by_cases h4 : xs 1 = 4
    · exact (mi_L_count4 (mi_fv_le qA mi_f_0_9) (mi_fv_le qA mi_f_52_5) (mi_fv_le qB mi_f_55_0) (mi_fv_le qB mi_f_55_9) a1 h4)
    obtain ⟨hx, hy⟩ := mi_cnt h0 h1 h2 h3 h4
    exact (mi_L_count rfl (mi_fv_le qA mi_f_0_10) (mi_fv_le qB mi_f_55_0) hx hy)
  · refine mi_wp_p (pc' := 362) rfl rfl rfl ?_
    exact (mi_L_write rfl (mi_fv_le qA mi_f_0_4) (mi_fv_le qA mi_f_17_14) (mi_fv_le qB mi_f_55_0) (mi_fv_le qB mi_f_55_34))
  · refine mi_wp_p (pc' := 418) rfl rfl rfl ?_
    exact (mi_L_writeConstructor rfl (mi_fv_le qA mi_f_0_4) (mi_fv_le qA mi_f_17_13) (mi_fv_le qB mi_f_55_0) (mi_fv_le qB mi_f_55_30))
  · refine mi_wp_p (pc' := 474) rfl rfl rfl ?_
    exact (mi_L_writeAt rfl (mi_fv_le qA mi_f_0_5) (mi_fv_le qA mi_f_26_7) (mi_fv_le qB mi_f_55_0) (mi_fv_le qB mi_f_55_52))
  · refine mi_wp_p (pc' := 530) rfl rfl rfl ?_
    exact (mi_L_byteAt rfl (mi_fv_le qA mi_f_0_9) (mi_fv_le qA mi_f_52_5) (mi_fv_le qB mi_f_55_0) (mi_fv_le qB mi_f_55_9))
  · refine mi_wp_p (pc' := 586) rfl rfl rfl ?_
    exact (mi_L_measure rfl rfl (mi_fv_le qA mi_f_0_4) (mi_fv_le qA mi_f_17_14) (mi_fv_le qB mi_f_55_0) (mi_fv_le qB mi_f_55_34))
  · refine mi_wp_p (pc' := 654) rfl rfl rfl ?_
    exact (mi_L_uses rfl rfl (mi_fv_le qA mi_f_0_4) (mi_fv_le qA mi_f_17_14) (mi_fv_le qB mi_f_55_0) (mi_fv_le qB mi_f_55_34))
  · refine mi_wp_p (pc' := 722) rfl rfl rfl ?_
    exact (mi_L_covers rfl rfl (mi_fv_le qA mi_f_0_4) (mi_fv_le qA mi_f_17_14) (mi_fv_le qB mi_f_55_0) (mi_fv_le qB mi_f_55_34))
  · refine mi_wp_p (pc' := 797) rfl rfl rfl ?_
    exact (mi_L_meet rfl rfl (mi_fv_le qA mi_f_0_4) (mi_fv_le qA mi_f_17_14) (mi_fv_le qB mi_f_55_0) (mi_fv_le qB mi_f_55_34))
  · refine mi_wp_p (pc' := 865) rfl rfl rfl ?_
    obtain ⟨h3, c1, s1, k1, qC, b1, b3⟩ := mi_eA mi_chk1_l.2.1 qA qB (some (6, xs))
    obtain ⟨h4, c2, s2, k2, b2, b4⟩ := mi_eB mi_chk2_l.2.2.1 qC (some (6, xs))
    have r0 := mi_fv_le qC mi_f_55_0
    exact (mi_L_ask (mi_fv_le qA mi_f_0_10) r0 k1 k2 b1 b2 b3 b4)
  · refine mi_wp_p (pc' := 878) rfl rfl rfl ?_
    obtain ⟨h3, c1, s1, k1, qC, b1, b3⟩ := mi_eA mi_chk1_l.2.2.1 qA qB (some (6, xs))
    obtain ⟨h4, c2, s2, k2, b2, b4⟩ := mi_eB mi_chk2_l.2.2.2.1 qC (some (6, xs))
    have r0 := mi_fv_le qC mi_f_55_0
    exact (mi_L_meanParts (mi_fv_le qA mi_f_0_10) r0 k1 k2 b1 b2 b3 b4)
  · refine mi_wp_p (pc' := 919) rfl rfl rfl ?_
    obtain ⟨h3, c1, s1, k1, qC, b1, b3⟩ := mi_eA mi_chk1_l.2.2.2.1 qA qB (some (6, xs))
    obtain ⟨h4, c2, s2, k2, b2, b4⟩ := mi_eB mi_chk2_l.2.2.2.2.1 qC (some (6, xs))
    have r0 := mi_fv_le qC mi_f_55_0
    exact (mi_L_digest (mi_fv_le qA mi_f_0_10) r0 k1 k2 b1 b2 b3 b4)
set_option maxRecDepth 100000 in
set_option maxHeartbeats 1000000 in
theorem mi_all {L : Nat} {xs : Nat → Int32} (hL : L ≤ 6) : mi_wp (some (L, xs)) 21 mi_ML 0 [(0, .retAddr 3)] [] [] 0 0 mi_Qe := by
  have k0 : mi_wp (some (L, xs)) 20 mi_M0 0 [(0, .ref 0)] [] ([] ++ [mi_fresh 10]) 0 0 (fun z => z = (.inl none, mi_h0, 54, 24825)) := mi_wp_run (Or.inl rfl) (n := 9000) (mi_k0_ok mi_r0_k).1 rfl
  obtain ⟨h1, e1, l1, qA, qB⟩ := mi_both
  have k1 : mi_wp (some (L, xs)) 20 mi_M87 0 [(0, .ref 55)] [] (mi_h0 ++ [mi_fresh 11]) 0 0 (fun z => z = (.inl none, h1, 42, 1279348)) := mi_wp_run (Or.inl rfl) (n := 3000) e1 rfl
  have l0 : mi_h0.length = 55 := (mi_k0_ok mi_r0_k).2
  refine mi_wp_new rfl rfl rfl rfl rfl ?_
  refine mi_wp_p (pc' := 4) rfl rfl rfl ?_
  refine mi_wp_c1 rfl rfl rfl rfl rfl rfl rfl (Nat.le_of_ble_eq_true rfl) k0 ?_
  refine mi_wp_p (pc' := 8) rfl rfl rfl ?_
  refine mi_wp_new rfl rfl rfl rfl l0 ?_
  refine mi_wp_p (pc' := 12) rfl rfl rfl ?_
  refine mi_wp_c1 rfl rfl rfl rfl rfl rfl rfl (Nat.le_of_ble_eq_true rfl) k1 ?_
  refine mi_wp_p (pc' := 16) rfl rfl rfl ?_
  refine mi_wp_p (pc' := 17) rfl rfl rfl ?_
  refine mi_wp_nal rfl rfl l1 (by decide +kernel) ?_
  refine mi_wp_p (pc' := 20) rfl rfl rfl ?_
  refine mi_wp_p (pc' := 21) rfl rfl rfl ?_
  refine mi_wp_p (pc' := 23) rfl rfl rfl ?_
  refine mi_wp_p (pc' := 25) rfl rfl rfl ?_
  refine mi_wp_p (pc' := 26) rfl rfl rfl ?_
  refine mi_wp_slen rfl rfl ?_
  refine mi_wp_p (pc' := 29) rfl rfl rfl ?_
  refine mi_wp_p (pc' := 30) rfl rfl rfl ?_
  by_cases h6 : L < 6
  · refine mi_wp_p (pc' := 939) rfl rfl (mi_br2 (b := true) (t := 939) (mi_lt6 L h6) rfl) ?_
    refine mi_wp_p (pc' := 940) rfl rfl rfl ?_
    have e1 : (Int32.ofInt 1).toNatClampNeg = 1 := by decide +kernel
    have e2 : Int32.ofInt 1 = 1 := by decide +kernel
    exact mi_wp_r rfl rfl rfl rfl ⟨_, _, _, mi_zi e2, by decide, by rw [e1]; decide⟩
  · obtain rfl : L = 6 := by omega
    refine mi_wp_p (pc' := 33) rfl rfl (mi_br2 (b := false) (t := 939) (by decide +kernel) rfl) ?_
    refine mi_wp_p (pc' := 34) rfl rfl rfl ?_
    refine mi_wp_p (pc' := 36) rfl rfl rfl ?_
    refine mi_wp_sld rfl rfl (by decide +kernel) (k := 0) (by decide +kernel) rfl ?_
    refine mi_wp_p (pc' := 39) rfl rfl rfl ?_
    refine mi_wp_p (pc' := 40) rfl rfl rfl ?_
    obtain ⟨k, hk, hx⟩ := mi_and15 (xs 0)
    rw [hx]
    refine mi_wp_q (mi_road qA qB hk hx) (mi_Qe_of ?_ ?_)
    · decide
    · rw [show (Int32.ofInt 1).toNatClampNeg = 1 by decide +kernel]
      decide
end
section
/-- YOUR PART: from the entry, for every script of at most 6 ints, the law comes to its end with true ('hflags': the launch's flags, for a law that throws: no stack traces) -/
theorem whole_start {p : Program} {e : Env} {s : State} {m : MethodId} {below : List Frame} {meth : Method} {c : Code} (l : Launch) (hflags : l.flags = flags0) {b L : Nat} {xs : Nat → Int32} (hL : L ≤ 6) (C0 : lw_At p s m meth c b L xs) : W p l e room_1 s m #[Value.ref b] below meth c s.heap [] 0 0 (lw_Z below #[Value.ref b] s) (entryFrame m ([Value.ref b] : List Value).toArray 9) := by
  obtain ⟨n, z, hr, h', c', s', rfl, hc, hs⟩ := mi_all (xs := xs) hL
  exact mi_lawW l hflags C0 (n := n) (d := 21) (by decide) (by decide) hr hc hs
set_option maxHeartbeats 4000000 in
theorem lw_walk (l : Launch) (hflags : l.flags = flags0) (b : Addr) (xs : List Int32) : MetFree l x (headSpec (Jvm.Cond.code x code maxLocals ret :: tables_1) room_1) (lw_P b xs) (fun _ _ _ _ _ => True) lw_Q := by
  refine MetFree.of_bodyS (code := code) (maxLocals := maxLocals) (ret := ret) (by decide) ?_ ?_
  · intro args s m h hn
    obtain ⟨meth, c, h1, h2, h3, h4, h5, h6, -, -⟩ := Cond.code_spec hn (atoms_spec (ws := Jvm.Cond.code x code maxLocals ret :: tables_1) h _ List.mem_cons_self)
    exact ⟨meth, c, h1, h2, h3, h4, h5, h6⟩
  · intro p e s m args below meth c s₁ B hml0 hP _
    obtain ⟨rfl, hx, hbd, hgv⟩ := hP
    obtain ⟨scr, harrAt, hlist, hof, hsmall⟩ := hx
    obtain ⟨hcb, hkn, -, -⟩ := State.arrayAt?_spec harrAt
    have hown : s.vm.findClass R_law = some m.cls := findClass_of_methodNamed B.named
    have hts0 : ∀ c ∈ (Jvm.Cond.code x code maxLocals ret :: tables_1), c.before #[Value.ref b] s = true := atoms_spec (ws := Jvm.Cond.code x code maxLocals ret :: tables_1) B.pre
    have hts : ∀ w ∈ lw_tbl, w.before #[Value.ref b] s = true := k2_hts_sels lw_privs (fun w hw => hts0 w (List.mem_cons_of_mem _ hw)) lw_privs_ok
    have hml : c.maxLocals = 9 := B.maxLocals_eq (hts0 _ List.mem_cons_self)
    have X₀ : Stand p l e room_1 s m #[Value.ref b] below meth c s₁ [] 0 0 := Stand.of_body B
    have hh0 : s₁.heap = s.heap := by rw [B.state]; rfl
    have hsz : scr.slots.size = xs.length := by rw [← Array.length_toList, hlist, List.length_map]
    have hval : ∀ j : Nat, j < xs.length → scr.slots[j]? = some (.int (xs.getD j 0)) := fun j hj => by
      rw [← Array.getElem?_toList, hlist]
      simp [hj]
    have hbl : b < s.heap.size := (Array.getElem?_eq_some_iff.mp hcb).1
    have hX : va_X b xs.length (fun j => xs.getD j 0) s s.heap := ⟨scr, hcb, hof, hkn, hsz, hval⟩
    have K : W p l e room_1 s m #[Value.ref b] below meth c s₁.heap [] 0 0 (lw_Z below #[Value.ref b] s) (entryFrame m ([Value.ref b] : List Value).toArray 9) := by
      rw [hh0]
      exact whole_start l hflags hbd ⟨B.exec, B.bytes, B.returns, hml, hown, hts, hX, hbl, B.notSynchronized, hgv⟩
    obtain ⟨t, a1, o, b1, b2, b3⟩ := K s₁ rfl X₀
    exact ⟨t, o, a1, b1, b2, b3⟩
theorem lw_pre_spec {args : Array Value} {s : State} (h : (Jvm.Cond.and given_1 narrow_1).before args s = true) (hr : rest_1_c.before args s = true) : ∃ (b : Addr) (xs : List Int32), lw_P b xs args s := by
  have hs := flat_of_before _ h
  have hq := flat_of_before _ hr
  have hc : (Cond.count 1).before args s = true := hs _ (by decide +kernel)
  have harr : (Cond.arrayOf (.arg 0) .int).before args s = true := hs _ (by decide +kernel)
  have hle : (Cond.le (.length (.arg 0)) (.int 6)).before args s = true := hs _ (by decide +kernel)
  have hlen : (Cond.isInt (.length (.arg 0))).before args s = true := hq _ (by decide +kernel)
  have hall : (Cond.all (.arg 0) (.isInt (.elem (.arg 0) (.index 0)))).before args s = true := hq _ (by decide +kernel)
  obtain ⟨b, xs, hb, hx⟩ := State.ints_of_pre rfl harr hlen hall
  have hsm : xs.length < 2 ^ 31 := hx.choose_spec.2.2.2
  have hev : (Term.length (.arg 0)).eval args s none [] s = some (.int xs.length.toInt32) := hx.length_eval hb
  have hv := Cond.le_ints hev (show (Term.int 6).eval args s none [] s = some (.int 6) from rfl)
  have hd : xs.length.toInt32 ≤ 6 := by
    simpa [Cond.before, Cond.holds, hv] using hle
  have hN : xs.length ≤ 6 := (Int32.ofNat_le_ofNat hsm (by decide)).mp (show Int32.ofNat xs.length ≤ Int32.ofNat 6 from hd)
  exact ⟨b, xs, Cond.one_arg hc (show args[0]? = some (.ref b) from hb), hx, hN, h⟩
theorem lw_comes (l : Launch) (hflags : l.flags = flags0) : Comes l x (Jvm.Cond.code x code maxLocals ret :: tables_1) room_1 (fun tb e args s => Calls_1 tb e args s ∧ rest_1 tb e args s ∧ Pre_1 tb e args s)
    (fun _ _ args s o t => lw_Q args s o t) := by
  intro p e ha hc hk s m args below hf hfit hheap happ hpre
  obtain ⟨b, xs, hP⟩ := lw_pre_spec hpre.2.2 hpre.2.1
  obtain ⟨k, o, h1, h2, h3, hQ⟩ := lw_walk l hflags b xs p e ha hc hk s m args below hf ((Spec.applies_iff_loose hf).mp happ).1 hP trivial
  exact ⟨k, o, h1, h2, h3, hQ⟩
theorem lw_frame {s t : State} {o : Outcome} {args : Array Value} (h : State.butDraws s t lw_cs (fun t1 => Framed s o t1 [] 600002 7302232)) :
    State.butDraws s t [Jvm.Choice.named "NaN.bits"] (fun t1 => Framed s o t1 (fieldLocs frame_1_writes args s ++ arrayLocs frame_1_arrays args s ++ staticLocs frame_1_statics s) 600002 7302232) := h
theorem lw_limb (L : Cond) (hL : ∀ (args : Array Value) (s t : State), L.after args s (.returned (some (.int 1))) t = true) :
    ArmFor flags0 classFile x code maxLocals ret World_1 tables_1 room_1 Calls_1 rest_1 Pre_1
      (fun tb e a s o t => postC L tb e a s o t ∧ State.butDraws s t [Jvm.Choice.named "NaN.bits"] (fun t1 => Framed s o t1 (fieldLocs frame_1_writes a s ++ arrayLocs frame_1_arrays a s ++ staticLocs frame_1_statics s) 600002 7302232)) := by
  intro l hflags _ _ p e ha hc hk s m args below hf hfit hheap happ hpre
  obtain ⟨k, o, h1, h2, h3, rfl, hF⟩ := lw_comes l hflags p e ha hc hk s m args below hf hfit hheap happ hpre
  exact ⟨k, _, h1, h2, h3, hL args s _, lw_frame hF⟩
theorem i_vc : Claimed_1_1 ∧ Claimed_1_2 := ⟨lw_limb limb_1_1 (fun args s t => by simp [limb_1_1, Cond.after, Cond.holds, Cond.value]), lw_limb limb_1_2 (fun args s t => Cond.after_iff.mpr (by
  first | (rw [show limb_1_2 = Cond.eq .result (.int 1) from rfl, Cond.eq_ints (x := 1) (y := 1) rfl rfl]; simp; done) | (simp [limb_1_2, Cond.value, Term.eval]; done)))⟩
end
